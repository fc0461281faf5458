def wq_X0_change_20 : List Cond := [.code yX0_change cX0_change 6 (some .boolean), .methodLink RX0 22 yX0_isThere, .instanceMethod yX0_isThere, .selects RX0 yX0_isThere yX0_isThere, .initialized RX0, .code yX0_isThere cX0_isThere 4 (some .boolean), .fieldLink RX0 11 "PhraseDesk$Converters" "there" "[Z"]
def wq_X0_change_2 : List Cond := wq_X0_change_20 ++ wsX00
set_option maxHeartbeats 4000000 in
set_option maxRecDepth 100000 in
theorem C_X0_change_2 (l : Launch) (D : va_G) (cy : Nat → ClassId) (sz0 : Nat) (sa : Nat → Nat) (a0 a1 a2 : Nat) (sz : Nat) (k0 : Int32) (k1 : Int32) : Met l yX0_change wq_X0_change_2 ({ frames := 1, cells := 0, slots := 0, locals := 23 }) (PcW D cy sz0 sa [.ref a0, .int k0, .int k1, .int 0] [(a0, .inr (2, [.ref a1, .ref a2])), (a1, .inl (cy 2, 65, .inl (fun _ => 0)))] sz) (va_Qi (fun (r : Int32) (u : Unit) => r = 0) (fun (_ : Unit) (_ : State) => True) (va_A [(a0, .inr (2, [.ref a1, .ref a2])), (a1, .inl (cy 2, 65, .inl (fun _ => 0)))] sz)) 0 0 (va_A [(a0, .inr (2, [.ref a1, .ref a2])), (a1, .inl (cy 2, 65, .inl (fun _ => 0)))] sz) := by
  refine Met.ofW (cc := cX0_change) (maxL := 6) (ret := (some .boolean)) (by decide) rfl ?_
  intro p e s m args below meth c s₁ B hml hv
  obtain ⟨rfl, hsz, hP, hD0, hE⟩ := hv
  have hx := B.exec
  have hb := B.bytes
  have hr := B.returns
  have hts := atoms_spec (ws := wq_X0_change_2) B.pre
  have hown : s.vm.findClass RX0 = some m.cls := findClass_of_methodNamed B.named
  have hlocks := B.notSynchronized
  subst hsz
  have hK := hE.1
  have hAm := hE.2.2.1
  have hWm := hE.2.2.2
  have hAO := hWm.2.2.2.1
  have hD := hD0.self (sz := s.heap.size)
  have hAF := frA hD0 hE.2.1
  generalize hAe : va_A [(a0, .inr (2, [.ref a1, .ref a2])), (a1, .inl (cy 2, 65, .inl (fun _ => 0)))] s.heap.size = A at hD hAF ⊢
  have hA : ∀ q : Nat, s.heap.size ≤ q → A q := fun q h => by rw [← hAe]; exact Or.inr h
  have hS : va_S A s.heap s.heap [] := va_S.rf
  have hl := lv_entry ([.ref a0, .int k0, .int k1, .int 0]) (n := 6) (Nat.le_of_ble_eq_true rfl)
  rw [lg_entry_eq]
  generalize (lg_sl ([.ref a0, .int k0, .int k1, .int 0]) ++ List.replicate (6 - (lg_sl ([.ref a0, .int k0, .int k1, .int 0])).length) Slot.unset).toArray = ls at hl ⊢
  have hl : lv_has ls 6 [(0, .ref a0), (1, .int k0), (2, .int k1), (3, .int 0)] := hl
  have hP : va_P D vwCl [(a0, .inr (2, [.ref a1, .ref a2])), (a1, .inl (cy 2, 65, .inl (fun _ => 0)))] s.heap := hP
  have z0 : (0 : Int32).toInt = 0 := by decide +kernel
  have z65 : (65 : Int32).toInt = 65 := by decide +kernel
  refine lv_aload_n hx hb dX0_change_0 rfl (lv_at hl 0 rfl) ?_
  refine lv_iload_n hx hb dX0_change_1 rfl (lv_at hl 1 rfl) ?_
  refine lv_iload_n hx hb dX0_change_2 rfl (lv_at hl 2 rfl) ?_
  have hPc := hP.sub (ws' := [(a0, .inr (2, [.ref a1, .ref a2])), (a1, .inl (cy 2, 65, .inl (fun _ => 0)))]) [0, 1] rfl
  have hDc := hD.sub (ws' := [(a0, .inr (2, [.ref a1, .ref a2])), (a1, .inl (cy 2, 65, .inl (fun _ => 0)))]) [0, 1] (by decide) rfl
  have hFc := va_free (wc := [(a0, .inr (2, [.ref a1, .ref a2])), (a1, .inl (cy 2, 65, .inl (fun _ => 0)))]) hD hS hA [0, 1] rfl
  refine va_calli (va_runV (As := [.int k0, .int k1]) (rest := []) ⟨hx, hb, hml, hown, hts⟩ (C_X0_isThere_1 l D cy sz0 sa a0 a1 a2 s.heap.size k0 k1) (cwV 2 hts (goodIn_app (goodIn_r _ [1, 2, 3, 4] rfl (by decide +kernel)) (goodIn_app (goodIn_r wq_X0_isThere_10 [5, 6] rfl (by decide +kernel)) (goodIn_sub (fun _ h => (List.mem_append_right _ h)) (by decide +kernel)))) rfl rfl rfl (by decide +kernel) ⟨Nat.le_of_ble_eq_true rfl, Nat.le_of_ble_eq_true rfl⟩) ⟨PcW.blind, va_recv hK hPc (ci := 2) (q0 := 0) rfl rfl, PcW.mk hE hS hAF hPc hDc⟩ rfl rfl hl.1 rfl (lv_room (Nat.le_of_ble_eq_true rfl)) dX0_change_3 ⟨Nat.le_of_ble_eq_true rfl, Nat.le_of_ble_eq_true rfl⟩) hS (fun q _ h => hFc q h) hFc (fun r_1 u t H1 locs ht hvm hw hB hz1 hk1 hS => ?_)
  obtain ⟨hP1, hD1⟩ := hB
  rw [ht] at hP1
  have hP1 : va_P D vwCl [(a0, .inr (2, [.ref a1, .ref a2])), (a1, .inl (cy 2, 65, .inl (fun _ => 0)))] H1 := hP1
  obtain ⟨hP, hD⟩ := va_join (wr := []) (w1 := [(a0, .inr (2, [.ref a1, .ref a2])), (a1, .inl (cy 2, 65, .inl (fun _ => 0)))]) hP hD [0, 1] [] rfl rfl (by decide) (by decide) hk1 hFc hP1 hD1
  clear hP1 hD1 hPc hDc hFc hk1 hz1
  generalize H1 = H at hP hS ⊢
  have hP : va_P D vwCl [(a0, .inr (2, [.ref a1, .ref a2])), (a1, .inl (cy 2, 65, .inl (fun _ => 0)))] H := hP
  have hD : va_D A [(a0, .inr (2, [.ref a1, .ref a2])), (a1, .inl (cy 2, 65, .inl (fun _ => 0)))] := hD
  refine W.widen (k := 0) (n := 0) (Nat.le_of_ble_eq_true rfl) (Nat.le_of_ble_eq_true rfl) ?_
  obtain rfl : r_1 = 0 := hw
  refine lv_istore (lv' := [(4, .int 0), (0, .ref a0), (1, .int k0), (2, .int k1), (3, .int 0)]) hx hb dX0_change_6 hl (by decide) rfl (fun ls hl => ?_)
  refine lv_iload_n hx hb dX0_change_8 rfl (lv_at hl 2 rfl) ?_
  refine lv_iconst (v := 5) hx hb dX0_change_9 (by decide +kernel) ?_
  refine lv_imul hx hb dX0_change_10 ?_
  refine lv_topi (fun x2 ex2 => ?_)
  refine lv_iload_n hx hb dX0_change_11 rfl (lv_at hl 3 rfl) ?_
  refine lv_iadd hx hb dX0_change_12 ?_
  refine lv_topi (fun x3 ex3 => ?_)
  refine lv_istore (lv' := [(5, .int x3), (4, .int 0), (0, .ref a0), (1, .int k0), (2, .int k1), (3, .int 0)]) hx hb dX0_change_13 hl (by decide) rfl (fun ls hl => ?_)
  refine lv_iload hx hb dX0_change_15 (lv_at hl 0 rfl) ?_
  refine lv_if_lt (tgt := 38) hx hb dX0_change_17 (by decide) (fun c4 => ?_) (fun c4 => ?_)
  · have c4 := z_lt c4
    refine lv_iload hx hb dX0_change_38 (lv_at hl 1 rfl) ?_
    refine W.widen (k := 0) (n := 0) (Nat.le_of_ble_eq_true rfl) (Nat.le_of_ble_eq_true rfl) ?_
    exact W.zret (v := 0) (ty := .boolean) hx hb hr rfl (fun t ht hW => ⟨⟨0, (), rfl, rfl, trivial⟩, hS.F ht⟩) hS.2.2 dX0_change_40
  · have c4 := z_nlt c4
    refine lv_iload hx hb dX0_change_20 (lv_at hl 0 rfl) ?_
    refine lv_aload_n hx hb dX0_change_22 rfl (lv_at hl 2 rfl) ?_
    refine va_get (D := D) (ci := 2) (v := .ref a1) (C := RX0) (T := TX0) (N := 2) hx hb hts (fun _ h => (List.mem_append_right _ h)) hown hK hP 0 rfl rfl 0 (by decide) (hts (.fieldLink RX0 11 "PhraseDesk$Converters" "there" "[Z") (List.mem_of_getElem? (i := 6) rfl)) (fun _ h9 => h9) rfl dX0_change_23 ?_
    refine va_alen (v := 65) hx hb hK hP 1 2 rfl rfl rfl dX0_change_26 ?_
    refine lv_icmp_ge (tgt := 38) hx hb dX0_change_27 (by decide) (fun c5 => ?_) (fun c5 => ?_)
    · have c5 := z_le c5
      refine lv_iload hx hb dX0_change_38 (lv_at hl 1 rfl) ?_
      refine W.widen (k := 0) (n := 0) (Nat.le_of_ble_eq_true rfl) (Nat.le_of_ble_eq_true rfl) ?_
      exact W.zret (v := 0) (ty := .boolean) hx hb hr rfl (fun t ht hW => ⟨⟨0, (), rfl, rfl, trivial⟩, hS.F ht⟩) hS.2.2 dX0_change_40
    · have c5 := z_nle c5
      refine lv_aload_n hx hb dX0_change_30 rfl (lv_at hl 2 rfl) ?_
      refine va_get (D := D) (ci := 2) (v := .ref a1) (C := RX0) (T := TX0) (N := 2) hx hb hts (fun _ h => (List.mem_append_right _ h)) hown hK hP 0 rfl rfl 0 (by decide) (hts (.fieldLink RX0 11 "PhraseDesk$Converters" "there" "[Z") (List.mem_of_getElem? (i := 6) rfl)) (fun _ h9 => h9) rfl dX0_change_31 ?_
      refine lv_iload hx hb dX0_change_34 (lv_at hl 0 rfl) ?_
      refine lv_iload_n hx hb dX0_change_36 rfl (lv_at hl 5 rfl) ?_
      have b6 : vp_in x3 65 := vp_in_iff.mpr ⟨by omega, by omega⟩
      refine va_zast hx hb hK hP hD hS 1 2 rfl rfl b6 dX0_change_37 (fun H locs hP hD hS => ?_)
      have hP : va_P D vwCl [(a0, .inr (2, [.ref a1, .ref a2])), (a1, .inl (cy 2, 65, .inl (upd (fun _ => 0) (x3).toNatClampNeg (vp_nar .boolean 0))))] H := hP
      have hD : va_D A [(a0, .inr (2, [.ref a1, .ref a2])), (a1, .inl (cy 2, 65, .inl (upd (fun _ => 0) (x3).toNatClampNeg (vp_nar .boolean 0))))] := hD
      refine lv_iload hx hb dX0_change_38 (lv_at hl 1 rfl) ?_
      refine W.widen (k := 0) (n := 0) (Nat.le_of_ble_eq_true rfl) (Nat.le_of_ble_eq_true rfl) ?_
      exact W.zret (v := 0) (ty := .boolean) hx hb hr rfl (fun t ht hW => ⟨⟨0, (), rfl, rfl, trivial⟩, hS.F ht⟩) hS.2.2 dX0_change_40

def wq_X11_converter_20 : List Cond := [.code yX11_converter cX11_converter 5 (some .boolean), .classLink RX11 49 "java/lang/IllegalArgumentException", .initialized "java/lang/IllegalArgumentException", .fieldLink RX11 19 "PhraseDesk" "runner" "LPhraseDesk$Runner;", .fieldLink RX11 167 "PhraseDesk$Runner" "converters" "LPhraseDesk$Converters;", .methodLink RX11 171 yX0_change, .instanceMethod yX0_change, .selects RX0 yX0_change yX0_change, .initialized RX0, .code yX0_change cX0_change 6 (some .boolean), .methodLink RX0 22 yX0_isThere, .instanceMethod yX0_isThere, .selects RX0 yX0_isThere yX0_isThere, .code yX0_isThere cX0_isThere 4 (some .boolean), .fieldLink RX0 11 "PhraseDesk$Converters" "there" "[Z"]
def wq_X11_converter_2 : List Cond := wq_X11_converter_20 ++ wsX110 ++ wsX80 ++ wsX00 ++ (vx_atS RX11 53 tIAE tSup).filter goodWord
set_option maxHeartbeats 4000000 in
set_option maxRecDepth 100000 in
theorem C_X11_converter_2 (l : Launch) (hfl : l.stackTraces = false) (D : va_G) (cy : Nat → ClassId) (sz0 : Nat) (sa : Nat → Nat) (a0 a1 a2 a3 a4 a5 a6 a7 a8 a9 a10 a11 a12 a13 : Nat) (sz : Nat) (k0 : Int32) (k1 : Int32) : vx_Met l yX11_converter wq_X11_converter_2 ({ frames := 6, cells := 1, slots := 6, locals := 82 }) (PcW D cy sz0 sa [.ref a0, .int k0, .int k1, .int 0] [(a0, .inr (13, [.ref a4, .ref a1, .ref a5, .int 0, .ref a6, .int 0, .ref a7, .int 0, .ref a8])), (a1, .inr (10, [.ref a9, .ref a2, .ref a10, .ref a11, .ref a12, .int 0, .ref a9, .int 0])), (a2, .inr (2, [.ref a3, .ref a13])), (a3, .inl (cy 2, 65, .inl (fun _ => 0)))] sz) (va_Qi (fun (r : Int32) (u : Unit) => r = 0 ∧ ((1 ≤ k0.toInt ∧ k0.toInt ≤ 5 ∧ 1 ≤ k1.toInt ∧ k1.toInt ≤ 4 ∧ ¬ k0.toInt = k1.toInt) ∨ (1 ≤ k0.toInt ∧ 5 < k0.toInt ∧ 8 ≤ k0.toInt ∧ k0.toInt < 13 ∧ 1 ≤ k1.toInt ∧ k1.toInt ≤ 4 ∧ ¬ k0.toInt = k1.toInt))) (fun (_ : Unit) (_ : State) => True) (va_A [(a0, .inr (13, [.ref a4, .ref a1, .ref a5, .int 0, .ref a6, .int 0, .ref a7, .int 0, .ref a8])), (a1, .inr (10, [.ref a9, .ref a2, .ref a10, .ref a11, .ref a12, .int 0, .ref a9, .int 0])), (a2, .inr (2, [.ref a3, .ref a13])), (a3, .inl (cy 2, 65, .inl (fun _ => 0)))] sz)) (vx_X (fun _ : Unit => True) (fun (E : String) (_ : Unit) (_ : State) => E = tIAE ∧ ((k0.toInt < 1 ∧ k0.toInt < 8) ∨ (1 ≤ k0.toInt ∧ k0.toInt ≤ 5 ∧ k1.toInt < 1) ∨ (1 ≤ k0.toInt ∧ k0.toInt ≤ 5 ∧ 1 ≤ k1.toInt ∧ 4 < k1.toInt) ∨ (1 ≤ k0.toInt ∧ k0.toInt ≤ 5 ∧ 1 ≤ k1.toInt ∧ k1.toInt ≤ 4 ∧ k0.toInt = k1.toInt) ∨ (1 ≤ k0.toInt ∧ 5 < k0.toInt ∧ k0.toInt < 8) ∨ (1 ≤ k0.toInt ∧ 5 < k0.toInt ∧ 8 ≤ k0.toInt ∧ 13 ≤ k0.toInt) ∨ (1 ≤ k0.toInt ∧ 5 < k0.toInt ∧ 8 ≤ k0.toInt ∧ k0.toInt < 13 ∧ k1.toInt < 1) ∨ (1 ≤ k0.toInt ∧ 5 < k0.toInt ∧ 8 ≤ k0.toInt ∧ k0.toInt < 13 ∧ 1 ≤ k1.toInt ∧ 4 < k1.toInt))) (va_A [(a0, .inr (13, [.ref a4, .ref a1, .ref a5, .int 0, .ref a6, .int 0, .ref a7, .int 0, .ref a8])), (a1, .inr (10, [.ref a9, .ref a2, .ref a10, .ref a11, .ref a12, .int 0, .ref a9, .int 0])), (a2, .inr (2, [.ref a3, .ref a13])), (a3, .inl (cy 2, 65, .inl (fun _ => 0)))] sz)) 1 6 (va_A [(a0, .inr (13, [.ref a4, .ref a1, .ref a5, .int 0, .ref a6, .int 0, .ref a7, .int 0, .ref a8])), (a1, .inr (10, [.ref a9, .ref a2, .ref a10, .ref a11, .ref a12, .int 0, .ref a9, .int 0])), (a2, .inr (2, [.ref a3, .ref a13])), (a3, .inl (cy 2, 65, .inl (fun _ => 0)))] sz) := by
  refine vx_ofW (cc := cX11_converter) (maxL := 5) (ret := (some .boolean)) (by decide) rfl ?_
  intro p e s m args below meth c s₁ B hml hout hv
  obtain ⟨rfl, hsz, hP, hD0, hE⟩ := hv
  have hx := B.exec
  have hb := B.bytes
  have hr := B.returns
  have hts := atoms_spec (ws := wq_X11_converter_2) B.pre
  have hown : s.vm.findClass RX11 = some m.cls := findClass_of_methodNamed B.named
  have hlocks := B.notSynchronized
  subst hsz
  have hK := hE.1
  have hAm := hE.2.2.1
  have hWm := hE.2.2.2
  have hAO := hWm.2.2.2.1
  have hD := hD0.self (sz := s.heap.size)
  have hAF := frA hD0 hE.2.1
  generalize hAe : va_A [(a0, .inr (13, [.ref a4, .ref a1, .ref a5, .int 0, .ref a6, .int 0, .ref a7, .int 0, .ref a8])), (a1, .inr (10, [.ref a9, .ref a2, .ref a10, .ref a11, .ref a12, .int 0, .ref a9, .int 0])), (a2, .inr (2, [.ref a3, .ref a13])), (a3, .inl (cy 2, 65, .inl (fun _ => 0)))] s.heap.size = A at hD hAF ⊢
  have hA : ∀ q : Nat, s.heap.size ≤ q → A q := fun q h => by rw [← hAe]; exact Or.inr h
  have hS : va_S A s.heap s.heap [] := va_S.rf
  have hl := lv_entry ([.ref a0, .int k0, .int k1, .int 0]) (n := 5) (Nat.le_of_ble_eq_true rfl)
  rw [lg_entry_eq]
  generalize (lg_sl ([.ref a0, .int k0, .int k1, .int 0]) ++ List.replicate (5 - (lg_sl ([.ref a0, .int k0, .int k1, .int 0])).length) Slot.unset).toArray = ls at hl ⊢
  have hl : lv_has ls 5 [(0, .ref a0), (1, .int k0), (2, .int k1), (3, .int 0)] := hl
  have hP : va_P D vwCl [(a0, .inr (13, [.ref a4, .ref a1, .ref a5, .int 0, .ref a6, .int 0, .ref a7, .int 0, .ref a8])), (a1, .inr (10, [.ref a9, .ref a2, .ref a10, .ref a11, .ref a12, .int 0, .ref a9, .int 0])), (a2, .inr (2, [.ref a3, .ref a13])), (a3, .inl (cy 2, 65, .inl (fun _ => 0)))] s.heap := hP
  have z1 : (1 : Int32).toInt = 1 := by decide +kernel
  have z4 : (4 : Int32).toInt = 4 := by decide +kernel
  have z5 : (5 : Int32).toInt = 5 := by decide +kernel
  have z8 : (8 : Int32).toInt = 8 := by decide +kernel
  have z13 : (13 : Int32).toInt = 13 := by decide +kernel
  refine lv_iload_n hx hb dX11_converter_0 rfl (lv_at hl 1 rfl) ?_
  refine lv_iconst (v := 1) hx hb dX11_converter_1 (by decide +kernel) ?_
  refine lv_icmp_lt (tgt := 10) hx hb dX11_converter_2 (by decide) (fun c1 => ?_) (fun c1 => ?_)
  · have c1 := z_lt c1
    refine lv_iload_n hx hb dX11_converter_10 rfl (lv_at hl 1 rfl) ?_
    refine lv_bipush (v := 8) hx hb dX11_converter_11 (by decide +kernel) ?_
    refine lv_icmp_lt (tgt := 26) hx hb dX11_converter_13 (by decide) (fun c2 => ?_) (fun c2 => ?_)
    · have c2 := z_lt c2
      refine lv_iconst (v := 0) hx hb dX11_converter_26 (by decide +kernel) ?_
      refine lv_istore (lv' := [(4, .int 0), (0, .ref a0), (1, .int k0), (2, .int k1), (3, .int 0)]) hx hb dX11_converter_27 hl (by decide) rfl (fun ls hl => ?_)
      refine lv_iload hx hb dX11_converter_29 (lv_at hl 0 rfl) ?_
      refine lv_if_eq (tgt := 49) hx hb dX11_converter_31 (by decide) (fun _ => ?_) (fun c3 => absurd (by decide +kernel) c3)
      exact g_iae hx hb hfl hts hE hAF hown (List.mem_of_getElem? (i := 1) rfl) (List.mem_of_getElem? (i := 2) rfl) (is := 165) (text := "no converter goes from and to such types") (by decide +kernel) (fun _ h => (List.mem_append_right _ h)) hS (by rw [hml]; exact hl.1) dX11_converter_49 dX11_converter_52 dX11_converter_53 dX11_converter_55 dX11_converter_58 hout (by decide) (by decide) (Nat.le_of_ble_eq_true rfl) (Nat.le_of_ble_eq_true rfl) hlocks (fun t h1 h2 h3 => ⟨(), trivial, ⟨rfl, by omega⟩, Nat.le_trans hS.1 h2, fun q h4 h5 => (h3 q (Nat.lt_of_lt_of_le h4 hS.1)).trans (hS.2.1 q h4 h5)⟩) hS.2.2 (Nat.le_of_ble_eq_true rfl) (Nat.le_of_ble_eq_true rfl)
    · have c2 := z_nlt c2
      exfalso
      omega
  · have c1 := z_nlt c1
    refine lv_iload_n hx hb dX11_converter_5 rfl (lv_at hl 1 rfl) ?_
    refine lv_iconst (v := 5) hx hb dX11_converter_6 (by decide +kernel) ?_
    refine lv_icmp_le (tgt := 22) hx hb dX11_converter_7 (by decide) (fun c4 => ?_) (fun c4 => ?_)
    · have c4 := z_le c4
      refine lv_iconst (v := 1) hx hb dX11_converter_22 (by decide +kernel) ?_
      refine lv_goto (tgt := 27) hx hb dX11_converter_23 (by decide) ?_
      refine lv_istore (lv' := [(4, .int 1), (0, .ref a0), (1, .int k0), (2, .int k1), (3, .int 0)]) hx hb dX11_converter_27 hl (by decide) rfl (fun ls hl => ?_)
      refine lv_iload hx hb dX11_converter_29 (lv_at hl 0 rfl) ?_
      refine lv_if_eq (tgt := 49) hx hb dX11_converter_31 (by decide) (fun c5 => absurd c5 (by decide +kernel)) (fun _ => ?_)
      refine lv_iload_n hx hb dX11_converter_34 rfl (lv_at hl 3 rfl) ?_
      refine lv_iconst (v := 1) hx hb dX11_converter_35 (by decide +kernel) ?_
      refine lv_icmp_lt (tgt := 49) hx hb dX11_converter_36 (by decide) (fun c6 => ?_) (fun c6 => ?_)
      · have c6 := z_lt c6
        exact g_iae hx hb hfl hts hE hAF hown (List.mem_of_getElem? (i := 1) rfl) (List.mem_of_getElem? (i := 2) rfl) (is := 165) (text := "no converter goes from and to such types") (by decide +kernel) (fun _ h => (List.mem_append_right _ h)) hS (by rw [hml]; exact hl.1) dX11_converter_49 dX11_converter_52 dX11_converter_53 dX11_converter_55 dX11_converter_58 hout (by decide) (by decide) (Nat.le_of_ble_eq_true rfl) (Nat.le_of_ble_eq_true rfl) hlocks (fun t h1 h2 h3 => ⟨(), trivial, ⟨rfl, by omega⟩, Nat.le_trans hS.1 h2, fun q h4 h5 => (h3 q (Nat.lt_of_lt_of_le h4 hS.1)).trans (hS.2.1 q h4 h5)⟩) hS.2.2 (Nat.le_of_ble_eq_true rfl) (Nat.le_of_ble_eq_true rfl)
      · have c6 := z_nlt c6
        refine lv_iload_n hx hb dX11_converter_39 rfl (lv_at hl 3 rfl) ?_
        refine lv_iconst (v := 4) hx hb dX11_converter_40 (by decide +kernel) ?_
        refine lv_icmp_gt (tgt := 49) hx hb dX11_converter_41 (by decide) (fun c7 => ?_) (fun c7 => ?_)
        · have c7 := z_lt c7
          exact g_iae hx hb hfl hts hE hAF hown (List.mem_of_getElem? (i := 1) rfl) (List.mem_of_getElem? (i := 2) rfl) (is := 165) (text := "no converter goes from and to such types") (by decide +kernel) (fun _ h => (List.mem_append_right _ h)) hS (by rw [hml]; exact hl.1) dX11_converter_49 dX11_converter_52 dX11_converter_53 dX11_converter_55 dX11_converter_58 hout (by decide) (by decide) (Nat.le_of_ble_eq_true rfl) (Nat.le_of_ble_eq_true rfl) hlocks (fun t h1 h2 h3 => ⟨(), trivial, ⟨rfl, by omega⟩, Nat.le_trans hS.1 h2, fun q h4 h5 => (h3 q (Nat.lt_of_lt_of_le h4 hS.1)).trans (hS.2.1 q h4 h5)⟩) hS.2.2 (Nat.le_of_ble_eq_true rfl) (Nat.le_of_ble_eq_true rfl)
        · have c7 := z_nlt c7
          refine lv_iload_n hx hb dX11_converter_44 rfl (lv_at hl 2 rfl) ?_
          refine lv_iload_n hx hb dX11_converter_45 rfl (lv_at hl 3 rfl) ?_
          refine lv_icmp_ne (tgt := 59) hx hb dX11_converter_46 (by decide) (fun c8 => ?_) (fun c8 => ?_)
          · have c8 := z_ne c8
            refine lv_aload_n hx hb dX11_converter_59 rfl (lv_at hl 1 rfl) ?_
            refine va_get (D := D) (ci := 13) (v := .ref a1) (C := RX11) (T := TX11) (N := 9) hx hb hts (fun _ h => (List.mem_append_left _ (List.mem_append_left _ (List.mem_append_left _ (List.mem_append_right _ h))))) hown hK hP 0 rfl rfl 1 (by decide) (hts (.fieldLink RX11 19 "PhraseDesk" "runner" "LPhraseDesk$Runner;") (List.mem_of_getElem? (i := 3) rfl)) (fun _ h9 => h9) rfl dX11_converter_60 ?_
            refine va_get (D := D) (ci := 10) (v := .ref a2) (C := RX8) (T := TX8) (N := 8) hx hb hts (fun _ h => (List.mem_append_left _ (List.mem_append_left _ (List.mem_append_right _ h)))) hown hK hP 1 rfl rfl 1 (by decide) (hts (.fieldLink RX11 167 "PhraseDesk$Runner" "converters" "LPhraseDesk$Converters;") (List.mem_of_getElem? (i := 4) rfl)) (fun _ h9 => h9) rfl dX11_converter_63 ?_
            refine lv_iload_n hx hb dX11_converter_66 rfl (lv_at hl 2 rfl) ?_
            refine lv_iload_n hx hb dX11_converter_67 rfl (lv_at hl 3 rfl) ?_
            refine lv_iload_n hx hb dX11_converter_68 rfl (lv_at hl 4 rfl) ?_
            have hPc := hP.sub (ws' := [(a2, .inr (2, [.ref a3, .ref a13])), (a3, .inl (cy 2, 65, .inl (fun _ => 0)))]) [2, 3] rfl
            have hDc := hD.sub (ws' := [(a2, .inr (2, [.ref a3, .ref a13])), (a3, .inl (cy 2, 65, .inl (fun _ => 0)))]) [2, 3] (by decide) rfl
            have hFc := va_free (wc := [(a2, .inr (2, [.ref a3, .ref a13])), (a3, .inl (cy 2, 65, .inl (fun _ => 0)))]) hD hS hA [2, 3] rfl
            refine va_calli (va_runV (As := [.int k0, .int k1, .int 0]) (rest := []) ⟨hx, hb, hml, hown, hts⟩ (C_X0_change_2 l D cy sz0 sa a2 a3 a13 s.heap.size k0 k1) (cwV 3 hts (goodIn_app (goodIn_r _ [5, 6, 7, 8] rfl (by decide +kernel)) (goodIn_app (goodIn_r wq_X0_change_20 [9, 10, 11, 12, 8, 13, 14] rfl (by decide +kernel)) (goodIn_sub (fun _ h => (List.mem_append_left _ (List.mem_append_right _ h))) (by decide +kernel)))) rfl rfl rfl (by decide +kernel) ⟨Nat.le_of_ble_eq_true rfl, Nat.le_of_ble_eq_true rfl⟩) ⟨PcW.blind, va_recv hK hPc (ci := 2) (q0 := 0) rfl rfl, PcW.mk hE hS hAF hPc hDc⟩ rfl rfl hl.1 rfl (lv_room (Nat.le_of_ble_eq_true rfl)) dX11_converter_69 ⟨Nat.le_of_ble_eq_true rfl, Nat.le_of_ble_eq_true rfl⟩) hS (fun q _ h => hFc q h) hFc (fun r_9 u t H1 locs ht hvm hw hB hz1 hk1 hS => ?_)
            obtain ⟨hP, hD⟩ := va_join (wr := [(a0, .inr (13, [.ref a4, .ref a1, .ref a5, .int 0, .ref a6, .int 0, .ref a7, .int 0, .ref a8])), (a1, .inr (10, [.ref a9, .ref a2, .ref a10, .ref a11, .ref a12, .int 0, .ref a9, .int 0]))]) (w1 := []) hP hD [2, 3] [0, 1] rfl rfl (by decide) (by decide) hk1 hFc nilP nilD
            clear hPc hDc hFc hk1 hz1
            generalize H1 = H at hP hS ⊢
            have hP : va_P D vwCl [(a0, .inr (13, [.ref a4, .ref a1, .ref a5, .int 0, .ref a6, .int 0, .ref a7, .int 0, .ref a8])), (a1, .inr (10, [.ref a9, .ref a2, .ref a10, .ref a11, .ref a12, .int 0, .ref a9, .int 0]))] H := hP
            have hD : va_D A [(a0, .inr (13, [.ref a4, .ref a1, .ref a5, .int 0, .ref a6, .int 0, .ref a7, .int 0, .ref a8])), (a1, .inr (10, [.ref a9, .ref a2, .ref a10, .ref a11, .ref a12, .int 0, .ref a9, .int 0]))] := hD
            refine W.widen (k := 0) (n := 0) (Nat.le_of_ble_eq_true rfl) (Nat.le_of_ble_eq_true rfl) ?_
            have hr := hw
            obtain rfl : r_9 = 0 := hr
            refine vx_ret ?_
            refine W.widen (k := 1) (n := 6) (Nat.le_of_ble_eq_true rfl) (Nat.le_of_ble_eq_true rfl) ?_
            exact W.zret (v := 0) (ty := .boolean) hx hb hr rfl (fun t ht hW => ⟨⟨0, (), rfl, ⟨rfl, by omega⟩, trivial⟩, hS.F ht⟩) hS.2.2 dX11_converter_72
          · have c8 := z_eq c8
            exact g_iae hx hb hfl hts hE hAF hown (List.mem_of_getElem? (i := 1) rfl) (List.mem_of_getElem? (i := 2) rfl) (is := 165) (text := "no converter goes from and to such types") (by decide +kernel) (fun _ h => (List.mem_append_right _ h)) hS (by rw [hml]; exact hl.1) dX11_converter_49 dX11_converter_52 dX11_converter_53 dX11_converter_55 dX11_converter_58 hout (by decide) (by decide) (Nat.le_of_ble_eq_true rfl) (Nat.le_of_ble_eq_true rfl) hlocks (fun t h1 h2 h3 => ⟨(), trivial, ⟨rfl, by omega⟩, Nat.le_trans hS.1 h2, fun q h4 h5 => (h3 q (Nat.lt_of_lt_of_le h4 hS.1)).trans (hS.2.1 q h4 h5)⟩) hS.2.2 (Nat.le_of_ble_eq_true rfl) (Nat.le_of_ble_eq_true rfl)
    · have c4 := z_nle c4
      refine lv_iload_n hx hb dX11_converter_10 rfl (lv_at hl 1 rfl) ?_
      refine lv_bipush (v := 8) hx hb dX11_converter_11 (by decide +kernel) ?_
      refine lv_icmp_lt (tgt := 26) hx hb dX11_converter_13 (by decide) (fun c10 => ?_) (fun c10 => ?_)
      · have c10 := z_lt c10
        refine lv_iconst (v := 0) hx hb dX11_converter_26 (by decide +kernel) ?_
        refine lv_istore (lv' := [(4, .int 0), (0, .ref a0), (1, .int k0), (2, .int k1), (3, .int 0)]) hx hb dX11_converter_27 hl (by decide) rfl (fun ls hl => ?_)
        refine lv_iload hx hb dX11_converter_29 (lv_at hl 0 rfl) ?_
        refine lv_if_eq (tgt := 49) hx hb dX11_converter_31 (by decide) (fun _ => ?_) (fun c11 => absurd (by decide +kernel) c11)
        exact g_iae hx hb hfl hts hE hAF hown (List.mem_of_getElem? (i := 1) rfl) (List.mem_of_getElem? (i := 2) rfl) (is := 165) (text := "no converter goes from and to such types") (by decide +kernel) (fun _ h => (List.mem_append_right _ h)) hS (by rw [hml]; exact hl.1) dX11_converter_49 dX11_converter_52 dX11_converter_53 dX11_converter_55 dX11_converter_58 hout (by decide) (by decide) (Nat.le_of_ble_eq_true rfl) (Nat.le_of_ble_eq_true rfl) hlocks (fun t h1 h2 h3 => ⟨(), trivial, ⟨rfl, by omega⟩, Nat.le_trans hS.1 h2, fun q h4 h5 => (h3 q (Nat.lt_of_lt_of_le h4 hS.1)).trans (hS.2.1 q h4 h5)⟩) hS.2.2 (Nat.le_of_ble_eq_true rfl) (Nat.le_of_ble_eq_true rfl)
      · have c10 := z_nlt c10
        refine lv_iload_n hx hb dX11_converter_16 rfl (lv_at hl 1 rfl) ?_
        refine lv_bipush (v := 13) hx hb dX11_converter_17 (by decide +kernel) ?_
        refine lv_icmp_ge (tgt := 26) hx hb dX11_converter_19 (by decide) (fun c12 => ?_) (fun c12 => ?_)
        · have c12 := z_le c12
          refine lv_iconst (v := 0) hx hb dX11_converter_26 (by decide +kernel) ?_
          refine lv_istore (lv' := [(4, .int 0), (0, .ref a0), (1, .int k0), (2, .int k1), (3, .int 0)]) hx hb dX11_converter_27 hl (by decide) rfl (fun ls hl => ?_)
          refine lv_iload hx hb dX11_converter_29 (lv_at hl 0 rfl) ?_
          refine lv_if_eq (tgt := 49) hx hb dX11_converter_31 (by decide) (fun _ => ?_) (fun c13 => absurd (by decide +kernel) c13)
          exact g_iae hx hb hfl hts hE hAF hown (List.mem_of_getElem? (i := 1) rfl) (List.mem_of_getElem? (i := 2) rfl) (is := 165) (text := "no converter goes from and to such types") (by decide +kernel) (fun _ h => (List.mem_append_right _ h)) hS (by rw [hml]; exact hl.1) dX11_converter_49 dX11_converter_52 dX11_converter_53 dX11_converter_55 dX11_converter_58 hout (by decide) (by decide) (Nat.le_of_ble_eq_true rfl) (Nat.le_of_ble_eq_true rfl) hlocks (fun t h1 h2 h3 => ⟨(), trivial, ⟨rfl, by omega⟩, Nat.le_trans hS.1 h2, fun q h4 h5 => (h3 q (Nat.lt_of_lt_of_le h4 hS.1)).trans (hS.2.1 q h4 h5)⟩) hS.2.2 (Nat.le_of_ble_eq_true rfl) (Nat.le_of_ble_eq_true rfl)
        · have c12 := z_nle c12
          refine lv_iconst (v := 1) hx hb dX11_converter_22 (by decide +kernel) ?_
          refine lv_goto (tgt := 27) hx hb dX11_converter_23 (by decide) ?_
          refine lv_istore (lv' := [(4, .int 1), (0, .ref a0), (1, .int k0), (2, .int k1), (3, .int 0)]) hx hb dX11_converter_27 hl (by decide) rfl (fun ls hl => ?_)
          refine lv_iload hx hb dX11_converter_29 (lv_at hl 0 rfl) ?_
          refine lv_if_eq (tgt := 49) hx hb dX11_converter_31 (by decide) (fun c14 => absurd c14 (by decide +kernel)) (fun _ => ?_)
          refine lv_iload_n hx hb dX11_converter_34 rfl (lv_at hl 3 rfl) ?_
          refine lv_iconst (v := 1) hx hb dX11_converter_35 (by decide +kernel) ?_
          refine lv_icmp_lt (tgt := 49) hx hb dX11_converter_36 (by decide) (fun c15 => ?_) (fun c15 => ?_)
          · have c15 := z_lt c15
            exact g_iae hx hb hfl hts hE hAF hown (List.mem_of_getElem? (i := 1) rfl) (List.mem_of_getElem? (i := 2) rfl) (is := 165) (text := "no converter goes from and to such types") (by decide +kernel) (fun _ h => (List.mem_append_right _ h)) hS (by rw [hml]; exact hl.1) dX11_converter_49 dX11_converter_52 dX11_converter_53 dX11_converter_55 dX11_converter_58 hout (by decide) (by decide) (Nat.le_of_ble_eq_true rfl) (Nat.le_of_ble_eq_true rfl) hlocks (fun t h1 h2 h3 => ⟨(), trivial, ⟨rfl, by omega⟩, Nat.le_trans hS.1 h2, fun q h4 h5 => (h3 q (Nat.lt_of_lt_of_le h4 hS.1)).trans (hS.2.1 q h4 h5)⟩) hS.2.2 (Nat.le_of_ble_eq_true rfl) (Nat.le_of_ble_eq_true rfl)
          · have c15 := z_nlt c15
            refine lv_iload_n hx hb dX11_converter_39 rfl (lv_at hl 3 rfl) ?_
            refine lv_iconst (v := 4) hx hb dX11_converter_40 (by decide +kernel) ?_
            refine lv_icmp_gt (tgt := 49) hx hb dX11_converter_41 (by decide) (fun c16 => ?_) (fun c16 => ?_)
            · have c16 := z_lt c16
              exact g_iae hx hb hfl hts hE hAF hown (List.mem_of_getElem? (i := 1) rfl) (List.mem_of_getElem? (i := 2) rfl) (is := 165) (text := "no converter goes from and to such types") (by decide +kernel) (fun _ h => (List.mem_append_right _ h)) hS (by rw [hml]; exact hl.1) dX11_converter_49 dX11_converter_52 dX11_converter_53 dX11_converter_55 dX11_converter_58 hout (by decide) (by decide) (Nat.le_of_ble_eq_true rfl) (Nat.le_of_ble_eq_true rfl) hlocks (fun t h1 h2 h3 => ⟨(), trivial, ⟨rfl, by omega⟩, Nat.le_trans hS.1 h2, fun q h4 h5 => (h3 q (Nat.lt_of_lt_of_le h4 hS.1)).trans (hS.2.1 q h4 h5)⟩) hS.2.2 (Nat.le_of_ble_eq_true rfl) (Nat.le_of_ble_eq_true rfl)
            · have c16 := z_nlt c16
              refine lv_iload_n hx hb dX11_converter_44 rfl (lv_at hl 2 rfl) ?_
              refine lv_iload_n hx hb dX11_converter_45 rfl (lv_at hl 3 rfl) ?_
              refine lv_icmp_ne (tgt := 59) hx hb dX11_converter_46 (by decide) (fun c17 => ?_) (fun c17 => ?_)
              · have c17 := z_ne c17
                refine lv_aload_n hx hb dX11_converter_59 rfl (lv_at hl 1 rfl) ?_
                refine va_get (D := D) (ci := 13) (v := .ref a1) (C := RX11) (T := TX11) (N := 9) hx hb hts (fun _ h => (List.mem_append_left _ (List.mem_append_left _ (List.mem_append_left _ (List.mem_append_right _ h))))) hown hK hP 0 rfl rfl 1 (by decide) (hts (.fieldLink RX11 19 "PhraseDesk" "runner" "LPhraseDesk$Runner;") (List.mem_of_getElem? (i := 3) rfl)) (fun _ h9 => h9) rfl dX11_converter_60 ?_
                refine va_get (D := D) (ci := 10) (v := .ref a2) (C := RX8) (T := TX8) (N := 8) hx hb hts (fun _ h => (List.mem_append_left _ (List.mem_append_left _ (List.mem_append_right _ h)))) hown hK hP 1 rfl rfl 1 (by decide) (hts (.fieldLink RX11 167 "PhraseDesk$Runner" "converters" "LPhraseDesk$Converters;") (List.mem_of_getElem? (i := 4) rfl)) (fun _ h9 => h9) rfl dX11_converter_63 ?_
                refine lv_iload_n hx hb dX11_converter_66 rfl (lv_at hl 2 rfl) ?_
                refine lv_iload_n hx hb dX11_converter_67 rfl (lv_at hl 3 rfl) ?_
                refine lv_iload_n hx hb dX11_converter_68 rfl (lv_at hl 4 rfl) ?_
                have hPc := hP.sub (ws' := [(a2, .inr (2, [.ref a3, .ref a13])), (a3, .inl (cy 2, 65, .inl (fun _ => 0)))]) [2, 3] rfl
                have hDc := hD.sub (ws' := [(a2, .inr (2, [.ref a3, .ref a13])), (a3, .inl (cy 2, 65, .inl (fun _ => 0)))]) [2, 3] (by decide) rfl
                have hFc := va_free (wc := [(a2, .inr (2, [.ref a3, .ref a13])), (a3, .inl (cy 2, 65, .inl (fun _ => 0)))]) hD hS hA [2, 3] rfl
                refine va_calli (va_runV (As := [.int k0, .int k1, .int 0]) (rest := []) ⟨hx, hb, hml, hown, hts⟩ (C_X0_change_2 l D cy sz0 sa a2 a3 a13 s.heap.size k0 k1) (cwV 3 hts (goodIn_app (goodIn_r _ [5, 6, 7, 8] rfl (by decide +kernel)) (goodIn_app (goodIn_r wq_X0_change_20 [9, 10, 11, 12, 8, 13, 14] rfl (by decide +kernel)) (goodIn_sub (fun _ h => (List.mem_append_left _ (List.mem_append_right _ h))) (by decide +kernel)))) rfl rfl rfl (by decide +kernel) ⟨Nat.le_of_ble_eq_true rfl, Nat.le_of_ble_eq_true rfl⟩) ⟨PcW.blind, va_recv hK hPc (ci := 2) (q0 := 0) rfl rfl, PcW.mk hE hS hAF hPc hDc⟩ rfl rfl hl.1 rfl (lv_room (Nat.le_of_ble_eq_true rfl)) dX11_converter_69 ⟨Nat.le_of_ble_eq_true rfl, Nat.le_of_ble_eq_true rfl⟩) hS (fun q _ h => hFc q h) hFc (fun r_18 u t H1 locs ht hvm hw hB hz1 hk1 hS => ?_)
                obtain ⟨hP, hD⟩ := va_join (wr := [(a0, .inr (13, [.ref a4, .ref a1, .ref a5, .int 0, .ref a6, .int 0, .ref a7, .int 0, .ref a8])), (a1, .inr (10, [.ref a9, .ref a2, .ref a10, .ref a11, .ref a12, .int 0, .ref a9, .int 0]))]) (w1 := []) hP hD [2, 3] [0, 1] rfl rfl (by decide) (by decide) hk1 hFc nilP nilD
                clear hPc hDc hFc hk1 hz1
                generalize H1 = H at hP hS ⊢
                have hP : va_P D vwCl [(a0, .inr (13, [.ref a4, .ref a1, .ref a5, .int 0, .ref a6, .int 0, .ref a7, .int 0, .ref a8])), (a1, .inr (10, [.ref a9, .ref a2, .ref a10, .ref a11, .ref a12, .int 0, .ref a9, .int 0]))] H := hP
                have hD : va_D A [(a0, .inr (13, [.ref a4, .ref a1, .ref a5, .int 0, .ref a6, .int 0, .ref a7, .int 0, .ref a8])), (a1, .inr (10, [.ref a9, .ref a2, .ref a10, .ref a11, .ref a12, .int 0, .ref a9, .int 0]))] := hD
                refine W.widen (k := 0) (n := 0) (Nat.le_of_ble_eq_true rfl) (Nat.le_of_ble_eq_true rfl) ?_
                have hr := hw
                obtain rfl : r_18 = 0 := hr
                refine vx_ret ?_
                refine W.widen (k := 1) (n := 6) (Nat.le_of_ble_eq_true rfl) (Nat.le_of_ble_eq_true rfl) ?_
                exact W.zret (v := 0) (ty := .boolean) hx hb hr rfl (fun t ht hW => ⟨⟨0, (), rfl, ⟨rfl, by omega⟩, trivial⟩, hS.F ht⟩) hS.2.2 dX11_converter_72
              · have c17 := z_eq c17
                exfalso
                omega

def wq_L_converter_20 : List Cond := [.codeWith yL_converter cL_converter 6 (some .int) [(0, 19, 22, 13)], .methodLink RL 35 yX11_converter, .instanceMethod yX11_converter, .selects RX11 yX11_converter yX11_converter, .initialized RX11, .code yX11_converter cX11_converter 5 (some .boolean), .classLink RX11 49 "java/lang/IllegalArgumentException", .initialized "java/lang/IllegalArgumentException", .fieldLink RX11 19 "PhraseDesk" "runner" "LPhraseDesk$Runner;", .fieldLink RX11 167 "PhraseDesk$Runner" "converters" "LPhraseDesk$Converters;", .methodLink RX11 171 yX0_change, .instanceMethod yX0_change, .selects RX0 yX0_change yX0_change, .initialized RX0, .code yX0_change cX0_change 6 (some .boolean), .methodLink RX0 22 yX0_isThere, .instanceMethod yX0_isThere, .selects RX0 yX0_isThere yX0_isThere, .code yX0_isThere cX0_isThere 4 (some .boolean), .fieldLink RX0 11 "PhraseDesk$Converters" "there" "[Z", .classLink RL 13 "java/lang/IllegalArgumentException"]
def wq_L_converter_2 : List Cond := wq_L_converter_20 ++ wsX110 ++ wsX80 ++ wsX00 ++ (vx_atS RX11 53 tIAE tSup).filter goodWord
set_option maxHeartbeats 4000000 in
set_option maxRecDepth 100000 in
theorem C_L_converter_2 (l : Launch) (hfl : l.stackTraces = false) (D : va_G) (cy : Nat → ClassId) (sz0 : Nat) (sa : Nat → Nat) (a0 a1 a2 a3 a4 a5 a6 a7 a8 a9 a10 a11 a12 a13 a14 : Nat) (sz : Nat) (k0 : Int32) (k1 : Int32) : Met l yL_converter wq_L_converter_2 ({ frames := 7, cells := 1, slots := 6, locals := 106 }) (PcW D cy sz0 sa [.ref a0, .int k0, .int k1, .int 0, .ref a1] [(a0, .inr (13, [.ref a5, .ref a2, .ref a6, .int 0, .ref a7, .int 0, .ref a8, .int 0, .ref a9])), (a2, .inr (10, [.ref a10, .ref a3, .ref a11, .ref a12, .ref a13, .int 0, .ref a10, .int 0])), (a3, .inr (2, [.ref a4, .ref a14])), (a4, .inl (cy 2, 65, .inl (fun _ => 0))), (a1, .inl (cy 1, 1, .inr (.inl (fun _ => 0))))] sz) (va_Qi (fun (r : Int32) (u : Int64) => (r = 1 ∧ u = 0 ∧ (((k0.toInt < 1 ∧ k0.toInt < 8) ∨ (1 ≤ k0.toInt ∧ k0.toInt ≤ 5 ∧ k1.toInt < 1) ∨ (1 ≤ k0.toInt ∧ k0.toInt ≤ 5 ∧ 1 ≤ k1.toInt ∧ 4 < k1.toInt) ∨ (1 ≤ k0.toInt ∧ k0.toInt ≤ 5 ∧ 1 ≤ k1.toInt ∧ k1.toInt ≤ 4 ∧ k0.toInt = k1.toInt) ∨ (1 ≤ k0.toInt ∧ 5 < k0.toInt ∧ k0.toInt < 8) ∨ (1 ≤ k0.toInt ∧ 5 < k0.toInt ∧ 8 ≤ k0.toInt ∧ 13 ≤ k0.toInt) ∨ (1 ≤ k0.toInt ∧ 5 < k0.toInt ∧ 8 ≤ k0.toInt ∧ k0.toInt < 13 ∧ k1.toInt < 1) ∨ (1 ≤ k0.toInt ∧ 5 < k0.toInt ∧ 8 ≤ k0.toInt ∧ k0.toInt < 13 ∧ 1 ≤ k1.toInt ∧ 4 < k1.toInt)))) ∨ (r = 0 ∧ u = 0 ∧ (((1 ≤ k0.toInt ∧ k0.toInt ≤ 5 ∧ 1 ≤ k1.toInt ∧ k1.toInt ≤ 4 ∧ ¬ k0.toInt = k1.toInt) ∨ (1 ≤ k0.toInt ∧ 5 < k0.toInt ∧ 8 ≤ k0.toInt ∧ k0.toInt < 13 ∧ 1 ≤ k1.toInt ∧ k1.toInt ≤ 4 ∧ ¬ k0.toInt = k1.toInt))))) (fun (u : Int64) (t : State) => ∃ f : Nat → Int64, BW D [(a1, .inl (cy 1, 1, .inr (.inl f)))] (va_A [(a0, .inr (13, [.ref a5, .ref a2, .ref a6, .int 0, .ref a7, .int 0, .ref a8, .int 0, .ref a9])), (a2, .inr (10, [.ref a10, .ref a3, .ref a11, .ref a12, .ref a13, .int 0, .ref a10, .int 0])), (a3, .inr (2, [.ref a4, .ref a14])), (a4, .inl (cy 2, 65, .inl (fun _ => 0))), (a1, .inl (cy 1, 1, .inr (.inl (fun _ => 0))))] sz) t ∧ f 0 = u) (va_A [(a0, .inr (13, [.ref a5, .ref a2, .ref a6, .int 0, .ref a7, .int 0, .ref a8, .int 0, .ref a9])), (a2, .inr (10, [.ref a10, .ref a3, .ref a11, .ref a12, .ref a13, .int 0, .ref a10, .int 0])), (a3, .inr (2, [.ref a4, .ref a14])), (a4, .inl (cy 2, 65, .inl (fun _ => 0))), (a1, .inl (cy 1, 1, .inr (.inl (fun _ => 0))))] sz)) 1 6 (va_A [(a0, .inr (13, [.ref a5, .ref a2, .ref a6, .int 0, .ref a7, .int 0, .ref a8, .int 0, .ref a9])), (a2, .inr (10, [.ref a10, .ref a3, .ref a11, .ref a12, .ref a13, .int 0, .ref a10, .int 0])), (a3, .inr (2, [.ref a4, .ref a14])), (a4, .inl (cy 2, 65, .inl (fun _ => 0))), (a1, .inl (cy 1, 1, .inr (.inl (fun _ => 0))))] sz) := by
  refine va_MetW (cc := cL_converter) (maxL := 6) (ret := (some .int)) (hh := [(0, 19, 22, 13)]) (by decide) rfl ?_
  intro p e s m args below meth c s₁ B hml hv
  obtain ⟨rfl, hsz, hP, hD0, hE⟩ := hv
  have hx := B.exec
  have hb := B.bytes
  have hr := B.returns
  have hts := atoms_spec (ws := wq_L_converter_2) B.pre
  have hown : s.vm.findClass RL = some m.cls := findClass_of_methodNamed B.named
  have hlocks := B.notSynchronized
  subst hsz
  have hK := hE.1
  have hAm := hE.2.2.1
  have hWm := hE.2.2.2
  have hAO := hWm.2.2.2.1
  have hD := hD0.self (sz := s.heap.size)
  have hAF := frA hD0 hE.2.1
  generalize hAe : va_A [(a0, .inr (13, [.ref a5, .ref a2, .ref a6, .int 0, .ref a7, .int 0, .ref a8, .int 0, .ref a9])), (a2, .inr (10, [.ref a10, .ref a3, .ref a11, .ref a12, .ref a13, .int 0, .ref a10, .int 0])), (a3, .inr (2, [.ref a4, .ref a14])), (a4, .inl (cy 2, 65, .inl (fun _ => 0))), (a1, .inl (cy 1, 1, .inr (.inl (fun _ => 0))))] s.heap.size = A at hD hAF ⊢
  have hA : ∀ q : Nat, s.heap.size ≤ q → A q := fun q h => by rw [← hAe]; exact Or.inr h
  have hS : va_S A s.heap s.heap [] := va_S.rf
  have hl := lv_entry ([.ref a0, .int k0, .int k1, .int 0, .ref a1]) (n := 6) (Nat.le_of_ble_eq_true rfl)
  rw [lg_entry_eq]
  generalize (lg_sl ([.ref a0, .int k0, .int k1, .int 0, .ref a1]) ++ List.replicate (6 - (lg_sl ([.ref a0, .int k0, .int k1, .int 0, .ref a1])).length) Slot.unset).toArray = ls at hl ⊢
  have hl : lv_has ls 6 [(0, .ref a0), (1, .int k0), (2, .int k1), (3, .int 0), (4, .ref a1)] := hl
  have hP : va_P D vwCl [(a0, .inr (13, [.ref a5, .ref a2, .ref a6, .int 0, .ref a7, .int 0, .ref a8, .int 0, .ref a9])), (a2, .inr (10, [.ref a10, .ref a3, .ref a11, .ref a12, .ref a13, .int 0, .ref a10, .int 0])), (a3, .inr (2, [.ref a4, .ref a14])), (a4, .inl (cy 2, 65, .inl (fun _ => 0))), (a1, .inl (cy 1, 1, .inr (.inl (fun _ => 0))))] s.heap := hP
  have z1 : (1 : Int32).toInt = 1 := by decide +kernel
  have z4 : (4 : Int32).toInt = 4 := by decide +kernel
  have z5 : (5 : Int32).toInt = 5 := by decide +kernel
  have z8 : (8 : Int32).toInt = 8 := by decide +kernel
  have z13 : (13 : Int32).toInt = 13 := by decide +kernel
  refine lv_aload hx hb dL_converter_0 (lv_at hl 4 rfl) ?_
  refine lv_iconst (v := 0) hx hb dL_converter_2 (by decide +kernel) ?_
  refine lv_aload_n hx hb dL_converter_3 rfl (lv_at hl 0 rfl) ?_
  refine lv_iload_n hx hb dL_converter_4 rfl (lv_at hl 1 rfl) ?_
  refine lv_iload_n hx hb dL_converter_5 rfl (lv_at hl 2 rfl) ?_
  refine lv_iload_n hx hb dL_converter_6 rfl (lv_at hl 3 rfl) ?_
  have hPc := hP.sub (ws' := [(a0, .inr (13, [.ref a5, .ref a2, .ref a6, .int 0, .ref a7, .int 0, .ref a8, .int 0, .ref a9])), (a2, .inr (10, [.ref a10, .ref a3, .ref a11, .ref a12, .ref a13, .int 0, .ref a10, .int 0])), (a3, .inr (2, [.ref a4, .ref a14])), (a4, .inl (cy 2, 65, .inl (fun _ => 0)))]) [0, 1, 2, 3] rfl
  have hDc := hD.sub (ws' := [(a0, .inr (13, [.ref a5, .ref a2, .ref a6, .int 0, .ref a7, .int 0, .ref a8, .int 0, .ref a9])), (a2, .inr (10, [.ref a10, .ref a3, .ref a11, .ref a12, .ref a13, .int 0, .ref a10, .int 0])), (a3, .inr (2, [.ref a4, .ref a14])), (a4, .inl (cy 2, 65, .inl (fun _ => 0)))]) [0, 1, 2, 3] (by decide) rfl
  have hFc := va_free (wc := [(a0, .inr (13, [.ref a5, .ref a2, .ref a6, .int 0, .ref a7, .int 0, .ref a8, .int 0, .ref a9])), (a2, .inr (10, [.ref a10, .ref a3, .ref a11, .ref a12, .ref a13, .int 0, .ref a10, .int 0])), (a3, .inr (2, [.ref a4, .ref a14])), (a4, .inl (cy 2, 65, .inl (fun _ => 0)))]) hD hS hA [0, 1, 2, 3] rfl
  refine vx_calli (vx_runV (As := [.int k0, .int k1, .int 0]) (rest := [.int 0, .ref a1]) ⟨hx, hb, hml, hown, hts⟩ (C_X11_converter_2 l hfl D cy sz0 sa a0 a2 a3 a4 a5 a6 a7 a8 a9 a10 a11 a12 a13 a14 s.heap.size k0 k1) (cwV 3 hts (goodIn_app (goodIn_r _ [1, 2, 3, 4] rfl (by decide +kernel)) (goodIn_app (goodIn_app (goodIn_app (goodIn_app (goodIn_r wq_X11_converter_20 [5, 6, 7, 8, 9, 10, 11, 12, 13, 14, 15, 16, 17, 18, 19] rfl (by decide +kernel)) (goodIn_sub (fun _ h => (List.mem_append_left _ (List.mem_append_left _ (List.mem_append_left _ (List.mem_append_right _ h))))) (by decide +kernel))) (goodIn_sub (fun _ h => (List.mem_append_left _ (List.mem_append_left _ (List.mem_append_right _ h)))) (by decide +kernel))) (goodIn_sub (fun _ h => (List.mem_append_left _ (List.mem_append_right _ h))) (by decide +kernel))) (goodIn_sub (fun _ h => (List.mem_append_right _ h)) (by decide +kernel)))) rfl rfl rfl (by decide +kernel) ⟨Nat.le_of_ble_eq_true rfl, Nat.le_of_ble_eq_true rfl⟩) ⟨PcW.blind, va_recv hK hPc (ci := 13) (q0 := 0) rfl rfl, PcW.mk hE hS hAF hPc hDc⟩ rfl rfl hl.1 rfl (lv_room (Nat.le_of_ble_eq_true rfl)) dL_converter_7 ⟨Nat.le_of_ble_eq_true rfl, Nat.le_of_ble_eq_true rfl⟩) hS (fun q _ h => hFc q h) hFc (fun q _ h => hFc q h) (fun E ce q9 u t H1 locs ht hvm hpx hbx hz1 hk1 hS hq9 hv9 hc9 => ?_) (fun r_1 u t H1 locs ht hvm hw hB hz1 hk1 hS => ?_)
  · obtain ⟨rfl, hxr_1⟩ := hbx
    obtain ⟨hP, hD⟩ := va_join (wr := [(a1, .inl (cy 1, 1, .inr (.inl (fun _ => 0))))]) (w1 := []) hP hD [0, 1, 2, 3] [4] rfl rfl (by decide) (by decide) hk1 hFc nilP nilD
    skip
    have hq8 := hq9
    clear hPc hDc hFc hk1 hz1
    skip
    have hP : va_P D vwCl [(a1, .inl (cy 1, 1, .inr (.inl (fun _ => 0))))] H1 := hP
    have hD : va_D A [(a1, .inl (cy 1, 1, .inr (.inl (fun _ => 0))))] := hD
    refine vx_widen (k := 1) (n := 6) (Nat.le_of_ble_eq_true rfl) (Nat.le_of_ble_eq_true rfl) ?_
    refine vx_catch hown [] _ _ ((vx_table (x := yL_converter) B (hts (.codeWith yL_converter cL_converter 6 (some .int) [(0, 19, 22, 13)]) (List.mem_of_getElem? (i := 0) rfl))).trans rfl) (fun z hz => absurd hz List.not_mem_nil) (by decide) (by decide) (hts (.classLink RL 13 "java/lang/IllegalArgumentException") (List.mem_of_getElem? (i := 20) rfl)) (va_Nw.use rfl hWm.2.2.1.2.2.2.1) hq9 hv9 hc9 ?_
    clear hq8 hq9 ht
    generalize H1 = H at hP hS ⊢
    refine lv_astore (lv' := [(5, .ref q9), (0, .ref a0), (1, .int k0), (2, .int k1), (3, .int 0), (4, .ref a1)]) hx hb dL_converter_22 hl (by decide) rfl (fun ls hl => ?_)
    refine lv_iconst (v := 1) hx hb dL_converter_24 (by decide +kernel) ?_
    refine W.widen (k := 1) (n := 6) (Nat.le_of_ble_eq_true rfl) (Nat.le_of_ble_eq_true rfl) ?_
    have hP9 := hP.sub (ws' := [(a1, .inl (cy 1, 1, .inr (.inl (fun _ => 0))))]) [0] rfl
    have hD9 := hD.sub (ws' := [(a1, .inl (cy 1, 1, .inr (.inl (fun _ => 0))))]) [0] (by decide) rfl
    exact W.iret (v := 1) hx hb hr (fun t ht hW => ⟨⟨1, 0, rfl, Or.inl ⟨rfl, rfl, by omega⟩, ⟨(fun _ => 0), ⟨by rw [ht]; exact hP9, hD9⟩, by decide +kernel⟩⟩, hS.F ht⟩) hS.2.2 dL_converter_25
  · obtain ⟨hP, hD⟩ := va_join (wr := [(a1, .inl (cy 1, 1, .inr (.inl (fun _ => 0))))]) (w1 := []) hP hD [0, 1, 2, 3] [4] rfl rfl (by decide) (by decide) hk1 hFc nilP nilD
    clear hPc hDc hFc hk1 hz1
    generalize H1 = H at hP hS ⊢
    have hP : va_P D vwCl [(a1, .inl (cy 1, 1, .inr (.inl (fun _ => 0))))] H := hP
    have hD : va_D A [(a1, .inl (cy 1, 1, .inr (.inl (fun _ => 0))))] := hD
    refine W.widen (k := 1) (n := 6) (Nat.le_of_ble_eq_true rfl) (Nat.le_of_ble_eq_true rfl) ?_
    obtain ⟨hr, hcr_1⟩ := hw
    obtain rfl : r_1 = 0 := hr
    refine lv_if_eq (tgt := 17) hx hb dL_converter_10 (by decide) (fun _ => ?_) (fun c2 => absurd (by decide +kernel) c2)
    refine lv_lconst (v := 0) hx hb dL_converter_17 rfl ?_
    refine va_last hx hb hK hP hD hS 0 1 rfl rfl (by unfold vp_in; decide +kernel) dL_converter_18 (fun H locs hP hD hS => ?_)
    have hP : va_P D vwCl [(a1, .inl (cy 1, 1, .inr (.inl (vp_updL (fun _ => 0) 0 0))))] H := hP
    have hD : va_D A [(a1, .inl (cy 1, 1, .inr (.inl (vp_updL (fun _ => 0) 0 0))))] := hD
    refine lv_goto (tgt := 26) hx hb dL_converter_19 (by decide) ?_
    refine lv_iconst (v := 0) hx hb dL_converter_26 (by decide +kernel) ?_
    refine W.widen (k := 1) (n := 6) (Nat.le_of_ble_eq_true rfl) (Nat.le_of_ble_eq_true rfl) ?_
    have hP9 := hP.sub (ws' := [(a1, .inl (cy 1, 1, .inr (.inl (vp_updL (fun _ => 0) 0 0))))]) [0] rfl
    have hD9 := hD.sub (ws' := [(a1, .inl (cy 1, 1, .inr (.inl (vp_updL (fun _ => 0) 0 0))))]) [0] (by decide) rfl
    exact W.iret (v := 0) hx hb hr (fun t ht hW => ⟨⟨0, 0, rfl, Or.inr (⟨rfl, rfl, by omega⟩), ⟨(vp_updL (fun _ => 0) 0 0), ⟨by rw [ht]; exact hP9, hD9⟩, by decide +kernel⟩⟩, hS.F ht⟩) hS.2.2 dL_converter_27

def wq_X12_converter_20 : List Cond := [.code yX12_converter cX12_converter 6 (some .boolean), .fieldLink RX12 127 "PhraseDeskModel" "threw" "I", .fieldLink RX12 102 "PhraseDeskModel" "converts" "[Z"]
def wq_X12_converter_2 : List Cond := wq_X12_converter_20 ++ wsX120
set_option maxHeartbeats 4000000 in
set_option maxRecDepth 100000 in
theorem C_X12_converter_2 (l : Launch) (D : va_G) (cy : Nat → ClassId) (sz0 : Nat) (sa : Nat → Nat) (a0 a1 a2 a3 a4 a5 a6 a7 a8 a9 a10 a11 a12 a13 a14 a15 a16 a17 a18 a19 a20 a21 a22 a23 a24 a25 a26 a27 a28 a29 a30 a31 a32 a33 a34 a35 a36 a37 a38 : Nat) (sz : Nat) (k0 : Int32) (k1 : Int32) : Met l yX12_converter wq_X12_converter_2 ({ frames := 0, cells := 0, slots := 0, locals := 0 }) (PcW D cy sz0 sa [.ref a0, .int k0, .int k1, .int 0] [(a0, .inr (14, [.int 0, .int 0, .ref a2, .int 0, .ref a3, .ref a4, .ref a5, .ref a6, .int 0, .int 0, .int 0, .ref a7, .ref a8, .ref a9, .int 0, .int 0, .int 0, .int 0, .int 0, .int 0, .ref a10, .ref a11, .ref a12, .ref a13, .ref a14, .ref a15, .ref a16, .ref a17, .ref a18, .int 0, .ref a19, .ref a20, .ref a21, .int 0, .int 0, .int 0, .ref a22, .ref a23, .ref a24, .ref a25, .ref a26, .ref a27, .ref a28, .ref a29, .ref a30, .ref a31, .ref a1, .int 0, .ref a32, .int 0, .ref a33, .ref a34, .ref a35, .ref a36, .ref a37, .int 0, .int 0, .int 0, .ref a38, .int 0])), (a1, .inl (cy 2, 65, .inl (fun _ => 0)))] sz) (va_Qi (fun (r : Int32) (u : Int32) => (r = 0 ∧ u = 1 ∧ ((k0.toInt < 1 ∧ k0.toInt < 8) ∨ (1 ≤ k0.toInt ∧ k0.toInt ≤ 5 ∧ k1.toInt < 1) ∨ (1 ≤ k0.toInt ∧ k0.toInt ≤ 5 ∧ 1 ≤ k1.toInt ∧ 4 < k1.toInt) ∨ (1 ≤ k0.toInt ∧ k0.toInt ≤ 5 ∧ 1 ≤ k1.toInt ∧ k1.toInt ≤ 4 ∧ k0.toInt = k1.toInt) ∨ (1 ≤ k0.toInt ∧ 5 < k0.toInt ∧ k0.toInt < 8) ∨ (1 ≤ k0.toInt ∧ 5 < k0.toInt ∧ 8 ≤ k0.toInt ∧ 12 < k0.toInt) ∨ (1 ≤ k0.toInt ∧ 5 < k0.toInt ∧ 8 ≤ k0.toInt ∧ k0.toInt ≤ 12 ∧ k1.toInt < 1) ∨ (1 ≤ k0.toInt ∧ 5 < k0.toInt ∧ 8 ≤ k0.toInt ∧ k0.toInt ≤ 12 ∧ 1 ≤ k1.toInt ∧ 4 < k1.toInt))) ∨ (r = 0 ∧ u = 0 ∧ ((1 ≤ k0.toInt ∧ k0.toInt ≤ 5 ∧ 1 ≤ k1.toInt ∧ k1.toInt ≤ 4 ∧ ¬ k0.toInt = k1.toInt) ∨ (1 ≤ k0.toInt ∧ 5 < k0.toInt ∧ 8 ≤ k0.toInt ∧ k0.toInt ≤ 12 ∧ 1 ≤ k1.toInt ∧ k1.toInt ≤ 4 ∧ ¬ k0.toInt = k1.toInt)))) (fun (u : Int32) (t : State) => ∃ fs : List Value, BW D [(a0, .inr (14, .int u :: fs))] (va_A [(a0, .inr (14, [.int 0, .int 0, .ref a2, .int 0, .ref a3, .ref a4, .ref a5, .ref a6, .int 0, .int 0, .int 0, .ref a7, .ref a8, .ref a9, .int 0, .int 0, .int 0, .int 0, .int 0, .int 0, .ref a10, .ref a11, .ref a12, .ref a13, .ref a14, .ref a15, .ref a16, .ref a17, .ref a18, .int 0, .ref a19, .ref a20, .ref a21, .int 0, .int 0, .int 0, .ref a22, .ref a23, .ref a24, .ref a25, .ref a26, .ref a27, .ref a28, .ref a29, .ref a30, .ref a31, .ref a1, .int 0, .ref a32, .int 0, .ref a33, .ref a34, .ref a35, .ref a36, .ref a37, .int 0, .int 0, .int 0, .ref a38, .int 0])), (a1, .inl (cy 2, 65, .inl (fun _ => 0)))] sz) t) (va_A [(a0, .inr (14, [.int 0, .int 0, .ref a2, .int 0, .ref a3, .ref a4, .ref a5, .ref a6, .int 0, .int 0, .int 0, .ref a7, .ref a8, .ref a9, .int 0, .int 0, .int 0, .int 0, .int 0, .int 0, .ref a10, .ref a11, .ref a12, .ref a13, .ref a14, .ref a15, .ref a16, .ref a17, .ref a18, .int 0, .ref a19, .ref a20, .ref a21, .int 0, .int 0, .int 0, .ref a22, .ref a23, .ref a24, .ref a25, .ref a26, .ref a27, .ref a28, .ref a29, .ref a30, .ref a31, .ref a1, .int 0, .ref a32, .int 0, .ref a33, .ref a34, .ref a35, .ref a36, .ref a37, .int 0, .int 0, .int 0, .ref a38, .int 0])), (a1, .inl (cy 2, 65, .inl (fun _ => 0)))] sz)) 0 0 (va_A [(a0, .inr (14, [.int 0, .int 0, .ref a2, .int 0, .ref a3, .ref a4, .ref a5, .ref a6, .int 0, .int 0, .int 0, .ref a7, .ref a8, .ref a9, .int 0, .int 0, .int 0, .int 0, .int 0, .int 0, .ref a10, .ref a11, .ref a12, .ref a13, .ref a14, .ref a15, .ref a16, .ref a17, .ref a18, .int 0, .ref a19, .ref a20, .ref a21, .int 0, .int 0, .int 0, .ref a22, .ref a23, .ref a24, .ref a25, .ref a26, .ref a27, .ref a28, .ref a29, .ref a30, .ref a31, .ref a1, .int 0, .ref a32, .int 0, .ref a33, .ref a34, .ref a35, .ref a36, .ref a37, .int 0, .int 0, .int 0, .ref a38, .int 0])), (a1, .inl (cy 2, 65, .inl (fun _ => 0)))] sz) := by
  refine Met.ofW (cc := cX12_converter) (maxL := 6) (ret := (some .boolean)) (by decide) rfl ?_
  intro p e s m args below meth c s₁ B hml hv
  obtain ⟨rfl, hsz, hP, hD0, hE⟩ := hv
  have hx := B.exec
  have hb := B.bytes
  have hr := B.returns
  have hts := atoms_spec (ws := wq_X12_converter_2) B.pre
  have hown : s.vm.findClass RX12 = some m.cls := findClass_of_methodNamed B.named
  have hlocks := B.notSynchronized
  subst hsz
  have hK := hE.1
  have hAm := hE.2.2.1
  have hWm := hE.2.2.2
  have hAO := hWm.2.2.2.1
  have hD := hD0.self (sz := s.heap.size)
  have hAF := frA hD0 hE.2.1
  generalize hAe : va_A [(a0, .inr (14, [.int 0, .int 0, .ref a2, .int 0, .ref a3, .ref a4, .ref a5, .ref a6, .int 0, .int 0, .int 0, .ref a7, .ref a8, .ref a9, .int 0, .int 0, .int 0, .int 0, .int 0, .int 0, .ref a10, .ref a11, .ref a12, .ref a13, .ref a14, .ref a15, .ref a16, .ref a17, .ref a18, .int 0, .ref a19, .ref a20, .ref a21, .int 0, .int 0, .int 0, .ref a22, .ref a23, .ref a24, .ref a25, .ref a26, .ref a27, .ref a28, .ref a29, .ref a30, .ref a31, .ref a1, .int 0, .ref a32, .int 0, .ref a33, .ref a34, .ref a35, .ref a36, .ref a37, .int 0, .int 0, .int 0, .ref a38, .int 0])), (a1, .inl (cy 2, 65, .inl (fun _ => 0)))] s.heap.size = A at hD hAF ⊢
  have hA : ∀ q : Nat, s.heap.size ≤ q → A q := fun q h => by rw [← hAe]; exact Or.inr h
  have hS : va_S A s.heap s.heap [] := va_S.rf
  have hl := lv_entry ([.ref a0, .int k0, .int k1, .int 0]) (n := 6) (Nat.le_of_ble_eq_true rfl)
  rw [lg_entry_eq]
  generalize (lg_sl ([.ref a0, .int k0, .int k1, .int 0]) ++ List.replicate (6 - (lg_sl ([.ref a0, .int k0, .int k1, .int 0])).length) Slot.unset).toArray = ls at hl ⊢
  have hl : lv_has ls 6 [(0, .ref a0), (1, .int k0), (2, .int k1), (3, .int 0)] := hl
  have hP : va_P D vwCl [(a0, .inr (14, [.int 0, .int 0, .ref a2, .int 0, .ref a3, .ref a4, .ref a5, .ref a6, .int 0, .int 0, .int 0, .ref a7, .ref a8, .ref a9, .int 0, .int 0, .int 0, .int 0, .int 0, .int 0, .ref a10, .ref a11, .ref a12, .ref a13, .ref a14, .ref a15, .ref a16, .ref a17, .ref a18, .int 0, .ref a19, .ref a20, .ref a21, .int 0, .int 0, .int 0, .ref a22, .ref a23, .ref a24, .ref a25, .ref a26, .ref a27, .ref a28, .ref a29, .ref a30, .ref a31, .ref a1, .int 0, .ref a32, .int 0, .ref a33, .ref a34, .ref a35, .ref a36, .ref a37, .int 0, .int 0, .int 0, .ref a38, .int 0])), (a1, .inl (cy 2, 65, .inl (fun _ => 0)))] s.heap := hP
  have z1 : (1 : Int32).toInt = 1 := by decide +kernel
  have z4 : (4 : Int32).toInt = 4 := by decide +kernel
  have z5 : (5 : Int32).toInt = 5 := by decide +kernel
  have z8 : (8 : Int32).toInt = 8 := by decide +kernel
  have z12 : (12 : Int32).toInt = 12 := by decide +kernel
  have b0l := Int32.le_toInt k0
  have b0u := Int32.toInt_lt k0
  have b1l := Int32.le_toInt k1
  have b1u := Int32.toInt_lt k1
  refine lv_iload_n hx hb dX12_converter_0 rfl (lv_at hl 1 rfl) ?_
  refine lv_iconst (v := 1) hx hb dX12_converter_1 (by decide +kernel) ?_
  refine lv_icmp_lt (tgt := 10) hx hb dX12_converter_2 (by decide) (fun c1 => ?_) (fun c1 => ?_)
  · have c1 := z_lt c1
    refine lv_iload_n hx hb dX12_converter_10 rfl (lv_at hl 1 rfl) ?_
    refine lv_bipush (v := 8) hx hb dX12_converter_11 (by decide +kernel) ?_
    refine lv_icmp_lt (tgt := 41) hx hb dX12_converter_13 (by decide) (fun c2 => ?_) (fun c2 => ?_)
    · have c2 := z_lt c2
      refine lv_iconst (v := 0) hx hb dX12_converter_41 (by decide +kernel) ?_
      refine lv_istore (lv' := [(4, .int 0), (0, .ref a0), (1, .int k0), (2, .int k1), (3, .int 0)]) hx hb dX12_converter_42 hl (by decide) rfl (fun ls hl => ?_)
      refine lv_aload_n hx hb dX12_converter_44 rfl (lv_at hl 1 rfl) ?_
      refine lv_iload hx hb dX12_converter_45 (lv_at hl 0 rfl) ?_
      refine lv_if_eq (tgt := 54) hx hb dX12_converter_47 (by decide) (fun _ => ?_) (fun c3 => absurd (by decide +kernel) c3)
      refine lv_iconst (v := 1) hx hb dX12_converter_54 (by decide +kernel) ?_
      refine va_put (D := D) (ci := 14) (v := .int 1) (ty := .int) (C := RX12) (T := TX12) (N := 60) hx hb hts (fun _ h => (List.mem_append_right _ h)) tyX12 tyX12_ok nmX12 hown hK hP hD hS 0 rfl rfl 0 (by decide) (hts (.fieldLink RX12 127 "PhraseDeskModel" "threw" "I") (List.mem_of_getElem? (i := 1) rfl)) (fun _ h9 => h9) rfl (by decide +kernel) rfl rfl (Nat.le_of_ble_eq_true rfl) dX12_converter_55 (fun H locs hP hD hS => ?_)
      have hP : va_P D vwCl [(a0, .inr (14, [.int 1, .int 0, .ref a2, .int 0, .ref a3, .ref a4, .ref a5, .ref a6, .int 0, .int 0, .int 0, .ref a7, .ref a8, .ref a9, .int 0, .int 0, .int 0, .int 0, .int 0, .int 0, .ref a10, .ref a11, .ref a12, .ref a13, .ref a14, .ref a15, .ref a16, .ref a17, .ref a18, .int 0, .ref a19, .ref a20, .ref a21, .int 0, .int 0, .int 0, .ref a22, .ref a23, .ref a24, .ref a25, .ref a26, .ref a27, .ref a28, .ref a29, .ref a30, .ref a31, .ref a1, .int 0, .ref a32, .int 0, .ref a33, .ref a34, .ref a35, .ref a36, .ref a37, .int 0, .int 0, .int 0, .ref a38, .int 0])), (a1, .inl (cy 2, 65, .inl (fun _ => 0)))] H := hP
      have hD : va_D A [(a0, .inr (14, [.int 1, .int 0, .ref a2, .int 0, .ref a3, .ref a4, .ref a5, .ref a6, .int 0, .int 0, .int 0, .ref a7, .ref a8, .ref a9, .int 0, .int 0, .int 0, .int 0, .int 0, .int 0, .ref a10, .ref a11, .ref a12, .ref a13, .ref a14, .ref a15, .ref a16, .ref a17, .ref a18, .int 0, .ref a19, .ref a20, .ref a21, .int 0, .int 0, .int 0, .ref a22, .ref a23, .ref a24, .ref a25, .ref a26, .ref a27, .ref a28, .ref a29, .ref a30, .ref a31, .ref a1, .int 0, .ref a32, .int 0, .ref a33, .ref a34, .ref a35, .ref a36, .ref a37, .int 0, .int 0, .int 0, .ref a38, .int 0])), (a1, .inl (cy 2, 65, .inl (fun _ => 0)))] := hD
      refine lv_iload hx hb dX12_converter_58 (lv_at hl 0 rfl) ?_
      refine lv_if_ne (tgt := 65) hx hb dX12_converter_60 (by decide) (fun c4 => absurd (by decide +kernel) c4) (fun _ => ?_)
      refine lv_iconst (v := 0) hx hb dX12_converter_63 (by decide +kernel) ?_
      refine W.widen (k := 0) (n := 0) (Nat.le_of_ble_eq_true rfl) (Nat.le_of_ble_eq_true rfl) ?_
      have hP9 := hP.sub (ws' := [(a0, .inr (14, [.int 1, .int 0, .ref a2, .int 0, .ref a3, .ref a4, .ref a5, .ref a6, .int 0, .int 0, .int 0, .ref a7, .ref a8, .ref a9, .int 0, .int 0, .int 0, .int 0, .int 0, .int 0, .ref a10, .ref a11, .ref a12, .ref a13, .ref a14, .ref a15, .ref a16, .ref a17, .ref a18, .int 0, .ref a19, .ref a20, .ref a21, .int 0, .int 0, .int 0, .ref a22, .ref a23, .ref a24, .ref a25, .ref a26, .ref a27, .ref a28, .ref a29, .ref a30, .ref a31, .ref a1, .int 0, .ref a32, .int 0, .ref a33, .ref a34, .ref a35, .ref a36, .ref a37, .int 0, .int 0, .int 0, .ref a38, .int 0]))]) [0] rfl
      have hD9 := hD.sub (ws' := [(a0, .inr (14, [.int 1, .int 0, .ref a2, .int 0, .ref a3, .ref a4, .ref a5, .ref a6, .int 0, .int 0, .int 0, .ref a7, .ref a8, .ref a9, .int 0, .int 0, .int 0, .int 0, .int 0, .int 0, .ref a10, .ref a11, .ref a12, .ref a13, .ref a14, .ref a15, .ref a16, .ref a17, .ref a18, .int 0, .ref a19, .ref a20, .ref a21, .int 0, .int 0, .int 0, .ref a22, .ref a23, .ref a24, .ref a25, .ref a26, .ref a27, .ref a28, .ref a29, .ref a30, .ref a31, .ref a1, .int 0, .ref a32, .int 0, .ref a33, .ref a34, .ref a35, .ref a36, .ref a37, .int 0, .int 0, .int 0, .ref a38, .int 0]))]) [0] (by decide) rfl
      exact W.zret (v := 0) (ty := .boolean) hx hb hr rfl (fun t ht hW => ⟨⟨0, 1, rfl, Or.inl ⟨rfl, rfl, by omega⟩, ⟨[.int 0, .ref a2, .int 0, .ref a3, .ref a4, .ref a5, .ref a6, .int 0, .int 0, .int 0, .ref a7, .ref a8, .ref a9, .int 0, .int 0, .int 0, .int 0, .int 0, .int 0, .ref a10, .ref a11, .ref a12, .ref a13, .ref a14, .ref a15, .ref a16, .ref a17, .ref a18, .int 0, .ref a19, .ref a20, .ref a21, .int 0, .int 0, .int 0, .ref a22, .ref a23, .ref a24, .ref a25, .ref a26, .ref a27, .ref a28, .ref a29, .ref a30, .ref a31, .ref a1, .int 0, .ref a32, .int 0, .ref a33, .ref a34, .ref a35, .ref a36, .ref a37, .int 0, .int 0, .int 0, .ref a38, .int 0], by rw [ht]; exact hP9, hD9⟩⟩, hS.F ht⟩) hS.2.2 dX12_converter_64
    · have c2 := z_nlt c2
      exfalso
      omega
  · have c1 := z_nlt c1
    refine lv_iload_n hx hb dX12_converter_5 rfl (lv_at hl 1 rfl) ?_
    refine lv_iconst (v := 5) hx hb dX12_converter_6 (by decide +kernel) ?_
    refine lv_icmp_le (tgt := 22) hx hb dX12_converter_7 (by decide) (fun c5 => ?_) (fun c5 => ?_)
    · have c5 := z_le c5
      refine lv_iload_n hx hb dX12_converter_22 rfl (lv_at hl 2 rfl) ?_
      refine lv_iconst (v := 1) hx hb dX12_converter_23 (by decide +kernel) ?_
      refine lv_icmp_lt (tgt := 41) hx hb dX12_converter_24 (by decide) (fun c6 => ?_) (fun c6 => ?_)
      · have c6 := z_lt c6
        refine lv_iconst (v := 0) hx hb dX12_converter_41 (by decide +kernel) ?_
        refine lv_istore (lv' := [(4, .int 0), (0, .ref a0), (1, .int k0), (2, .int k1), (3, .int 0)]) hx hb dX12_converter_42 hl (by decide) rfl (fun ls hl => ?_)
        refine lv_aload_n hx hb dX12_converter_44 rfl (lv_at hl 1 rfl) ?_
        refine lv_iload hx hb dX12_converter_45 (lv_at hl 0 rfl) ?_
        refine lv_if_eq (tgt := 54) hx hb dX12_converter_47 (by decide) (fun _ => ?_) (fun c7 => absurd (by decide +kernel) c7)
        refine lv_iconst (v := 1) hx hb dX12_converter_54 (by decide +kernel) ?_
        refine va_put (D := D) (ci := 14) (v := .int 1) (ty := .int) (C := RX12) (T := TX12) (N := 60) hx hb hts (fun _ h => (List.mem_append_right _ h)) tyX12 tyX12_ok nmX12 hown hK hP hD hS 0 rfl rfl 0 (by decide) (hts (.fieldLink RX12 127 "PhraseDeskModel" "threw" "I") (List.mem_of_getElem? (i := 1) rfl)) (fun _ h9 => h9) rfl (by decide +kernel) rfl rfl (Nat.le_of_ble_eq_true rfl) dX12_converter_55 (fun H locs hP hD hS => ?_)
        have hP : va_P D vwCl [(a0, .inr (14, [.int 1, .int 0, .ref a2, .int 0, .ref a3, .ref a4, .ref a5, .ref a6, .int 0, .int 0, .int 0, .ref a7, .ref a8, .ref a9, .int 0, .int 0, .int 0, .int 0, .int 0, .int 0, .ref a10, .ref a11, .ref a12, .ref a13, .ref a14, .ref a15, .ref a16, .ref a17, .ref a18, .int 0, .ref a19, .ref a20, .ref a21, .int 0, .int 0, .int 0, .ref a22, .ref a23, .ref a24, .ref a25, .ref a26, .ref a27, .ref a28, .ref a29, .ref a30, .ref a31, .ref a1, .int 0, .ref a32, .int 0, .ref a33, .ref a34, .ref a35, .ref a36, .ref a37, .int 0, .int 0, .int 0, .ref a38, .int 0])), (a1, .inl (cy 2, 65, .inl (fun _ => 0)))] H := hP
        have hD : va_D A [(a0, .inr (14, [.int 1, .int 0, .ref a2, .int 0, .ref a3, .ref a4, .ref a5, .ref a6, .int 0, .int 0, .int 0, .ref a7, .ref a8, .ref a9, .int 0, .int 0, .int 0, .int 0, .int 0, .int 0, .ref a10, .ref a11, .ref a12, .ref a13, .ref a14, .ref a15, .ref a16, .ref a17, .ref a18, .int 0, .ref a19, .ref a20, .ref a21, .int 0, .int 0, .int 0, .ref a22, .ref a23, .ref a24, .ref a25, .ref a26, .ref a27, .ref a28, .ref a29, .ref a30, .ref a31, .ref a1, .int 0, .ref a32, .int 0, .ref a33, .ref a34, .ref a35, .ref a36, .ref a37, .int 0, .int 0, .int 0, .ref a38, .int 0])), (a1, .inl (cy 2, 65, .inl (fun _ => 0)))] := hD
        refine lv_iload hx hb dX12_converter_58 (lv_at hl 0 rfl) ?_
        refine lv_if_ne (tgt := 65) hx hb dX12_converter_60 (by decide) (fun c8 => absurd (by decide +kernel) c8) (fun _ => ?_)
        refine lv_iconst (v := 0) hx hb dX12_converter_63 (by decide +kernel) ?_
        refine W.widen (k := 0) (n := 0) (Nat.le_of_ble_eq_true rfl) (Nat.le_of_ble_eq_true rfl) ?_
        have hP9 := hP.sub (ws' := [(a0, .inr (14, [.int 1, .int 0, .ref a2, .int 0, .ref a3, .ref a4, .ref a5, .ref a6, .int 0, .int 0, .int 0, .ref a7, .ref a8, .ref a9, .int 0, .int 0, .int 0, .int 0, .int 0, .int 0, .ref a10, .ref a11, .ref a12, .ref a13, .ref a14, .ref a15, .ref a16, .ref a17, .ref a18, .int 0, .ref a19, .ref a20, .ref a21, .int 0, .int 0, .int 0, .ref a22, .ref a23, .ref a24, .ref a25, .ref a26, .ref a27, .ref a28, .ref a29, .ref a30, .ref a31, .ref a1, .int 0, .ref a32, .int 0, .ref a33, .ref a34, .ref a35, .ref a36, .ref a37, .int 0, .int 0, .int 0, .ref a38, .int 0]))]) [0] rfl
        have hD9 := hD.sub (ws' := [(a0, .inr (14, [.int 1, .int 0, .ref a2, .int 0, .ref a3, .ref a4, .ref a5, .ref a6, .int 0, .int 0, .int 0, .ref a7, .ref a8, .ref a9, .int 0, .int 0, .int 0, .int 0, .int 0, .int 0, .ref a10, .ref a11, .ref a12, .ref a13, .ref a14, .ref a15, .ref a16, .ref a17, .ref a18, .int 0, .ref a19, .ref a20, .ref a21, .int 0, .int 0, .int 0, .ref a22, .ref a23, .ref a24, .ref a25, .ref a26, .ref a27, .ref a28, .ref a29, .ref a30, .ref a31, .ref a1, .int 0, .ref a32, .int 0, .ref a33, .ref a34, .ref a35, .ref a36, .ref a37, .int 0, .int 0, .int 0, .ref a38, .int 0]))]) [0] (by decide) rfl
        exact W.zret (v := 0) (ty := .boolean) hx hb hr rfl (fun t ht hW => ⟨⟨0, 1, rfl, Or.inl ⟨rfl, rfl, by omega⟩, ⟨[.int 0, .ref a2, .int 0, .ref a3, .ref a4, .ref a5, .ref a6, .int 0, .int 0, .int 0, .ref a7, .ref a8, .ref a9, .int 0, .int 0, .int 0, .int 0, .int 0, .int 0, .ref a10, .ref a11, .ref a12, .ref a13, .ref a14, .ref a15, .ref a16, .ref a17, .ref a18, .int 0, .ref a19, .ref a20, .ref a21, .int 0, .int 0, .int 0, .ref a22, .ref a23, .ref a24, .ref a25, .ref a26, .ref a27, .ref a28, .ref a29, .ref a30, .ref a31, .ref a1, .int 0, .ref a32, .int 0, .ref a33, .ref a34, .ref a35, .ref a36, .ref a37, .int 0, .int 0, .int 0, .ref a38, .int 0], by rw [ht]; exact hP9, hD9⟩⟩, hS.F ht⟩) hS.2.2 dX12_converter_64
      · have c6 := z_nlt c6
        refine lv_iload_n hx hb dX12_converter_27 rfl (lv_at hl 2 rfl) ?_
        refine lv_iconst (v := 4) hx hb dX12_converter_28 (by decide +kernel) ?_
        refine lv_icmp_gt (tgt := 41) hx hb dX12_converter_29 (by decide) (fun c9 => ?_) (fun c9 => ?_)
        · have c9 := z_lt c9
          refine lv_iconst (v := 0) hx hb dX12_converter_41 (by decide +kernel) ?_
          refine lv_istore (lv' := [(4, .int 0), (0, .ref a0), (1, .int k0), (2, .int k1), (3, .int 0)]) hx hb dX12_converter_42 hl (by decide) rfl (fun ls hl => ?_)
          refine lv_aload_n hx hb dX12_converter_44 rfl (lv_at hl 1 rfl) ?_
          refine lv_iload hx hb dX12_converter_45 (lv_at hl 0 rfl) ?_
          refine lv_if_eq (tgt := 54) hx hb dX12_converter_47 (by decide) (fun _ => ?_) (fun c10 => absurd (by decide +kernel) c10)
          refine lv_iconst (v := 1) hx hb dX12_converter_54 (by decide +kernel) ?_
          refine va_put (D := D) (ci := 14) (v := .int 1) (ty := .int) (C := RX12) (T := TX12) (N := 60) hx hb hts (fun _ h => (List.mem_append_right _ h)) tyX12 tyX12_ok nmX12 hown hK hP hD hS 0 rfl rfl 0 (by decide) (hts (.fieldLink RX12 127 "PhraseDeskModel" "threw" "I") (List.mem_of_getElem? (i := 1) rfl)) (fun _ h9 => h9) rfl (by decide +kernel) rfl rfl (Nat.le_of_ble_eq_true rfl) dX12_converter_55 (fun H locs hP hD hS => ?_)
          have hP : va_P D vwCl [(a0, .inr (14, [.int 1, .int 0, .ref a2, .int 0, .ref a3, .ref a4, .ref a5, .ref a6, .int 0, .int 0, .int 0, .ref a7, .ref a8, .ref a9, .int 0, .int 0, .int 0, .int 0, .int 0, .int 0, .ref a10, .ref a11, .ref a12, .ref a13, .ref a14, .ref a15, .ref a16, .ref a17, .ref a18, .int 0, .ref a19, .ref a20, .ref a21, .int 0, .int 0, .int 0, .ref a22, .ref a23, .ref a24, .ref a25, .ref a26, .ref a27, .ref a28, .ref a29, .ref a30, .ref a31, .ref a1, .int 0, .ref a32, .int 0, .ref a33, .ref a34, .ref a35, .ref a36, .ref a37, .int 0, .int 0, .int 0, .ref a38, .int 0])), (a1, .inl (cy 2, 65, .inl (fun _ => 0)))] H := hP
          have hD : va_D A [(a0, .inr (14, [.int 1, .int 0, .ref a2, .int 0, .ref a3, .ref a4, .ref a5, .ref a6, .int 0, .int 0, .int 0, .ref a7, .ref a8, .ref a9, .int 0, .int 0, .int 0, .int 0, .int 0, .int 0, .ref a10, .ref a11, .ref a12, .ref a13, .ref a14, .ref a15, .ref a16, .ref a17, .ref a18, .int 0, .ref a19, .ref a20, .ref a21, .int 0, .int 0, .int 0, .ref a22, .ref a23, .ref a24, .ref a25, .ref a26, .ref a27, .ref a28, .ref a29, .ref a30, .ref a31, .ref a1, .int 0, .ref a32, .int 0, .ref a33, .ref a34, .ref a35, .ref a36, .ref a37, .int 0, .int 0, .int 0, .ref a38, .int 0])), (a1, .inl (cy 2, 65, .inl (fun _ => 0)))] := hD
          refine lv_iload hx hb dX12_converter_58 (lv_at hl 0 rfl) ?_
          refine lv_if_ne (tgt := 65) hx hb dX12_converter_60 (by decide) (fun c11 => absurd (by decide +kernel) c11) (fun _ => ?_)
          refine lv_iconst (v := 0) hx hb dX12_converter_63 (by decide +kernel) ?_
          refine W.widen (k := 0) (n := 0) (Nat.le_of_ble_eq_true rfl) (Nat.le_of_ble_eq_true rfl) ?_
          have hP9 := hP.sub (ws' := [(a0, .inr (14, [.int 1, .int 0, .ref a2, .int 0, .ref a3, .ref a4, .ref a5, .ref a6, .int 0, .int 0, .int 0, .ref a7, .ref a8, .ref a9, .int 0, .int 0, .int 0, .int 0, .int 0, .int 0, .ref a10, .ref a11, .ref a12, .ref a13, .ref a14, .ref a15, .ref a16, .ref a17, .ref a18, .int 0, .ref a19, .ref a20, .ref a21, .int 0, .int 0, .int 0, .ref a22, .ref a23, .ref a24, .ref a25, .ref a26, .ref a27, .ref a28, .ref a29, .ref a30, .ref a31, .ref a1, .int 0, .ref a32, .int 0, .ref a33, .ref a34, .ref a35, .ref a36, .ref a37, .int 0, .int 0, .int 0, .ref a38, .int 0]))]) [0] rfl
          have hD9 := hD.sub (ws' := [(a0, .inr (14, [.int 1, .int 0, .ref a2, .int 0, .ref a3, .ref a4, .ref a5, .ref a6, .int 0, .int 0, .int 0, .ref a7, .ref a8, .ref a9, .int 0, .int 0, .int 0, .int 0, .int 0, .int 0, .ref a10, .ref a11, .ref a12, .ref a13, .ref a14, .ref a15, .ref a16, .ref a17, .ref a18, .int 0, .ref a19, .ref a20, .ref a21, .int 0, .int 0, .int 0, .ref a22, .ref a23, .ref a24, .ref a25, .ref a26, .ref a27, .ref a28, .ref a29, .ref a30, .ref a31, .ref a1, .int 0, .ref a32, .int 0, .ref a33, .ref a34, .ref a35, .ref a36, .ref a37, .int 0, .int 0, .int 0, .ref a38, .int 0]))]) [0] (by decide) rfl
          exact W.zret (v := 0) (ty := .boolean) hx hb hr rfl (fun t ht hW => ⟨⟨0, 1, rfl, Or.inl ⟨rfl, rfl, by omega⟩, ⟨[.int 0, .ref a2, .int 0, .ref a3, .ref a4, .ref a5, .ref a6, .int 0, .int 0, .int 0, .ref a7, .ref a8, .ref a9, .int 0, .int 0, .int 0, .int 0, .int 0, .int 0, .ref a10, .ref a11, .ref a12, .ref a13, .ref a14, .ref a15, .ref a16, .ref a17, .ref a18, .int 0, .ref a19, .ref a20, .ref a21, .int 0, .int 0, .int 0, .ref a22, .ref a23, .ref a24, .ref a25, .ref a26, .ref a27, .ref a28, .ref a29, .ref a30, .ref a31, .ref a1, .int 0, .ref a32, .int 0, .ref a33, .ref a34, .ref a35, .ref a36, .ref a37, .int 0, .int 0, .int 0, .ref a38, .int 0], by rw [ht]; exact hP9, hD9⟩⟩, hS.F ht⟩) hS.2.2 dX12_converter_64
        · have c9 := z_nlt c9
          refine lv_iload_n hx hb dX12_converter_32 rfl (lv_at hl 1 rfl) ?_
          refine lv_iload_n hx hb dX12_converter_33 rfl (lv_at hl 2 rfl) ?_
          refine lv_icmp_eq (tgt := 41) hx hb dX12_converter_34 (by decide) (fun c12 => ?_) (fun c12 => ?_)
          · have c12 := z_eq c12
            refine lv_iconst (v := 0) hx hb dX12_converter_41 (by decide +kernel) ?_
            refine lv_istore (lv' := [(4, .int 0), (0, .ref a0), (1, .int k0), (2, .int k1), (3, .int 0)]) hx hb dX12_converter_42 hl (by decide) rfl (fun ls hl => ?_)
            refine lv_aload_n hx hb dX12_converter_44 rfl (lv_at hl 1 rfl) ?_
            refine lv_iload hx hb dX12_converter_45 (lv_at hl 0 rfl) ?_
            refine lv_if_eq (tgt := 54) hx hb dX12_converter_47 (by decide) (fun _ => ?_) (fun c13 => absurd (by decide +kernel) c13)
            refine lv_iconst (v := 1) hx hb dX12_converter_54 (by decide +kernel) ?_
            refine va_put (D := D) (ci := 14) (v := .int 1) (ty := .int) (C := RX12) (T := TX12) (N := 60) hx hb hts (fun _ h => (List.mem_append_right _ h)) tyX12 tyX12_ok nmX12 hown hK hP hD hS 0 rfl rfl 0 (by decide) (hts (.fieldLink RX12 127 "PhraseDeskModel" "threw" "I") (List.mem_of_getElem? (i := 1) rfl)) (fun _ h9 => h9) rfl (by decide +kernel) rfl rfl (Nat.le_of_ble_eq_true rfl) dX12_converter_55 (fun H locs hP hD hS => ?_)
            have hP : va_P D vwCl [(a0, .inr (14, [.int 1, .int 0, .ref a2, .int 0, .ref a3, .ref a4, .ref a5, .ref a6, .int 0, .int 0, .int 0, .ref a7, .ref a8, .ref a9, .int 0, .int 0, .int 0, .int 0, .int 0, .int 0, .ref a10, .ref a11, .ref a12, .ref a13, .ref a14, .ref a15, .ref a16, .ref a17, .ref a18, .int 0, .ref a19, .ref a20, .ref a21, .int 0, .int 0, .int 0, .ref a22, .ref a23, .ref a24, .ref a25, .ref a26, .ref a27, .ref a28, .ref a29, .ref a30, .ref a31, .ref a1, .int 0, .ref a32, .int 0, .ref a33, .ref a34, .ref a35, .ref a36, .ref a37, .int 0, .int 0, .int 0, .ref a38, .int 0])), (a1, .inl (cy 2, 65, .inl (fun _ => 0)))] H := hP
            have hD : va_D A [(a0, .inr (14, [.int 1, .int 0, .ref a2, .int 0, .ref a3, .ref a4, .ref a5, .ref a6, .int 0, .int 0, .int 0, .ref a7, .ref a8, .ref a9, .int 0, .int 0, .int 0, .int 0, .int 0, .int 0, .ref a10, .ref a11, .ref a12, .ref a13, .ref a14, .ref a15, .ref a16, .ref a17, .ref a18, .int 0, .ref a19, .ref a20, .ref a21, .int 0, .int 0, .int 0, .ref a22, .ref a23, .ref a24, .ref a25, .ref a26, .ref a27, .ref a28, .ref a29, .ref a30, .ref a31, .ref a1, .int 0, .ref a32, .int 0, .ref a33, .ref a34, .ref a35, .ref a36, .ref a37, .int 0, .int 0, .int 0, .ref a38, .int 0])), (a1, .inl (cy 2, 65, .inl (fun _ => 0)))] := hD
            refine lv_iload hx hb dX12_converter_58 (lv_at hl 0 rfl) ?_
            refine lv_if_ne (tgt := 65) hx hb dX12_converter_60 (by decide) (fun c14 => absurd (by decide +kernel) c14) (fun _ => ?_)
            refine lv_iconst (v := 0) hx hb dX12_converter_63 (by decide +kernel) ?_
            refine W.widen (k := 0) (n := 0) (Nat.le_of_ble_eq_true rfl) (Nat.le_of_ble_eq_true rfl) ?_
            have hP9 := hP.sub (ws' := [(a0, .inr (14, [.int 1, .int 0, .ref a2, .int 0, .ref a3, .ref a4, .ref a5, .ref a6, .int 0, .int 0, .int 0, .ref a7, .ref a8, .ref a9, .int 0, .int 0, .int 0, .int 0, .int 0, .int 0, .ref a10, .ref a11, .ref a12, .ref a13, .ref a14, .ref a15, .ref a16, .ref a17, .ref a18, .int 0, .ref a19, .ref a20, .ref a21, .int 0, .int 0, .int 0, .ref a22, .ref a23, .ref a24, .ref a25, .ref a26, .ref a27, .ref a28, .ref a29, .ref a30, .ref a31, .ref a1, .int 0, .ref a32, .int 0, .ref a33, .ref a34, .ref a35, .ref a36, .ref a37, .int 0, .int 0, .int 0, .ref a38, .int 0]))]) [0] rfl
            have hD9 := hD.sub (ws' := [(a0, .inr (14, [.int 1, .int 0, .ref a2, .int 0, .ref a3, .ref a4, .ref a5, .ref a6, .int 0, .int 0, .int 0, .ref a7, .ref a8, .ref a9, .int 0, .int 0, .int 0, .int 0, .int 0, .int 0, .ref a10, .ref a11, .ref a12, .ref a13, .ref a14, .ref a15, .ref a16, .ref a17, .ref a18, .int 0, .ref a19, .ref a20, .ref a21, .int 0, .int 0, .int 0, .ref a22, .ref a23, .ref a24, .ref a25, .ref a26, .ref a27, .ref a28, .ref a29, .ref a30, .ref a31, .ref a1, .int 0, .ref a32, .int 0, .ref a33, .ref a34, .ref a35, .ref a36, .ref a37, .int 0, .int 0, .int 0, .ref a38, .int 0]))]) [0] (by decide) rfl
            exact W.zret (v := 0) (ty := .boolean) hx hb hr rfl (fun t ht hW => ⟨⟨0, 1, rfl, Or.inl ⟨rfl, rfl, by omega⟩, ⟨[.int 0, .ref a2, .int 0, .ref a3, .ref a4, .ref a5, .ref a6, .int 0, .int 0, .int 0, .ref a7, .ref a8, .ref a9, .int 0, .int 0, .int 0, .int 0, .int 0, .int 0, .ref a10, .ref a11, .ref a12, .ref a13, .ref a14, .ref a15, .ref a16, .ref a17, .ref a18, .int 0, .ref a19, .ref a20, .ref a21, .int 0, .int 0, .int 0, .ref a22, .ref a23, .ref a24, .ref a25, .ref a26, .ref a27, .ref a28, .ref a29, .ref a30, .ref a31, .ref a1, .int 0, .ref a32, .int 0, .ref a33, .ref a34, .ref a35, .ref a36, .ref a37, .int 0, .int 0, .int 0, .ref a38, .int 0], by rw [ht]; exact hP9, hD9⟩⟩, hS.F ht⟩) hS.2.2 dX12_converter_64
          · have c12 := z_ne c12
            refine lv_iconst (v := 1) hx hb dX12_converter_37 (by decide +kernel) ?_
            refine lv_goto (tgt := 42) hx hb dX12_converter_38 (by decide) ?_
            refine lv_istore (lv' := [(4, .int 1), (0, .ref a0), (1, .int k0), (2, .int k1), (3, .int 0)]) hx hb dX12_converter_42 hl (by decide) rfl (fun ls hl => ?_)
            refine lv_aload_n hx hb dX12_converter_44 rfl (lv_at hl 1 rfl) ?_
            refine lv_iload hx hb dX12_converter_45 (lv_at hl 0 rfl) ?_
            refine lv_if_eq (tgt := 54) hx hb dX12_converter_47 (by decide) (fun c15 => absurd c15 (by decide +kernel)) (fun _ => ?_)
            refine lv_iconst (v := 0) hx hb dX12_converter_50 (by decide +kernel) ?_
            refine lv_goto (tgt := 55) hx hb dX12_converter_51 (by decide) ?_
            refine va_put (D := D) (ci := 14) (v := .int 0) (ty := .int) (C := RX12) (T := TX12) (N := 60) hx hb hts (fun _ h => (List.mem_append_right _ h)) tyX12 tyX12_ok nmX12 hown hK hP hD hS 0 rfl rfl 0 (by decide) (hts (.fieldLink RX12 127 "PhraseDeskModel" "threw" "I") (List.mem_of_getElem? (i := 1) rfl)) (fun _ h9 => h9) rfl (by decide +kernel) rfl rfl (Nat.le_of_ble_eq_true rfl) dX12_converter_55 (fun H locs hP hD hS => ?_)
            have hP : va_P D vwCl [(a0, .inr (14, [.int 0, .int 0, .ref a2, .int 0, .ref a3, .ref a4, .ref a5, .ref a6, .int 0, .int 0, .int 0, .ref a7, .ref a8, .ref a9, .int 0, .int 0, .int 0, .int 0, .int 0, .int 0, .ref a10, .ref a11, .ref a12, .ref a13, .ref a14, .ref a15, .ref a16, .ref a17, .ref a18, .int 0, .ref a19, .ref a20, .ref a21, .int 0, .int 0, .int 0, .ref a22, .ref a23, .ref a24, .ref a25, .ref a26, .ref a27, .ref a28, .ref a29, .ref a30, .ref a31, .ref a1, .int 0, .ref a32, .int 0, .ref a33, .ref a34, .ref a35, .ref a36, .ref a37, .int 0, .int 0, .int 0, .ref a38, .int 0])), (a1, .inl (cy 2, 65, .inl (fun _ => 0)))] H := hP
            have hD : va_D A [(a0, .inr (14, [.int 0, .int 0, .ref a2, .int 0, .ref a3, .ref a4, .ref a5, .ref a6, .int 0, .int 0, .int 0, .ref a7, .ref a8, .ref a9, .int 0, .int 0, .int 0, .int 0, .int 0, .int 0, .ref a10, .ref a11, .ref a12, .ref a13, .ref a14, .ref a15, .ref a16, .ref a17, .ref a18, .int 0, .ref a19, .ref a20, .ref a21, .int 0, .int 0, .int 0, .ref a22, .ref a23, .ref a24, .ref a25, .ref a26, .ref a27, .ref a28, .ref a29, .ref a30, .ref a31, .ref a1, .int 0, .ref a32, .int 0, .ref a33, .ref a34, .ref a35, .ref a36, .ref a37, .int 0, .int 0, .int 0, .ref a38, .int 0])), (a1, .inl (cy 2, 65, .inl (fun _ => 0)))] := hD
            refine lv_iload hx hb dX12_converter_58 (lv_at hl 0 rfl) ?_
            refine lv_if_ne (tgt := 65) hx hb dX12_converter_60 (by decide) (fun _ => ?_) (fun c16 => absurd c16 (by decide +kernel))
            refine lv_aload_n hx hb dX12_converter_65 rfl (lv_at hl 1 rfl) ?_
            refine va_get (D := D) (ci := 14) (v := .ref a1) (C := RX12) (T := TX12) (N := 60) hx hb hts (fun _ h => (List.mem_append_right _ h)) hown hK hP 0 rfl rfl 46 (by decide) (hts (.fieldLink RX12 102 "PhraseDeskModel" "converts" "[Z") (List.mem_of_getElem? (i := 2) rfl)) (fun _ h9 => h9) rfl dX12_converter_66 ?_
            refine lv_iconst (v := 5) hx hb dX12_converter_69 (by decide +kernel) ?_
            refine lv_iload_n hx hb dX12_converter_70 rfl (lv_at hl 2 rfl) ?_
            refine lv_imul hx hb dX12_converter_71 ?_
            refine lv_topi (fun x17 ex17 => ?_)
            have tx17 : x17.toInt = 5 * k0.toInt := by rw [ex17, z_mulc 5 (by decide +kernel) (by omega) (by omega)]; first | done | omega
            refine lv_iload_n hx hb dX12_converter_72 rfl (lv_at hl 3 rfl) ?_
            refine lv_iadd hx hb dX12_converter_73 ?_
            refine lv_topi (fun x18 ex18 => ?_)
            have tx18 : x18.toInt = 5 * k0.toInt + 1 * k1.toInt := by rw [ex18, z_add (by omega) (by omega)]; first | done | omega
            have b20 : vp_in x18 65 := vp_in_iff.mpr ⟨by omega, by omega⟩
            refine va_zald hx hb hK hP 1 2 rfl rfl b20 dX12_converter_74 ?_
            refine lv_topi (fun x19 ex19 => ?_)
            obtain rfl : x19 = 0 := ex19
            refine lv_istore (lv' := [(5, .int 0), (4, .int 1), (0, .ref a0), (1, .int k0), (2, .int k1), (3, .int 0)]) hx hb dX12_converter_75 hl (by decide) rfl (fun ls hl => ?_)
            refine lv_aload_n hx hb dX12_converter_77 rfl (lv_at hl 2 rfl) ?_
            refine va_get (D := D) (ci := 14) (v := .ref a1) (C := RX12) (T := TX12) (N := 60) hx hb hts (fun _ h => (List.mem_append_right _ h)) hown hK hP 0 rfl rfl 46 (by decide) (hts (.fieldLink RX12 102 "PhraseDeskModel" "converts" "[Z") (List.mem_of_getElem? (i := 2) rfl)) (fun _ h9 => h9) rfl dX12_converter_78 ?_
            refine lv_iconst (v := 5) hx hb dX12_converter_81 (by decide +kernel) ?_
            refine lv_iload_n hx hb dX12_converter_82 rfl (lv_at hl 3 rfl) ?_
            refine lv_imul hx hb dX12_converter_83 ?_
            refine lv_topi (fun x21 ex21 => ?_)
            have tx21 : x21.toInt = 5 * k0.toInt := by rw [ex21, z_mulc 5 (by decide +kernel) (by omega) (by omega)]; first | done | omega
            refine lv_iload_n hx hb dX12_converter_84 rfl (lv_at hl 4 rfl) ?_
            refine lv_iadd hx hb dX12_converter_85 ?_
            refine lv_topi (fun x22 ex22 => ?_)
            have tx22 : x22.toInt = 5 * k0.toInt + 1 * k1.toInt := by rw [ex22, z_add (by omega) (by omega)]; first | done | omega
            refine lv_iload_n hx hb dX12_converter_86 rfl (lv_at hl 5 rfl) ?_
            have b23 : vp_in x22 65 := vp_in_iff.mpr ⟨by omega, by omega⟩
            refine va_zast hx hb hK hP hD hS 1 2 rfl rfl b23 dX12_converter_87 (fun H locs hP hD hS => ?_)
            have hP : va_P D vwCl [(a0, .inr (14, [.int 0, .int 0, .ref a2, .int 0, .ref a3, .ref a4, .ref a5, .ref a6, .int 0, .int 0, .int 0, .ref a7, .ref a8, .ref a9, .int 0, .int 0, .int 0, .int 0, .int 0, .int 0, .ref a10, .ref a11, .ref a12, .ref a13, .ref a14, .ref a15, .ref a16, .ref a17, .ref a18, .int 0, .ref a19, .ref a20, .ref a21, .int 0, .int 0, .int 0, .ref a22, .ref a23, .ref a24, .ref a25, .ref a26, .ref a27, .ref a28, .ref a29, .ref a30, .ref a31, .ref a1, .int 0, .ref a32, .int 0, .ref a33, .ref a34, .ref a35, .ref a36, .ref a37, .int 0, .int 0, .int 0, .ref a38, .int 0])), (a1, .inl (cy 2, 65, .inl (upd (fun _ => 0) (x22).toNatClampNeg (vp_nar .boolean 0))))] H := hP
            have hD : va_D A [(a0, .inr (14, [.int 0, .int 0, .ref a2, .int 0, .ref a3, .ref a4, .ref a5, .ref a6, .int 0, .int 0, .int 0, .ref a7, .ref a8, .ref a9, .int 0, .int 0, .int 0, .int 0, .int 0, .int 0, .ref a10, .ref a11, .ref a12, .ref a13, .ref a14, .ref a15, .ref a16, .ref a17, .ref a18, .int 0, .ref a19, .ref a20, .ref a21, .int 0, .int 0, .int 0, .ref a22, .ref a23, .ref a24, .ref a25, .ref a26, .ref a27, .ref a28, .ref a29, .ref a30, .ref a31, .ref a1, .int 0, .ref a32, .int 0, .ref a33, .ref a34, .ref a35, .ref a36, .ref a37, .int 0, .int 0, .int 0, .ref a38, .int 0])), (a1, .inl (cy 2, 65, .inl (upd (fun _ => 0) (x22).toNatClampNeg (vp_nar .boolean 0))))] := hD
            refine lv_iload hx hb dX12_converter_88 (lv_at hl 0 rfl) ?_
            refine W.widen (k := 0) (n := 0) (Nat.le_of_ble_eq_true rfl) (Nat.le_of_ble_eq_true rfl) ?_
            have hP9 := hP.sub (ws' := [(a0, .inr (14, [.int 0, .int 0, .ref a2, .int 0, .ref a3, .ref a4, .ref a5, .ref a6, .int 0, .int 0, .int 0, .ref a7, .ref a8, .ref a9, .int 0, .int 0, .int 0, .int 0, .int 0, .int 0, .ref a10, .ref a11, .ref a12, .ref a13, .ref a14, .ref a15, .ref a16, .ref a17, .ref a18, .int 0, .ref a19, .ref a20, .ref a21, .int 0, .int 0, .int 0, .ref a22, .ref a23, .ref a24, .ref a25, .ref a26, .ref a27, .ref a28, .ref a29, .ref a30, .ref a31, .ref a1, .int 0, .ref a32, .int 0, .ref a33, .ref a34, .ref a35, .ref a36, .ref a37, .int 0, .int 0, .int 0, .ref a38, .int 0]))]) [0] rfl
            have hD9 := hD.sub (ws' := [(a0, .inr (14, [.int 0, .int 0, .ref a2, .int 0, .ref a3, .ref a4, .ref a5, .ref a6, .int 0, .int 0, .int 0, .ref a7, .ref a8, .ref a9, .int 0, .int 0, .int 0, .int 0, .int 0, .int 0, .ref a10, .ref a11, .ref a12, .ref a13, .ref a14, .ref a15, .ref a16, .ref a17, .ref a18, .int 0, .ref a19, .ref a20, .ref a21, .int 0, .int 0, .int 0, .ref a22, .ref a23, .ref a24, .ref a25, .ref a26, .ref a27, .ref a28, .ref a29, .ref a30, .ref a31, .ref a1, .int 0, .ref a32, .int 0, .ref a33, .ref a34, .ref a35, .ref a36, .ref a37, .int 0, .int 0, .int 0, .ref a38, .int 0]))]) [0] (by decide) rfl
            exact W.zret (v := 0) (ty := .boolean) hx hb hr rfl (fun t ht hW => ⟨⟨0, 0, rfl, Or.inr (⟨rfl, rfl, by omega⟩), ⟨[.int 0, .ref a2, .int 0, .ref a3, .ref a4, .ref a5, .ref a6, .int 0, .int 0, .int 0, .ref a7, .ref a8, .ref a9, .int 0, .int 0, .int 0, .int 0, .int 0, .int 0, .ref a10, .ref a11, .ref a12, .ref a13, .ref a14, .ref a15, .ref a16, .ref a17, .ref a18, .int 0, .ref a19, .ref a20, .ref a21, .int 0, .int 0, .int 0, .ref a22, .ref a23, .ref a24, .ref a25, .ref a26, .ref a27, .ref a28, .ref a29, .ref a30, .ref a31, .ref a1, .int 0, .ref a32, .int 0, .ref a33, .ref a34, .ref a35, .ref a36, .ref a37, .int 0, .int 0, .int 0, .ref a38, .int 0], by rw [ht]; exact hP9, hD9⟩⟩, hS.F ht⟩) hS.2.2 dX12_converter_90
    · have c5 := z_nle c5
      refine lv_iload_n hx hb dX12_converter_10 rfl (lv_at hl 1 rfl) ?_
      refine lv_bipush (v := 8) hx hb dX12_converter_11 (by decide +kernel) ?_
      refine lv_icmp_lt (tgt := 41) hx hb dX12_converter_13 (by decide) (fun c24 => ?_) (fun c24 => ?_)
      · have c24 := z_lt c24
        refine lv_iconst (v := 0) hx hb dX12_converter_41 (by decide +kernel) ?_
        refine lv_istore (lv' := [(4, .int 0), (0, .ref a0), (1, .int k0), (2, .int k1), (3, .int 0)]) hx hb dX12_converter_42 hl (by decide) rfl (fun ls hl => ?_)
        refine lv_aload_n hx hb dX12_converter_44 rfl (lv_at hl 1 rfl) ?_
        refine lv_iload hx hb dX12_converter_45 (lv_at hl 0 rfl) ?_
        refine lv_if_eq (tgt := 54) hx hb dX12_converter_47 (by decide) (fun _ => ?_) (fun c25 => absurd (by decide +kernel) c25)
        refine lv_iconst (v := 1) hx hb dX12_converter_54 (by decide +kernel) ?_
        refine va_put (D := D) (ci := 14) (v := .int 1) (ty := .int) (C := RX12) (T := TX12) (N := 60) hx hb hts (fun _ h => (List.mem_append_right _ h)) tyX12 tyX12_ok nmX12 hown hK hP hD hS 0 rfl rfl 0 (by decide) (hts (.fieldLink RX12 127 "PhraseDeskModel" "threw" "I") (List.mem_of_getElem? (i := 1) rfl)) (fun _ h9 => h9) rfl (by decide +kernel) rfl rfl (Nat.le_of_ble_eq_true rfl) dX12_converter_55 (fun H locs hP hD hS => ?_)
        have hP : va_P D vwCl [(a0, .inr (14, [.int 1, .int 0, .ref a2, .int 0, .ref a3, .ref a4, .ref a5, .ref a6, .int 0, .int 0, .int 0, .ref a7, .ref a8, .ref a9, .int 0, .int 0, .int 0, .int 0, .int 0, .int 0, .ref a10, .ref a11, .ref a12, .ref a13, .ref a14, .ref a15, .ref a16, .ref a17, .ref a18, .int 0, .ref a19, .ref a20, .ref a21, .int 0, .int 0, .int 0, .ref a22, .ref a23, .ref a24, .ref a25, .ref a26, .ref a27, .ref a28, .ref a29, .ref a30, .ref a31, .ref a1, .int 0, .ref a32, .int 0, .ref a33, .ref a34, .ref a35, .ref a36, .ref a37, .int 0, .int 0, .int 0, .ref a38, .int 0])), (a1, .inl (cy 2, 65, .inl (fun _ => 0)))] H := hP
        have hD : va_D A [(a0, .inr (14, [.int 1, .int 0, .ref a2, .int 0, .ref a3, .ref a4, .ref a5, .ref a6, .int 0, .int 0, .int 0, .ref a7, .ref a8, .ref a9, .int 0, .int 0, .int 0, .int 0, .int 0, .int 0, .ref a10, .ref a11, .ref a12, .ref a13, .ref a14, .ref a15, .ref a16, .ref a17, .ref a18, .int 0, .ref a19, .ref a20, .ref a21, .int 0, .int 0, .int 0, .ref a22, .ref a23, .ref a24, .ref a25, .ref a26, .ref a27, .ref a28, .ref a29, .ref a30, .ref a31, .ref a1, .int 0, .ref a32, .int 0, .ref a33, .ref a34, .ref a35, .ref a36, .ref a37, .int 0, .int 0, .int 0, .ref a38, .int 0])), (a1, .inl (cy 2, 65, .inl (fun _ => 0)))] := hD
        refine lv_iload hx hb dX12_converter_58 (lv_at hl 0 rfl) ?_
        refine lv_if_ne (tgt := 65) hx hb dX12_converter_60 (by decide) (fun c26 => absurd (by decide +kernel) c26) (fun _ => ?_)
        refine lv_iconst (v := 0) hx hb dX12_converter_63 (by decide +kernel) ?_
        refine W.widen (k := 0) (n := 0) (Nat.le_of_ble_eq_true rfl) (Nat.le_of_ble_eq_true rfl) ?_
        have hP9 := hP.sub (ws' := [(a0, .inr (14, [.int 1, .int 0, .ref a2, .int 0, .ref a3, .ref a4, .ref a5, .ref a6, .int 0, .int 0, .int 0, .ref a7, .ref a8, .ref a9, .int 0, .int 0, .int 0, .int 0, .int 0, .int 0, .ref a10, .ref a11, .ref a12, .ref a13, .ref a14, .ref a15, .ref a16, .ref a17, .ref a18, .int 0, .ref a19, .ref a20, .ref a21, .int 0, .int 0, .int 0, .ref a22, .ref a23, .ref a24, .ref a25, .ref a26, .ref a27, .ref a28, .ref a29, .ref a30, .ref a31, .ref a1, .int 0, .ref a32, .int 0, .ref a33, .ref a34, .ref a35, .ref a36, .ref a37, .int 0, .int 0, .int 0, .ref a38, .int 0]))]) [0] rfl
        have hD9 := hD.sub (ws' := [(a0, .inr (14, [.int 1, .int 0, .ref a2, .int 0, .ref a3, .ref a4, .ref a5, .ref a6, .int 0, .int 0, .int 0, .ref a7, .ref a8, .ref a9, .int 0, .int 0, .int 0, .int 0, .int 0, .int 0, .ref a10, .ref a11, .ref a12, .ref a13, .ref a14, .ref a15, .ref a16, .ref a17, .ref a18, .int 0, .ref a19, .ref a20, .ref a21, .int 0, .int 0, .int 0, .ref a22, .ref a23, .ref a24, .ref a25, .ref a26, .ref a27, .ref a28, .ref a29, .ref a30, .ref a31, .ref a1, .int 0, .ref a32, .int 0, .ref a33, .ref a34, .ref a35, .ref a36, .ref a37, .int 0, .int 0, .int 0, .ref a38, .int 0]))]) [0] (by decide) rfl
        exact W.zret (v := 0) (ty := .boolean) hx hb hr rfl (fun t ht hW => ⟨⟨0, 1, rfl, Or.inl ⟨rfl, rfl, by omega⟩, ⟨[.int 0, .ref a2, .int 0, .ref a3, .ref a4, .ref a5, .ref a6, .int 0, .int 0, .int 0, .ref a7, .ref a8, .ref a9, .int 0, .int 0, .int 0, .int 0, .int 0, .int 0, .ref a10, .ref a11, .ref a12, .ref a13, .ref a14, .ref a15, .ref a16, .ref a17, .ref a18, .int 0, .ref a19, .ref a20, .ref a21, .int 0, .int 0, .int 0, .ref a22, .ref a23, .ref a24, .ref a25, .ref a26, .ref a27, .ref a28, .ref a29, .ref a30, .ref a31, .ref a1, .int 0, .ref a32, .int 0, .ref a33, .ref a34, .ref a35, .ref a36, .ref a37, .int 0, .int 0, .int 0, .ref a38, .int 0], by rw [ht]; exact hP9, hD9⟩⟩, hS.F ht⟩) hS.2.2 dX12_converter_64
      · have c24 := z_nlt c24
        refine lv_iload_n hx hb dX12_converter_16 rfl (lv_at hl 1 rfl) ?_
        refine lv_bipush (v := 12) hx hb dX12_converter_17 (by decide +kernel) ?_
        refine lv_icmp_gt (tgt := 41) hx hb dX12_converter_19 (by decide) (fun c27 => ?_) (fun c27 => ?_)
        · have c27 := z_lt c27
          refine lv_iconst (v := 0) hx hb dX12_converter_41 (by decide +kernel) ?_
          refine lv_istore (lv' := [(4, .int 0), (0, .ref a0), (1, .int k0), (2, .int k1), (3, .int 0)]) hx hb dX12_converter_42 hl (by decide) rfl (fun ls hl => ?_)
          refine lv_aload_n hx hb dX12_converter_44 rfl (lv_at hl 1 rfl) ?_
          refine lv_iload hx hb dX12_converter_45 (lv_at hl 0 rfl) ?_
          refine lv_if_eq (tgt := 54) hx hb dX12_converter_47 (by decide) (fun _ => ?_) (fun c28 => absurd (by decide +kernel) c28)
          refine lv_iconst (v := 1) hx hb dX12_converter_54 (by decide +kernel) ?_
          refine va_put (D := D) (ci := 14) (v := .int 1) (ty := .int) (C := RX12) (T := TX12) (N := 60) hx hb hts (fun _ h => (List.mem_append_right _ h)) tyX12 tyX12_ok nmX12 hown hK hP hD hS 0 rfl rfl 0 (by decide) (hts (.fieldLink RX12 127 "PhraseDeskModel" "threw" "I") (List.mem_of_getElem? (i := 1) rfl)) (fun _ h9 => h9) rfl (by decide +kernel) rfl rfl (Nat.le_of_ble_eq_true rfl) dX12_converter_55 (fun H locs hP hD hS => ?_)
          have hP : va_P D vwCl [(a0, .inr (14, [.int 1, .int 0, .ref a2, .int 0, .ref a3, .ref a4, .ref a5, .ref a6, .int 0, .int 0, .int 0, .ref a7, .ref a8, .ref a9, .int 0, .int 0, .int 0, .int 0, .int 0, .int 0, .ref a10, .ref a11, .ref a12, .ref a13, .ref a14, .ref a15, .ref a16, .ref a17, .ref a18, .int 0, .ref a19, .ref a20, .ref a21, .int 0, .int 0, .int 0, .ref a22, .ref a23, .ref a24, .ref a25, .ref a26, .ref a27, .ref a28, .ref a29, .ref a30, .ref a31, .ref a1, .int 0, .ref a32, .int 0, .ref a33, .ref a34, .ref a35, .ref a36, .ref a37, .int 0, .int 0, .int 0, .ref a38, .int 0])), (a1, .inl (cy 2, 65, .inl (fun _ => 0)))] H := hP
          have hD : va_D A [(a0, .inr (14, [.int 1, .int 0, .ref a2, .int 0, .ref a3, .ref a4, .ref a5, .ref a6, .int 0, .int 0, .int 0, .ref a7, .ref a8, .ref a9, .int 0, .int 0, .int 0, .int 0, .int 0, .int 0, .ref a10, .ref a11, .ref a12, .ref a13, .ref a14, .ref a15, .ref a16, .ref a17, .ref a18, .int 0, .ref a19, .ref a20, .ref a21, .int 0, .int 0, .int 0, .ref a22, .ref a23, .ref a24, .ref a25, .ref a26, .ref a27, .ref a28, .ref a29, .ref a30, .ref a31, .ref a1, .int 0, .ref a32, .int 0, .ref a33, .ref a34, .ref a35, .ref a36, .ref a37, .int 0, .int 0, .int 0, .ref a38, .int 0])), (a1, .inl (cy 2, 65, .inl (fun _ => 0)))] := hD
          refine lv_iload hx hb dX12_converter_58 (lv_at hl 0 rfl) ?_
          refine lv_if_ne (tgt := 65) hx hb dX12_converter_60 (by decide) (fun c29 => absurd (by decide +kernel) c29) (fun _ => ?_)
          refine lv_iconst (v := 0) hx hb dX12_converter_63 (by decide +kernel) ?_
          refine W.widen (k := 0) (n := 0) (Nat.le_of_ble_eq_true rfl) (Nat.le_of_ble_eq_true rfl) ?_
          have hP9 := hP.sub (ws' := [(a0, .inr (14, [.int 1, .int 0, .ref a2, .int 0, .ref a3, .ref a4, .ref a5, .ref a6, .int 0, .int 0, .int 0, .ref a7, .ref a8, .ref a9, .int 0, .int 0, .int 0, .int 0, .int 0, .int 0, .ref a10, .ref a11, .ref a12, .ref a13, .ref a14, .ref a15, .ref a16, .ref a17, .ref a18, .int 0, .ref a19, .ref a20, .ref a21, .int 0, .int 0, .int 0, .ref a22, .ref a23, .ref a24, .ref a25, .ref a26, .ref a27, .ref a28, .ref a29, .ref a30, .ref a31, .ref a1, .int 0, .ref a32, .int 0, .ref a33, .ref a34, .ref a35, .ref a36, .ref a37, .int 0, .int 0, .int 0, .ref a38, .int 0]))]) [0] rfl
          have hD9 := hD.sub (ws' := [(a0, .inr (14, [.int 1, .int 0, .ref a2, .int 0, .ref a3, .ref a4, .ref a5, .ref a6, .int 0, .int 0, .int 0, .ref a7, .ref a8, .ref a9, .int 0, .int 0, .int 0, .int 0, .int 0, .int 0, .ref a10, .ref a11, .ref a12, .ref a13, .ref a14, .ref a15, .ref a16, .ref a17, .ref a18, .int 0, .ref a19, .ref a20, .ref a21, .int 0, .int 0, .int 0, .ref a22, .ref a23, .ref a24, .ref a25, .ref a26, .ref a27, .ref a28, .ref a29, .ref a30, .ref a31, .ref a1, .int 0, .ref a32, .int 0, .ref a33, .ref a34, .ref a35, .ref a36, .ref a37, .int 0, .int 0, .int 0, .ref a38, .int 0]))]) [0] (by decide) rfl
          exact W.zret (v := 0) (ty := .boolean) hx hb hr rfl (fun t ht hW => ⟨⟨0, 1, rfl, Or.inl ⟨rfl, rfl, by omega⟩, ⟨[.int 0, .ref a2, .int 0, .ref a3, .ref a4, .ref a5, .ref a6, .int 0, .int 0, .int 0, .ref a7, .ref a8, .ref a9, .int 0, .int 0, .int 0, .int 0, .int 0, .int 0, .ref a10, .ref a11, .ref a12, .ref a13, .ref a14, .ref a15, .ref a16, .ref a17, .ref a18, .int 0, .ref a19, .ref a20, .ref a21, .int 0, .int 0, .int 0, .ref a22, .ref a23, .ref a24, .ref a25, .ref a26, .ref a27, .ref a28, .ref a29, .ref a30, .ref a31, .ref a1, .int 0, .ref a32, .int 0, .ref a33, .ref a34, .ref a35, .ref a36, .ref a37, .int 0, .int 0, .int 0, .ref a38, .int 0], by rw [ht]; exact hP9, hD9⟩⟩, hS.F ht⟩) hS.2.2 dX12_converter_64
        · have c27 := z_nlt c27
          refine lv_iload_n hx hb dX12_converter_22 rfl (lv_at hl 2 rfl) ?_
          refine lv_iconst (v := 1) hx hb dX12_converter_23 (by decide +kernel) ?_
          refine lv_icmp_lt (tgt := 41) hx hb dX12_converter_24 (by decide) (fun c30 => ?_) (fun c30 => ?_)
          · have c30 := z_lt c30
            refine lv_iconst (v := 0) hx hb dX12_converter_41 (by decide +kernel) ?_
            refine lv_istore (lv' := [(4, .int 0), (0, .ref a0), (1, .int k0), (2, .int k1), (3, .int 0)]) hx hb dX12_converter_42 hl (by decide) rfl (fun ls hl => ?_)
            refine lv_aload_n hx hb dX12_converter_44 rfl (lv_at hl 1 rfl) ?_
            refine lv_iload hx hb dX12_converter_45 (lv_at hl 0 rfl) ?_
            refine lv_if_eq (tgt := 54) hx hb dX12_converter_47 (by decide) (fun _ => ?_) (fun c31 => absurd (by decide +kernel) c31)
            refine lv_iconst (v := 1) hx hb dX12_converter_54 (by decide +kernel) ?_
            refine va_put (D := D) (ci := 14) (v := .int 1) (ty := .int) (C := RX12) (T := TX12) (N := 60) hx hb hts (fun _ h => (List.mem_append_right _ h)) tyX12 tyX12_ok nmX12 hown hK hP hD hS 0 rfl rfl 0 (by decide) (hts (.fieldLink RX12 127 "PhraseDeskModel" "threw" "I") (List.mem_of_getElem? (i := 1) rfl)) (fun _ h9 => h9) rfl (by decide +kernel) rfl rfl (Nat.le_of_ble_eq_true rfl) dX12_converter_55 (fun H locs hP hD hS => ?_)
            have hP : va_P D vwCl [(a0, .inr (14, [.int 1, .int 0, .ref a2, .int 0, .ref a3, .ref a4, .ref a5, .ref a6, .int 0, .int 0, .int 0, .ref a7, .ref a8, .ref a9, .int 0, .int 0, .int 0, .int 0, .int 0, .int 0, .ref a10, .ref a11, .ref a12, .ref a13, .ref a14, .ref a15, .ref a16, .ref a17, .ref a18, .int 0, .ref a19, .ref a20, .ref a21, .int 0, .int 0, .int 0, .ref a22, .ref a23, .ref a24, .ref a25, .ref a26, .ref a27, .ref a28, .ref a29, .ref a30, .ref a31, .ref a1, .int 0, .ref a32, .int 0, .ref a33, .ref a34, .ref a35, .ref a36, .ref a37, .int 0, .int 0, .int 0, .ref a38, .int 0])), (a1, .inl (cy 2, 65, .inl (fun _ => 0)))] H := hP
            have hD : va_D A [(a0, .inr (14, [.int 1, .int 0, .ref a2, .int 0, .ref a3, .ref a4, .ref a5, .ref a6, .int 0, .int 0, .int 0, .ref a7, .ref a8, .ref a9, .int 0, .int 0, .int 0, .int 0, .int 0, .int 0, .ref a10, .ref a11, .ref a12, .ref a13, .ref a14, .ref a15, .ref a16, .ref a17, .ref a18, .int 0, .ref a19, .ref a20, .ref a21, .int 0, .int 0, .int 0, .ref a22, .ref a23, .ref a24, .ref a25, .ref a26, .ref a27, .ref a28, .ref a29, .ref a30, .ref a31, .ref a1, .int 0, .ref a32, .int 0, .ref a33, .ref a34, .ref a35, .ref a36, .ref a37, .int 0, .int 0, .int 0, .ref a38, .int 0])), (a1, .inl (cy 2, 65, .inl (fun _ => 0)))] := hD
            refine lv_iload hx hb dX12_converter_58 (lv_at hl 0 rfl) ?_
            refine lv_if_ne (tgt := 65) hx hb dX12_converter_60 (by decide) (fun c32 => absurd (by decide +kernel) c32) (fun _ => ?_)
            refine lv_iconst (v := 0) hx hb dX12_converter_63 (by decide +kernel) ?_
            refine W.widen (k := 0) (n := 0) (Nat.le_of_ble_eq_true rfl) (Nat.le_of_ble_eq_true rfl) ?_
            have hP9 := hP.sub (ws' := [(a0, .inr (14, [.int 1, .int 0, .ref a2, .int 0, .ref a3, .ref a4, .ref a5, .ref a6, .int 0, .int 0, .int 0, .ref a7, .ref a8, .ref a9, .int 0, .int 0, .int 0, .int 0, .int 0, .int 0, .ref a10, .ref a11, .ref a12, .ref a13, .ref a14, .ref a15, .ref a16, .ref a17, .ref a18, .int 0, .ref a19, .ref a20, .ref a21, .int 0, .int 0, .int 0, .ref a22, .ref a23, .ref a24, .ref a25, .ref a26, .ref a27, .ref a28, .ref a29, .ref a30, .ref a31, .ref a1, .int 0, .ref a32, .int 0, .ref a33, .ref a34, .ref a35, .ref a36, .ref a37, .int 0, .int 0, .int 0, .ref a38, .int 0]))]) [0] rfl
            have hD9 := hD.sub (ws' := [(a0, .inr (14, [.int 1, .int 0, .ref a2, .int 0, .ref a3, .ref a4, .ref a5, .ref a6, .int 0, .int 0, .int 0, .ref a7, .ref a8, .ref a9, .int 0, .int 0, .int 0, .int 0, .int 0, .int 0, .ref a10, .ref a11, .ref a12, .ref a13, .ref a14, .ref a15, .ref a16, .ref a17, .ref a18, .int 0, .ref a19, .ref a20, .ref a21, .int 0, .int 0, .int 0, .ref a22, .ref a23, .ref a24, .ref a25, .ref a26, .ref a27, .ref a28, .ref a29, .ref a30, .ref a31, .ref a1, .int 0, .ref a32, .int 0, .ref a33, .ref a34, .ref a35, .ref a36, .ref a37, .int 0, .int 0, .int 0, .ref a38, .int 0]))]) [0] (by decide) rfl
            exact W.zret (v := 0) (ty := .boolean) hx hb hr rfl (fun t ht hW => ⟨⟨0, 1, rfl, Or.inl ⟨rfl, rfl, by omega⟩, ⟨[.int 0, .ref a2, .int 0, .ref a3, .ref a4, .ref a5, .ref a6, .int 0, .int 0, .int 0, .ref a7, .ref a8, .ref a9, .int 0, .int 0, .int 0, .int 0, .int 0, .int 0, .ref a10, .ref a11, .ref a12, .ref a13, .ref a14, .ref a15, .ref a16, .ref a17, .ref a18, .int 0, .ref a19, .ref a20, .ref a21, .int 0, .int 0, .int 0, .ref a22, .ref a23, .ref a24, .ref a25, .ref a26, .ref a27, .ref a28, .ref a29, .ref a30, .ref a31, .ref a1, .int 0, .ref a32, .int 0, .ref a33, .ref a34, .ref a35, .ref a36, .ref a37, .int 0, .int 0, .int 0, .ref a38, .int 0], by rw [ht]; exact hP9, hD9⟩⟩, hS.F ht⟩) hS.2.2 dX12_converter_64
          · have c30 := z_nlt c30
            refine lv_iload_n hx hb dX12_converter_27 rfl (lv_at hl 2 rfl) ?_
            refine lv_iconst (v := 4) hx hb dX12_converter_28 (by decide +kernel) ?_
            refine lv_icmp_gt (tgt := 41) hx hb dX12_converter_29 (by decide) (fun c33 => ?_) (fun c33 => ?_)
            · have c33 := z_lt c33
              refine lv_iconst (v := 0) hx hb dX12_converter_41 (by decide +kernel) ?_
              refine lv_istore (lv' := [(4, .int 0), (0, .ref a0), (1, .int k0), (2, .int k1), (3, .int 0)]) hx hb dX12_converter_42 hl (by decide) rfl (fun ls hl => ?_)
              refine lv_aload_n hx hb dX12_converter_44 rfl (lv_at hl 1 rfl) ?_
              refine lv_iload hx hb dX12_converter_45 (lv_at hl 0 rfl) ?_
              refine lv_if_eq (tgt := 54) hx hb dX12_converter_47 (by decide) (fun _ => ?_) (fun c34 => absurd (by decide +kernel) c34)
              refine lv_iconst (v := 1) hx hb dX12_converter_54 (by decide +kernel) ?_
              refine va_put (D := D) (ci := 14) (v := .int 1) (ty := .int) (C := RX12) (T := TX12) (N := 60) hx hb hts (fun _ h => (List.mem_append_right _ h)) tyX12 tyX12_ok nmX12 hown hK hP hD hS 0 rfl rfl 0 (by decide) (hts (.fieldLink RX12 127 "PhraseDeskModel" "threw" "I") (List.mem_of_getElem? (i := 1) rfl)) (fun _ h9 => h9) rfl (by decide +kernel) rfl rfl (Nat.le_of_ble_eq_true rfl) dX12_converter_55 (fun H locs hP hD hS => ?_)
              have hP : va_P D vwCl [(a0, .inr (14, [.int 1, .int 0, .ref a2, .int 0, .ref a3, .ref a4, .ref a5, .ref a6, .int 0, .int 0, .int 0, .ref a7, .ref a8, .ref a9, .int 0, .int 0, .int 0, .int 0, .int 0, .int 0, .ref a10, .ref a11, .ref a12, .ref a13, .ref a14, .ref a15, .ref a16, .ref a17, .ref a18, .int 0, .ref a19, .ref a20, .ref a21, .int 0, .int 0, .int 0, .ref a22, .ref a23, .ref a24, .ref a25, .ref a26, .ref a27, .ref a28, .ref a29, .ref a30, .ref a31, .ref a1, .int 0, .ref a32, .int 0, .ref a33, .ref a34, .ref a35, .ref a36, .ref a37, .int 0, .int 0, .int 0, .ref a38, .int 0])), (a1, .inl (cy 2, 65, .inl (fun _ => 0)))] H := hP
              have hD : va_D A [(a0, .inr (14, [.int 1, .int 0, .ref a2, .int 0, .ref a3, .ref a4, .ref a5, .ref a6, .int 0, .int 0, .int 0, .ref a7, .ref a8, .ref a9, .int 0, .int 0, .int 0, .int 0, .int 0, .int 0, .ref a10, .ref a11, .ref a12, .ref a13, .ref a14, .ref a15, .ref a16, .ref a17, .ref a18, .int 0, .ref a19, .ref a20, .ref a21, .int 0, .int 0, .int 0, .ref a22, .ref a23, .ref a24, .ref a25, .ref a26, .ref a27, .ref a28, .ref a29, .ref a30, .ref a31, .ref a1, .int 0, .ref a32, .int 0, .ref a33, .ref a34, .ref a35, .ref a36, .ref a37, .int 0, .int 0, .int 0, .ref a38, .int 0])), (a1, .inl (cy 2, 65, .inl (fun _ => 0)))] := hD
              refine lv_iload hx hb dX12_converter_58 (lv_at hl 0 rfl) ?_
              refine lv_if_ne (tgt := 65) hx hb dX12_converter_60 (by decide) (fun c35 => absurd (by decide +kernel) c35) (fun _ => ?_)
              refine lv_iconst (v := 0) hx hb dX12_converter_63 (by decide +kernel) ?_
              refine W.widen (k := 0) (n := 0) (Nat.le_of_ble_eq_true rfl) (Nat.le_of_ble_eq_true rfl) ?_
              have hP9 := hP.sub (ws' := [(a0, .inr (14, [.int 1, .int 0, .ref a2, .int 0, .ref a3, .ref a4, .ref a5, .ref a6, .int 0, .int 0, .int 0, .ref a7, .ref a8, .ref a9, .int 0, .int 0, .int 0, .int 0, .int 0, .int 0, .ref a10, .ref a11, .ref a12, .ref a13, .ref a14, .ref a15, .ref a16, .ref a17, .ref a18, .int 0, .ref a19, .ref a20, .ref a21, .int 0, .int 0, .int 0, .ref a22, .ref a23, .ref a24, .ref a25, .ref a26, .ref a27, .ref a28, .ref a29, .ref a30, .ref a31, .ref a1, .int 0, .ref a32, .int 0, .ref a33, .ref a34, .ref a35, .ref a36, .ref a37, .int 0, .int 0, .int 0, .ref a38, .int 0]))]) [0] rfl
              have hD9 := hD.sub (ws' := [(a0, .inr (14, [.int 1, .int 0, .ref a2, .int 0, .ref a3, .ref a4, .ref a5, .ref a6, .int 0, .int 0, .int 0, .ref a7, .ref a8, .ref a9, .int 0, .int 0, .int 0, .int 0, .int 0, .int 0, .ref a10, .ref a11, .ref a12, .ref a13, .ref a14, .ref a15, .ref a16, .ref a17, .ref a18, .int 0, .ref a19, .ref a20, .ref a21, .int 0, .int 0, .int 0, .ref a22, .ref a23, .ref a24, .ref a25, .ref a26, .ref a27, .ref a28, .ref a29, .ref a30, .ref a31, .ref a1, .int 0, .ref a32, .int 0, .ref a33, .ref a34, .ref a35, .ref a36, .ref a37, .int 0, .int 0, .int 0, .ref a38, .int 0]))]) [0] (by decide) rfl
              exact W.zret (v := 0) (ty := .boolean) hx hb hr rfl (fun t ht hW => ⟨⟨0, 1, rfl, Or.inl ⟨rfl, rfl, by omega⟩, ⟨[.int 0, .ref a2, .int 0, .ref a3, .ref a4, .ref a5, .ref a6, .int 0, .int 0, .int 0, .ref a7, .ref a8, .ref a9, .int 0, .int 0, .int 0, .int 0, .int 0, .int 0, .ref a10, .ref a11, .ref a12, .ref a13, .ref a14, .ref a15, .ref a16, .ref a17, .ref a18, .int 0, .ref a19, .ref a20, .ref a21, .int 0, .int 0, .int 0, .ref a22, .ref a23, .ref a24, .ref a25, .ref a26, .ref a27, .ref a28, .ref a29, .ref a30, .ref a31, .ref a1, .int 0, .ref a32, .int 0, .ref a33, .ref a34, .ref a35, .ref a36, .ref a37, .int 0, .int 0, .int 0, .ref a38, .int 0], by rw [ht]; exact hP9, hD9⟩⟩, hS.F ht⟩) hS.2.2 dX12_converter_64
            · have c33 := z_nlt c33
              refine lv_iload_n hx hb dX12_converter_32 rfl (lv_at hl 1 rfl) ?_
              refine lv_iload_n hx hb dX12_converter_33 rfl (lv_at hl 2 rfl) ?_
              refine lv_icmp_eq (tgt := 41) hx hb dX12_converter_34 (by decide) (fun c36 => ?_) (fun c36 => ?_)
              · have c36 := z_eq c36
                exfalso
                omega
              · have c36 := z_ne c36
                refine lv_iconst (v := 1) hx hb dX12_converter_37 (by decide +kernel) ?_
                refine lv_goto (tgt := 42) hx hb dX12_converter_38 (by decide) ?_
                refine lv_istore (lv' := [(4, .int 1), (0, .ref a0), (1, .int k0), (2, .int k1), (3, .int 0)]) hx hb dX12_converter_42 hl (by decide) rfl (fun ls hl => ?_)
                refine lv_aload_n hx hb dX12_converter_44 rfl (lv_at hl 1 rfl) ?_
                refine lv_iload hx hb dX12_converter_45 (lv_at hl 0 rfl) ?_
                refine lv_if_eq (tgt := 54) hx hb dX12_converter_47 (by decide) (fun c37 => absurd c37 (by decide +kernel)) (fun _ => ?_)
                refine lv_iconst (v := 0) hx hb dX12_converter_50 (by decide +kernel) ?_
                refine lv_goto (tgt := 55) hx hb dX12_converter_51 (by decide) ?_
                refine va_put (D := D) (ci := 14) (v := .int 0) (ty := .int) (C := RX12) (T := TX12) (N := 60) hx hb hts (fun _ h => (List.mem_append_right _ h)) tyX12 tyX12_ok nmX12 hown hK hP hD hS 0 rfl rfl 0 (by decide) (hts (.fieldLink RX12 127 "PhraseDeskModel" "threw" "I") (List.mem_of_getElem? (i := 1) rfl)) (fun _ h9 => h9) rfl (by decide +kernel) rfl rfl (Nat.le_of_ble_eq_true rfl) dX12_converter_55 (fun H locs hP hD hS => ?_)
                have hP : va_P D vwCl [(a0, .inr (14, [.int 0, .int 0, .ref a2, .int 0, .ref a3, .ref a4, .ref a5, .ref a6, .int 0, .int 0, .int 0, .ref a7, .ref a8, .ref a9, .int 0, .int 0, .int 0, .int 0, .int 0, .int 0, .ref a10, .ref a11, .ref a12, .ref a13, .ref a14, .ref a15, .ref a16, .ref a17, .ref a18, .int 0, .ref a19, .ref a20, .ref a21, .int 0, .int 0, .int 0, .ref a22, .ref a23, .ref a24, .ref a25, .ref a26, .ref a27, .ref a28, .ref a29, .ref a30, .ref a31, .ref a1, .int 0, .ref a32, .int 0, .ref a33, .ref a34, .ref a35, .ref a36, .ref a37, .int 0, .int 0, .int 0, .ref a38, .int 0])), (a1, .inl (cy 2, 65, .inl (fun _ => 0)))] H := hP
                have hD : va_D A [(a0, .inr (14, [.int 0, .int 0, .ref a2, .int 0, .ref a3, .ref a4, .ref a5, .ref a6, .int 0, .int 0, .int 0, .ref a7, .ref a8, .ref a9, .int 0, .int 0, .int 0, .int 0, .int 0, .int 0, .ref a10, .ref a11, .ref a12, .ref a13, .ref a14, .ref a15, .ref a16, .ref a17, .ref a18, .int 0, .ref a19, .ref a20, .ref a21, .int 0, .int 0, .int 0, .ref a22, .ref a23, .ref a24, .ref a25, .ref a26, .ref a27, .ref a28, .ref a29, .ref a30, .ref a31, .ref a1, .int 0, .ref a32, .int 0, .ref a33, .ref a34, .ref a35, .ref a36, .ref a37, .int 0, .int 0, .int 0, .ref a38, .int 0])), (a1, .inl (cy 2, 65, .inl (fun _ => 0)))] := hD
                refine lv_iload hx hb dX12_converter_58 (lv_at hl 0 rfl) ?_
                refine lv_if_ne (tgt := 65) hx hb dX12_converter_60 (by decide) (fun _ => ?_) (fun c38 => absurd c38 (by decide +kernel))
                refine lv_aload_n hx hb dX12_converter_65 rfl (lv_at hl 1 rfl) ?_
                refine va_get (D := D) (ci := 14) (v := .ref a1) (C := RX12) (T := TX12) (N := 60) hx hb hts (fun _ h => (List.mem_append_right _ h)) hown hK hP 0 rfl rfl 46 (by decide) (hts (.fieldLink RX12 102 "PhraseDeskModel" "converts" "[Z") (List.mem_of_getElem? (i := 2) rfl)) (fun _ h9 => h9) rfl dX12_converter_66 ?_
                refine lv_iconst (v := 5) hx hb dX12_converter_69 (by decide +kernel) ?_
                refine lv_iload_n hx hb dX12_converter_70 rfl (lv_at hl 2 rfl) ?_
                refine lv_imul hx hb dX12_converter_71 ?_
                refine lv_topi (fun x39 ex39 => ?_)
                have tx39 : x39.toInt = 5 * k0.toInt := by rw [ex39, z_mulc 5 (by decide +kernel) (by omega) (by omega)]; first | done | omega
                refine lv_iload_n hx hb dX12_converter_72 rfl (lv_at hl 3 rfl) ?_
                refine lv_iadd hx hb dX12_converter_73 ?_
                refine lv_topi (fun x40 ex40 => ?_)
                have tx40 : x40.toInt = 5 * k0.toInt + 1 * k1.toInt := by rw [ex40, z_add (by omega) (by omega)]; first | done | omega
                have b42 : vp_in x40 65 := vp_in_iff.mpr ⟨by omega, by omega⟩
                refine va_zald hx hb hK hP 1 2 rfl rfl b42 dX12_converter_74 ?_
                refine lv_topi (fun x41 ex41 => ?_)
                obtain rfl : x41 = 0 := ex41
                refine lv_istore (lv' := [(5, .int 0), (4, .int 1), (0, .ref a0), (1, .int k0), (2, .int k1), (3, .int 0)]) hx hb dX12_converter_75 hl (by decide) rfl (fun ls hl => ?_)
                refine lv_aload_n hx hb dX12_converter_77 rfl (lv_at hl 2 rfl) ?_
                refine va_get (D := D) (ci := 14) (v := .ref a1) (C := RX12) (T := TX12) (N := 60) hx hb hts (fun _ h => (List.mem_append_right _ h)) hown hK hP 0 rfl rfl 46 (by decide) (hts (.fieldLink RX12 102 "PhraseDeskModel" "converts" "[Z") (List.mem_of_getElem? (i := 2) rfl)) (fun _ h9 => h9) rfl dX12_converter_78 ?_
                refine lv_iconst (v := 5) hx hb dX12_converter_81 (by decide +kernel) ?_
                refine lv_iload_n hx hb dX12_converter_82 rfl (lv_at hl 3 rfl) ?_
                refine lv_imul hx hb dX12_converter_83 ?_
                refine lv_topi (fun x43 ex43 => ?_)
                have tx43 : x43.toInt = 5 * k0.toInt := by rw [ex43, z_mulc 5 (by decide +kernel) (by omega) (by omega)]; first | done | omega
                refine lv_iload_n hx hb dX12_converter_84 rfl (lv_at hl 4 rfl) ?_
                refine lv_iadd hx hb dX12_converter_85 ?_
                refine lv_topi (fun x44 ex44 => ?_)
                have tx44 : x44.toInt = 5 * k0.toInt + 1 * k1.toInt := by rw [ex44, z_add (by omega) (by omega)]; first | done | omega
                refine lv_iload_n hx hb dX12_converter_86 rfl (lv_at hl 5 rfl) ?_
                have b45 : vp_in x44 65 := vp_in_iff.mpr ⟨by omega, by omega⟩
                refine va_zast hx hb hK hP hD hS 1 2 rfl rfl b45 dX12_converter_87 (fun H locs hP hD hS => ?_)
                have hP : va_P D vwCl [(a0, .inr (14, [.int 0, .int 0, .ref a2, .int 0, .ref a3, .ref a4, .ref a5, .ref a6, .int 0, .int 0, .int 0, .ref a7, .ref a8, .ref a9, .int 0, .int 0, .int 0, .int 0, .int 0, .int 0, .ref a10, .ref a11, .ref a12, .ref a13, .ref a14, .ref a15, .ref a16, .ref a17, .ref a18, .int 0, .ref a19, .ref a20, .ref a21, .int 0, .int 0, .int 0, .ref a22, .ref a23, .ref a24, .ref a25, .ref a26, .ref a27, .ref a28, .ref a29, .ref a30, .ref a31, .ref a1, .int 0, .ref a32, .int 0, .ref a33, .ref a34, .ref a35, .ref a36, .ref a37, .int 0, .int 0, .int 0, .ref a38, .int 0])), (a1, .inl (cy 2, 65, .inl (upd (fun _ => 0) (x44).toNatClampNeg (vp_nar .boolean 0))))] H := hP
                have hD : va_D A [(a0, .inr (14, [.int 0, .int 0, .ref a2, .int 0, .ref a3, .ref a4, .ref a5, .ref a6, .int 0, .int 0, .int 0, .ref a7, .ref a8, .ref a9, .int 0, .int 0, .int 0, .int 0, .int 0, .int 0, .ref a10, .ref a11, .ref a12, .ref a13, .ref a14, .ref a15, .ref a16, .ref a17, .ref a18, .int 0, .ref a19, .ref a20, .ref a21, .int 0, .int 0, .int 0, .ref a22, .ref a23, .ref a24, .ref a25, .ref a26, .ref a27, .ref a28, .ref a29, .ref a30, .ref a31, .ref a1, .int 0, .ref a32, .int 0, .ref a33, .ref a34, .ref a35, .ref a36, .ref a37, .int 0, .int 0, .int 0, .ref a38, .int 0])), (a1, .inl (cy 2, 65, .inl (upd (fun _ => 0) (x44).toNatClampNeg (vp_nar .boolean 0))))] := hD
                refine lv_iload hx hb dX12_converter_88 (lv_at hl 0 rfl) ?_
                refine W.widen (k := 0) (n := 0) (Nat.le_of_ble_eq_true rfl) (Nat.le_of_ble_eq_true rfl) ?_
                have hP9 := hP.sub (ws' := [(a0, .inr (14, [.int 0, .int 0, .ref a2, .int 0, .ref a3, .ref a4, .ref a5, .ref a6, .int 0, .int 0, .int 0, .ref a7, .ref a8, .ref a9, .int 0, .int 0, .int 0, .int 0, .int 0, .int 0, .ref a10, .ref a11, .ref a12, .ref a13, .ref a14, .ref a15, .ref a16, .ref a17, .ref a18, .int 0, .ref a19, .ref a20, .ref a21, .int 0, .int 0, .int 0, .ref a22, .ref a23, .ref a24, .ref a25, .ref a26, .ref a27, .ref a28, .ref a29, .ref a30, .ref a31, .ref a1, .int 0, .ref a32, .int 0, .ref a33, .ref a34, .ref a35, .ref a36, .ref a37, .int 0, .int 0, .int 0, .ref a38, .int 0]))]) [0] rfl
                have hD9 := hD.sub (ws' := [(a0, .inr (14, [.int 0, .int 0, .ref a2, .int 0, .ref a3, .ref a4, .ref a5, .ref a6, .int 0, .int 0, .int 0, .ref a7, .ref a8, .ref a9, .int 0, .int 0, .int 0, .int 0, .int 0, .int 0, .ref a10, .ref a11, .ref a12, .ref a13, .ref a14, .ref a15, .ref a16, .ref a17, .ref a18, .int 0, .ref a19, .ref a20, .ref a21, .int 0, .int 0, .int 0, .ref a22, .ref a23, .ref a24, .ref a25, .ref a26, .ref a27, .ref a28, .ref a29, .ref a30, .ref a31, .ref a1, .int 0, .ref a32, .int 0, .ref a33, .ref a34, .ref a35, .ref a36, .ref a37, .int 0, .int 0, .int 0, .ref a38, .int 0]))]) [0] (by decide) rfl
                exact W.zret (v := 0) (ty := .boolean) hx hb hr rfl (fun t ht hW => ⟨⟨0, 0, rfl, Or.inr (⟨rfl, rfl, by omega⟩), ⟨[.int 0, .ref a2, .int 0, .ref a3, .ref a4, .ref a5, .ref a6, .int 0, .int 0, .int 0, .ref a7, .ref a8, .ref a9, .int 0, .int 0, .int 0, .int 0, .int 0, .int 0, .ref a10, .ref a11, .ref a12, .ref a13, .ref a14, .ref a15, .ref a16, .ref a17, .ref a18, .int 0, .ref a19, .ref a20, .ref a21, .int 0, .int 0, .int 0, .ref a22, .ref a23, .ref a24, .ref a25, .ref a26, .ref a27, .ref a28, .ref a29, .ref a30, .ref a31, .ref a1, .int 0, .ref a32, .int 0, .ref a33, .ref a34, .ref a35, .ref a36, .ref a37, .int 0, .int 0, .int 0, .ref a38, .int 0], by rw [ht]; exact hP9, hD9⟩⟩, hS.F ht⟩) hS.2.2 dX12_converter_90

def wq_X0_change_30 : List Cond := [.code yX0_change cX0_change 6 (some .boolean), .methodLink RX0 22 yX0_isThere, .instanceMethod yX0_isThere, .selects RX0 yX0_isThere yX0_isThere, .initialized RX0, .code yX0_isThere cX0_isThere 4 (some .boolean), .fieldLink RX0 11 "PhraseDesk$Converters" "there" "[Z"]
def wq_X0_change_3 : List Cond := wq_X0_change_30 ++ wsX00
set_option maxHeartbeats 4000000 in
set_option maxRecDepth 100000 in
theorem C_X0_change_3 (l : Launch) (D : va_G) (cy : Nat → ClassId) (sz0 : Nat) (sa : Nat → Nat) (a0 a1 a2 : Nat) (sz : Nat) (k0 : Int32) (k1 : Int32) : Met l yX0_change wq_X0_change_3 ({ frames := 1, cells := 0, slots := 0, locals := 23 }) (PcW D cy sz0 sa [.ref a0, .int k0, .int k1, .int 1] [(a0, .inr (2, [.ref a1, .ref a2])), (a1, .inl (cy 2, 65, .inl (fun _ => 0)))] sz) (va_Qi (fun (r : Int32) (u : Unit) => r = 0) (fun (_ : Unit) (_ : State) => True) (va_A [(a0, .inr (2, [.ref a1, .ref a2])), (a1, .inl (cy 2, 65, .inl (fun _ => 0)))] sz)) 0 0 (va_A [(a0, .inr (2, [.ref a1, .ref a2])), (a1, .inl (cy 2, 65, .inl (fun _ => 0)))] sz) := by
  refine Met.ofW (cc := cX0_change) (maxL := 6) (ret := (some .boolean)) (by decide) rfl ?_
  intro p e s m args below meth c s₁ B hml hv
  obtain ⟨rfl, hsz, hP, hD0, hE⟩ := hv
  have hx := B.exec
  have hb := B.bytes
  have hr := B.returns
  have hts := atoms_spec (ws := wq_X0_change_3) B.pre
  have hown : s.vm.findClass RX0 = some m.cls := findClass_of_methodNamed B.named
  have hlocks := B.notSynchronized
  subst hsz
  have hK := hE.1
  have hAm := hE.2.2.1
  have hWm := hE.2.2.2
  have hAO := hWm.2.2.2.1
  have hD := hD0.self (sz := s.heap.size)
  have hAF := frA hD0 hE.2.1
  generalize hAe : va_A [(a0, .inr (2, [.ref a1, .ref a2])), (a1, .inl (cy 2, 65, .inl (fun _ => 0)))] s.heap.size = A at hD hAF ⊢
  have hA : ∀ q : Nat, s.heap.size ≤ q → A q := fun q h => by rw [← hAe]; exact Or.inr h
  have hS : va_S A s.heap s.heap [] := va_S.rf
  have hl := lv_entry ([.ref a0, .int k0, .int k1, .int 1]) (n := 6) (Nat.le_of_ble_eq_true rfl)
  rw [lg_entry_eq]
  generalize (lg_sl ([.ref a0, .int k0, .int k1, .int 1]) ++ List.replicate (6 - (lg_sl ([.ref a0, .int k0, .int k1, .int 1])).length) Slot.unset).toArray = ls at hl ⊢
  have hl : lv_has ls 6 [(0, .ref a0), (1, .int k0), (2, .int k1), (3, .int 1)] := hl
  have hP : va_P D vwCl [(a0, .inr (2, [.ref a1, .ref a2])), (a1, .inl (cy 2, 65, .inl (fun _ => 0)))] s.heap := hP
  have z0 : (0 : Int32).toInt = 0 := by decide +kernel
  have z65 : (65 : Int32).toInt = 65 := by decide +kernel
  refine lv_aload_n hx hb dX0_change_0 rfl (lv_at hl 0 rfl) ?_
  refine lv_iload_n hx hb dX0_change_1 rfl (lv_at hl 1 rfl) ?_
  refine lv_iload_n hx hb dX0_change_2 rfl (lv_at hl 2 rfl) ?_
  have hPc := hP.sub (ws' := [(a0, .inr (2, [.ref a1, .ref a2])), (a1, .inl (cy 2, 65, .inl (fun _ => 0)))]) [0, 1] rfl
  have hDc := hD.sub (ws' := [(a0, .inr (2, [.ref a1, .ref a2])), (a1, .inl (cy 2, 65, .inl (fun _ => 0)))]) [0, 1] (by decide) rfl
  have hFc := va_free (wc := [(a0, .inr (2, [.ref a1, .ref a2])), (a1, .inl (cy 2, 65, .inl (fun _ => 0)))]) hD hS hA [0, 1] rfl
  refine va_calli (va_runV (As := [.int k0, .int k1]) (rest := []) ⟨hx, hb, hml, hown, hts⟩ (C_X0_isThere_1 l D cy sz0 sa a0 a1 a2 s.heap.size k0 k1) (cwV 2 hts (goodIn_app (goodIn_r _ [1, 2, 3, 4] rfl (by decide +kernel)) (goodIn_app (goodIn_r wq_X0_isThere_10 [5, 6] rfl (by decide +kernel)) (goodIn_sub (fun _ h => (List.mem_append_right _ h)) (by decide +kernel)))) rfl rfl rfl (by decide +kernel) ⟨Nat.le_of_ble_eq_true rfl, Nat.le_of_ble_eq_true rfl⟩) ⟨PcW.blind, va_recv hK hPc (ci := 2) (q0 := 0) rfl rfl, PcW.mk hE hS hAF hPc hDc⟩ rfl rfl hl.1 rfl (lv_room (Nat.le_of_ble_eq_true rfl)) dX0_change_3 ⟨Nat.le_of_ble_eq_true rfl, Nat.le_of_ble_eq_true rfl⟩) hS (fun q _ h => hFc q h) hFc (fun r_1 u t H1 locs ht hvm hw hB hz1 hk1 hS => ?_)
  obtain ⟨hP1, hD1⟩ := hB
  rw [ht] at hP1
  have hP1 : va_P D vwCl [(a0, .inr (2, [.ref a1, .ref a2])), (a1, .inl (cy 2, 65, .inl (fun _ => 0)))] H1 := hP1
  obtain ⟨hP, hD⟩ := va_join (wr := []) (w1 := [(a0, .inr (2, [.ref a1, .ref a2])), (a1, .inl (cy 2, 65, .inl (fun _ => 0)))]) hP hD [0, 1] [] rfl rfl (by decide) (by decide) hk1 hFc hP1 hD1
  clear hP1 hD1 hPc hDc hFc hk1 hz1
  generalize H1 = H at hP hS ⊢
  have hP : va_P D vwCl [(a0, .inr (2, [.ref a1, .ref a2])), (a1, .inl (cy 2, 65, .inl (fun _ => 0)))] H := hP
  have hD : va_D A [(a0, .inr (2, [.ref a1, .ref a2])), (a1, .inl (cy 2, 65, .inl (fun _ => 0)))] := hD
  refine W.widen (k := 0) (n := 0) (Nat.le_of_ble_eq_true rfl) (Nat.le_of_ble_eq_true rfl) ?_
  obtain rfl : r_1 = 0 := hw
  refine lv_istore (lv' := [(4, .int 0), (0, .ref a0), (1, .int k0), (2, .int k1), (3, .int 1)]) hx hb dX0_change_6 hl (by decide) rfl (fun ls hl => ?_)
  refine lv_iload_n hx hb dX0_change_8 rfl (lv_at hl 2 rfl) ?_
  refine lv_iconst (v := 5) hx hb dX0_change_9 (by decide +kernel) ?_
  refine lv_imul hx hb dX0_change_10 ?_
  refine lv_topi (fun x2 ex2 => ?_)
  refine lv_iload_n hx hb dX0_change_11 rfl (lv_at hl 3 rfl) ?_
  refine lv_iadd hx hb dX0_change_12 ?_
  refine lv_topi (fun x3 ex3 => ?_)
  refine lv_istore (lv' := [(5, .int x3), (4, .int 0), (0, .ref a0), (1, .int k0), (2, .int k1), (3, .int 1)]) hx hb dX0_change_13 hl (by decide) rfl (fun ls hl => ?_)
  refine lv_iload hx hb dX0_change_15 (lv_at hl 0 rfl) ?_
  refine lv_if_lt (tgt := 38) hx hb dX0_change_17 (by decide) (fun c4 => ?_) (fun c4 => ?_)
  · have c4 := z_lt c4
    refine lv_iload hx hb dX0_change_38 (lv_at hl 1 rfl) ?_
    refine W.widen (k := 0) (n := 0) (Nat.le_of_ble_eq_true rfl) (Nat.le_of_ble_eq_true rfl) ?_
    exact W.zret (v := 0) (ty := .boolean) hx hb hr rfl (fun t ht hW => ⟨⟨0, (), rfl, rfl, trivial⟩, hS.F ht⟩) hS.2.2 dX0_change_40
  · have c4 := z_nlt c4
    refine lv_iload hx hb dX0_change_20 (lv_at hl 0 rfl) ?_
    refine lv_aload_n hx hb dX0_change_22 rfl (lv_at hl 2 rfl) ?_
    refine va_get (D := D) (ci := 2) (v := .ref a1) (C := RX0) (T := TX0) (N := 2) hx hb hts (fun _ h => (List.mem_append_right _ h)) hown hK hP 0 rfl rfl 0 (by decide) (hts (.fieldLink RX0 11 "PhraseDesk$Converters" "there" "[Z") (List.mem_of_getElem? (i := 6) rfl)) (fun _ h9 => h9) rfl dX0_change_23 ?_
    refine va_alen (v := 65) hx hb hK hP 1 2 rfl rfl rfl dX0_change_26 ?_
    refine lv_icmp_ge (tgt := 38) hx hb dX0_change_27 (by decide) (fun c5 => ?_) (fun c5 => ?_)
    · have c5 := z_le c5
      refine lv_iload hx hb dX0_change_38 (lv_at hl 1 rfl) ?_
      refine W.widen (k := 0) (n := 0) (Nat.le_of_ble_eq_true rfl) (Nat.le_of_ble_eq_true rfl) ?_
      exact W.zret (v := 0) (ty := .boolean) hx hb hr rfl (fun t ht hW => ⟨⟨0, (), rfl, rfl, trivial⟩, hS.F ht⟩) hS.2.2 dX0_change_40
    · have c5 := z_nle c5
      refine lv_aload_n hx hb dX0_change_30 rfl (lv_at hl 2 rfl) ?_
      refine va_get (D := D) (ci := 2) (v := .ref a1) (C := RX0) (T := TX0) (N := 2) hx hb hts (fun _ h => (List.mem_append_right _ h)) hown hK hP 0 rfl rfl 0 (by decide) (hts (.fieldLink RX0 11 "PhraseDesk$Converters" "there" "[Z") (List.mem_of_getElem? (i := 6) rfl)) (fun _ h9 => h9) rfl dX0_change_31 ?_
      refine lv_iload hx hb dX0_change_34 (lv_at hl 0 rfl) ?_
      refine lv_iload_n hx hb dX0_change_36 rfl (lv_at hl 5 rfl) ?_
      have b6 : vp_in x3 65 := vp_in_iff.mpr ⟨by omega, by omega⟩
      refine va_zast hx hb hK hP hD hS 1 2 rfl rfl b6 dX0_change_37 (fun H locs hP hD hS => ?_)
      have hP : va_P D vwCl [(a0, .inr (2, [.ref a1, .ref a2])), (a1, .inl (cy 2, 65, .inl (upd (fun _ => 0) (x3).toNatClampNeg (vp_nar .boolean 1))))] H := hP
      have hD : va_D A [(a0, .inr (2, [.ref a1, .ref a2])), (a1, .inl (cy 2, 65, .inl (upd (fun _ => 0) (x3).toNatClampNeg (vp_nar .boolean 1))))] := hD
      refine lv_iload hx hb dX0_change_38 (lv_at hl 1 rfl) ?_
      refine W.widen (k := 0) (n := 0) (Nat.le_of_ble_eq_true rfl) (Nat.le_of_ble_eq_true rfl) ?_
      exact W.zret (v := 0) (ty := .boolean) hx hb hr rfl (fun t ht hW => ⟨⟨0, (), rfl, rfl, trivial⟩, hS.F ht⟩) hS.2.2 dX0_change_40

def wq_X11_converter_30 : List Cond := [.code yX11_converter cX11_converter 5 (some .boolean), .classLink RX11 49 "java/lang/IllegalArgumentException", .initialized "java/lang/IllegalArgumentException", .fieldLink RX11 19 "PhraseDesk" "runner" "LPhraseDesk$Runner;", .fieldLink RX11 167 "PhraseDesk$Runner" "converters" "LPhraseDesk$Converters;", .methodLink RX11 171 yX0_change, .instanceMethod yX0_change, .selects RX0 yX0_change yX0_change, .initialized RX0, .code yX0_change cX0_change 6 (some .boolean), .methodLink RX0 22 yX0_isThere, .instanceMethod yX0_isThere, .selects RX0 yX0_isThere yX0_isThere, .code yX0_isThere cX0_isThere 4 (some .boolean), .fieldLink RX0 11 "PhraseDesk$Converters" "there" "[Z"]
def wq_X11_converter_3 : List Cond := wq_X11_converter_30 ++ wsX110 ++ wsX80 ++ wsX00 ++ (vx_atS RX11 53 tIAE tSup).filter goodWord
set_option maxHeartbeats 4000000 in
set_option maxRecDepth 100000 in
theorem C_X11_converter_3 (l : Launch) (hfl : l.stackTraces = false) (D : va_G) (cy : Nat → ClassId) (sz0 : Nat) (sa : Nat → Nat) (a0 a1 a2 a3 a4 a5 a6 a7 a8 a9 a10 a11 a12 a13 : Nat) (sz : Nat) (k0 : Int32) (k1 : Int32) : vx_Met l yX11_converter wq_X11_converter_3 ({ frames := 6, cells := 1, slots := 6, locals := 82 }) (PcW D cy sz0 sa [.ref a0, .int k0, .int k1, .int 1] [(a0, .inr (13, [.ref a4, .ref a1, .ref a5, .int 0, .ref a6, .int 0, .ref a7, .int 0, .ref a8])), (a1, .inr (10, [.ref a9, .ref a2, .ref a10, .ref a11, .ref a12, .int 0, .ref a9, .int 0])), (a2, .inr (2, [.ref a3, .ref a13])), (a3, .inl (cy 2, 65, .inl (fun _ => 0)))] sz) (va_Qi (fun (r : Int32) (u : Unit) => r = 0 ∧ ((1 ≤ k0.toInt ∧ k0.toInt ≤ 5 ∧ 1 ≤ k1.toInt ∧ k1.toInt ≤ 4 ∧ ¬ k0.toInt = k1.toInt) ∨ (1 ≤ k0.toInt ∧ 5 < k0.toInt ∧ 8 ≤ k0.toInt ∧ k0.toInt < 13 ∧ 1 ≤ k1.toInt ∧ k1.toInt ≤ 4 ∧ ¬ k0.toInt = k1.toInt))) (fun (_ : Unit) (_ : State) => True) (va_A [(a0, .inr (13, [.ref a4, .ref a1, .ref a5, .int 0, .ref a6, .int 0, .ref a7, .int 0, .ref a8])), (a1, .inr (10, [.ref a9, .ref a2, .ref a10, .ref a11, .ref a12, .int 0, .ref a9, .int 0])), (a2, .inr (2, [.ref a3, .ref a13])), (a3, .inl (cy 2, 65, .inl (fun _ => 0)))] sz)) (vx_X (fun _ : Unit => True) (fun (E : String) (_ : Unit) (_ : State) => E = tIAE ∧ ((k0.toInt < 1 ∧ k0.toInt < 8) ∨ (1 ≤ k0.toInt ∧ k0.toInt ≤ 5 ∧ k1.toInt < 1) ∨ (1 ≤ k0.toInt ∧ k0.toInt ≤ 5 ∧ 1 ≤ k1.toInt ∧ 4 < k1.toInt) ∨ (1 ≤ k0.toInt ∧ k0.toInt ≤ 5 ∧ 1 ≤ k1.toInt ∧ k1.toInt ≤ 4 ∧ k0.toInt = k1.toInt) ∨ (1 ≤ k0.toInt ∧ 5 < k0.toInt ∧ k0.toInt < 8) ∨ (1 ≤ k0.toInt ∧ 5 < k0.toInt ∧ 8 ≤ k0.toInt ∧ 13 ≤ k0.toInt) ∨ (1 ≤ k0.toInt ∧ 5 < k0.toInt ∧ 8 ≤ k0.toInt ∧ k0.toInt < 13 ∧ k1.toInt < 1) ∨ (1 ≤ k0.toInt ∧ 5 < k0.toInt ∧ 8 ≤ k0.toInt ∧ k0.toInt < 13 ∧ 1 ≤ k1.toInt ∧ 4 < k1.toInt))) (va_A [(a0, .inr (13, [.ref a4, .ref a1, .ref a5, .int 0, .ref a6, .int 0, .ref a7, .int 0, .ref a8])), (a1, .inr (10, [.ref a9, .ref a2, .ref a10, .ref a11, .ref a12, .int 0, .ref a9, .int 0])), (a2, .inr (2, [.ref a3, .ref a13])), (a3, .inl (cy 2, 65, .inl (fun _ => 0)))] sz)) 1 6 (va_A [(a0, .inr (13, [.ref a4, .ref a1, .ref a5, .int 0, .ref a6, .int 0, .ref a7, .int 0, .ref a8])), (a1, .inr (10, [.ref a9, .ref a2, .ref a10, .ref a11, .ref a12, .int 0, .ref a9, .int 0])), (a2, .inr (2, [.ref a3, .ref a13])), (a3, .inl (cy 2, 65, .inl (fun _ => 0)))] sz) := by
  refine vx_ofW (cc := cX11_converter) (maxL := 5) (ret := (some .boolean)) (by decide) rfl ?_
  intro p e s m args below meth c s₁ B hml hout hv
  obtain ⟨rfl, hsz, hP, hD0, hE⟩ := hv
  have hx := B.exec
  have hb := B.bytes
  have hr := B.returns
  have hts := atoms_spec (ws := wq_X11_converter_3) B.pre
  have hown : s.vm.findClass RX11 = some m.cls := findClass_of_methodNamed B.named
  have hlocks := B.notSynchronized
  subst hsz
  have hK := hE.1
  have hAm := hE.2.2.1
  have hWm := hE.2.2.2
  have hAO := hWm.2.2.2.1
  have hD := hD0.self (sz := s.heap.size)
  have hAF := frA hD0 hE.2.1
  generalize hAe : va_A [(a0, .inr (13, [.ref a4, .ref a1, .ref a5, .int 0, .ref a6, .int 0, .ref a7, .int 0, .ref a8])), (a1, .inr (10, [.ref a9, .ref a2, .ref a10, .ref a11, .ref a12, .int 0, .ref a9, .int 0])), (a2, .inr (2, [.ref a3, .ref a13])), (a3, .inl (cy 2, 65, .inl (fun _ => 0)))] s.heap.size = A at hD hAF ⊢
  have hA : ∀ q : Nat, s.heap.size ≤ q → A q := fun q h => by rw [← hAe]; exact Or.inr h
  have hS : va_S A s.heap s.heap [] := va_S.rf
  have hl := lv_entry ([.ref a0, .int k0, .int k1, .int 1]) (n := 5) (Nat.le_of_ble_eq_true rfl)
  rw [lg_entry_eq]
  generalize (lg_sl ([.ref a0, .int k0, .int k1, .int 1]) ++ List.replicate (5 - (lg_sl ([.ref a0, .int k0, .int k1, .int 1])).length) Slot.unset).toArray = ls at hl ⊢
  have hl : lv_has ls 5 [(0, .ref a0), (1, .int k0), (2, .int k1), (3, .int 1)] := hl
  have hP : va_P D vwCl [(a0, .inr (13, [.ref a4, .ref a1, .ref a5, .int 0, .ref a6, .int 0, .ref a7, .int 0, .ref a8])), (a1, .inr (10, [.ref a9, .ref a2, .ref a10, .ref a11, .ref a12, .int 0, .ref a9, .int 0])), (a2, .inr (2, [.ref a3, .ref a13])), (a3, .inl (cy 2, 65, .inl (fun _ => 0)))] s.heap := hP
  have z1 : (1 : Int32).toInt = 1 := by decide +kernel
  have z4 : (4 : Int32).toInt = 4 := by decide +kernel
  have z5 : (5 : Int32).toInt = 5 := by decide +kernel
  have z8 : (8 : Int32).toInt = 8 := by decide +kernel
  have z13 : (13 : Int32).toInt = 13 := by decide +kernel
  refine lv_iload_n hx hb dX11_converter_0 rfl (lv_at hl 1 rfl) ?_
  refine lv_iconst (v := 1) hx hb dX11_converter_1 (by decide +kernel) ?_
  refine lv_icmp_lt (tgt := 10) hx hb dX11_converter_2 (by decide) (fun c1 => ?_) (fun c1 => ?_)
  · have c1 := z_lt c1
    refine lv_iload_n hx hb dX11_converter_10 rfl (lv_at hl 1 rfl) ?_
    refine lv_bipush (v := 8) hx hb dX11_converter_11 (by decide +kernel) ?_
    refine lv_icmp_lt (tgt := 26) hx hb dX11_converter_13 (by decide) (fun c2 => ?_) (fun c2 => ?_)
    · have c2 := z_lt c2
      refine lv_iconst (v := 0) hx hb dX11_converter_26 (by decide +kernel) ?_
      refine lv_istore (lv' := [(4, .int 0), (0, .ref a0), (1, .int k0), (2, .int k1), (3, .int 1)]) hx hb dX11_converter_27 hl (by decide) rfl (fun ls hl => ?_)
      refine lv_iload hx hb dX11_converter_29 (lv_at hl 0 rfl) ?_
      refine lv_if_eq (tgt := 49) hx hb dX11_converter_31 (by decide) (fun _ => ?_) (fun c3 => absurd (by decide +kernel) c3)
      exact g_iae hx hb hfl hts hE hAF hown (List.mem_of_getElem? (i := 1) rfl) (List.mem_of_getElem? (i := 2) rfl) (is := 165) (text := "no converter goes from and to such types") (by decide +kernel) (fun _ h => (List.mem_append_right _ h)) hS (by rw [hml]; exact hl.1) dX11_converter_49 dX11_converter_52 dX11_converter_53 dX11_converter_55 dX11_converter_58 hout (by decide) (by decide) (Nat.le_of_ble_eq_true rfl) (Nat.le_of_ble_eq_true rfl) hlocks (fun t h1 h2 h3 => ⟨(), trivial, ⟨rfl, by omega⟩, Nat.le_trans hS.1 h2, fun q h4 h5 => (h3 q (Nat.lt_of_lt_of_le h4 hS.1)).trans (hS.2.1 q h4 h5)⟩) hS.2.2 (Nat.le_of_ble_eq_true rfl) (Nat.le_of_ble_eq_true rfl)
    · have c2 := z_nlt c2
      exfalso
      omega
  · have c1 := z_nlt c1
    refine lv_iload_n hx hb dX11_converter_5 rfl (lv_at hl 1 rfl) ?_
    refine lv_iconst (v := 5) hx hb dX11_converter_6 (by decide +kernel) ?_
    refine lv_icmp_le (tgt := 22) hx hb dX11_converter_7 (by decide) (fun c4 => ?_) (fun c4 => ?_)
    · have c4 := z_le c4
      refine lv_iconst (v := 1) hx hb dX11_converter_22 (by decide +kernel) ?_
      refine lv_goto (tgt := 27) hx hb dX11_converter_23 (by decide) ?_
      refine lv_istore (lv' := [(4, .int 1), (0, .ref a0), (1, .int k0), (2, .int k1), (3, .int 1)]) hx hb dX11_converter_27 hl (by decide) rfl (fun ls hl => ?_)
      refine lv_iload hx hb dX11_converter_29 (lv_at hl 0 rfl) ?_
      refine lv_if_eq (tgt := 49) hx hb dX11_converter_31 (by decide) (fun c5 => absurd c5 (by decide +kernel)) (fun _ => ?_)
      refine lv_iload_n hx hb dX11_converter_34 rfl (lv_at hl 3 rfl) ?_
      refine lv_iconst (v := 1) hx hb dX11_converter_35 (by decide +kernel) ?_
      refine lv_icmp_lt (tgt := 49) hx hb dX11_converter_36 (by decide) (fun c6 => ?_) (fun c6 => ?_)
      · have c6 := z_lt c6
        exact g_iae hx hb hfl hts hE hAF hown (List.mem_of_getElem? (i := 1) rfl) (List.mem_of_getElem? (i := 2) rfl) (is := 165) (text := "no converter goes from and to such types") (by decide +kernel) (fun _ h => (List.mem_append_right _ h)) hS (by rw [hml]; exact hl.1) dX11_converter_49 dX11_converter_52 dX11_converter_53 dX11_converter_55 dX11_converter_58 hout (by decide) (by decide) (Nat.le_of_ble_eq_true rfl) (Nat.le_of_ble_eq_true rfl) hlocks (fun t h1 h2 h3 => ⟨(), trivial, ⟨rfl, by omega⟩, Nat.le_trans hS.1 h2, fun q h4 h5 => (h3 q (Nat.lt_of_lt_of_le h4 hS.1)).trans (hS.2.1 q h4 h5)⟩) hS.2.2 (Nat.le_of_ble_eq_true rfl) (Nat.le_of_ble_eq_true rfl)
      · have c6 := z_nlt c6
        refine lv_iload_n hx hb dX11_converter_39 rfl (lv_at hl 3 rfl) ?_
        refine lv_iconst (v := 4) hx hb dX11_converter_40 (by decide +kernel) ?_
        refine lv_icmp_gt (tgt := 49) hx hb dX11_converter_41 (by decide) (fun c7 => ?_) (fun c7 => ?_)
        · have c7 := z_lt c7
          exact g_iae hx hb hfl hts hE hAF hown (List.mem_of_getElem? (i := 1) rfl) (List.mem_of_getElem? (i := 2) rfl) (is := 165) (text := "no converter goes from and to such types") (by decide +kernel) (fun _ h => (List.mem_append_right _ h)) hS (by rw [hml]; exact hl.1) dX11_converter_49 dX11_converter_52 dX11_converter_53 dX11_converter_55 dX11_converter_58 hout (by decide) (by decide) (Nat.le_of_ble_eq_true rfl) (Nat.le_of_ble_eq_true rfl) hlocks (fun t h1 h2 h3 => ⟨(), trivial, ⟨rfl, by omega⟩, Nat.le_trans hS.1 h2, fun q h4 h5 => (h3 q (Nat.lt_of_lt_of_le h4 hS.1)).trans (hS.2.1 q h4 h5)⟩) hS.2.2 (Nat.le_of_ble_eq_true rfl) (Nat.le_of_ble_eq_true rfl)
        · have c7 := z_nlt c7
          refine lv_iload_n hx hb dX11_converter_44 rfl (lv_at hl 2 rfl) ?_
          refine lv_iload_n hx hb dX11_converter_45 rfl (lv_at hl 3 rfl) ?_
          refine lv_icmp_ne (tgt := 59) hx hb dX11_converter_46 (by decide) (fun c8 => ?_) (fun c8 => ?_)
          · have c8 := z_ne c8
            refine lv_aload_n hx hb dX11_converter_59 rfl (lv_at hl 1 rfl) ?_
            refine va_get (D := D) (ci := 13) (v := .ref a1) (C := RX11) (T := TX11) (N := 9) hx hb hts (fun _ h => (List.mem_append_left _ (List.mem_append_left _ (List.mem_append_left _ (List.mem_append_right _ h))))) hown hK hP 0 rfl rfl 1 (by decide) (hts (.fieldLink RX11 19 "PhraseDesk" "runner" "LPhraseDesk$Runner;") (List.mem_of_getElem? (i := 3) rfl)) (fun _ h9 => h9) rfl dX11_converter_60 ?_
            refine va_get (D := D) (ci := 10) (v := .ref a2) (C := RX8) (T := TX8) (N := 8) hx hb hts (fun _ h => (List.mem_append_left _ (List.mem_append_left _ (List.mem_append_right _ h)))) hown hK hP 1 rfl rfl 1 (by decide) (hts (.fieldLink RX11 167 "PhraseDesk$Runner" "converters" "LPhraseDesk$Converters;") (List.mem_of_getElem? (i := 4) rfl)) (fun _ h9 => h9) rfl dX11_converter_63 ?_
            refine lv_iload_n hx hb dX11_converter_66 rfl (lv_at hl 2 rfl) ?_
            refine lv_iload_n hx hb dX11_converter_67 rfl (lv_at hl 3 rfl) ?_
            refine lv_iload_n hx hb dX11_converter_68 rfl (lv_at hl 4 rfl) ?_
            have hPc := hP.sub (ws' := [(a2, .inr (2, [.ref a3, .ref a13])), (a3, .inl (cy 2, 65, .inl (fun _ => 0)))]) [2, 3] rfl
            have hDc := hD.sub (ws' := [(a2, .inr (2, [.ref a3, .ref a13])), (a3, .inl (cy 2, 65, .inl (fun _ => 0)))]) [2, 3] (by decide) rfl
            have hFc := va_free (wc := [(a2, .inr (2, [.ref a3, .ref a13])), (a3, .inl (cy 2, 65, .inl (fun _ => 0)))]) hD hS hA [2, 3] rfl
            refine va_calli (va_runV (As := [.int k0, .int k1, .int 1]) (rest := []) ⟨hx, hb, hml, hown, hts⟩ (C_X0_change_3 l D cy sz0 sa a2 a3 a13 s.heap.size k0 k1) (cwV 3 hts (goodIn_app (goodIn_r _ [5, 6, 7, 8] rfl (by decide +kernel)) (goodIn_app (goodIn_r wq_X0_change_30 [9, 10, 11, 12, 8, 13, 14] rfl (by decide +kernel)) (goodIn_sub (fun _ h => (List.mem_append_left _ (List.mem_append_right _ h))) (by decide +kernel)))) rfl rfl rfl (by decide +kernel) ⟨Nat.le_of_ble_eq_true rfl, Nat.le_of_ble_eq_true rfl⟩) ⟨PcW.blind, va_recv hK hPc (ci := 2) (q0 := 0) rfl rfl, PcW.mk hE hS hAF hPc hDc⟩ rfl rfl hl.1 rfl (lv_room (Nat.le_of_ble_eq_true rfl)) dX11_converter_69 ⟨Nat.le_of_ble_eq_true rfl, Nat.le_of_ble_eq_true rfl⟩) hS (fun q _ h => hFc q h) hFc (fun r_9 u t H1 locs ht hvm hw hB hz1 hk1 hS => ?_)
            obtain ⟨hP, hD⟩ := va_join (wr := [(a0, .inr (13, [.ref a4, .ref a1, .ref a5, .int 0, .ref a6, .int 0, .ref a7, .int 0, .ref a8])), (a1, .inr (10, [.ref a9, .ref a2, .ref a10, .ref a11, .ref a12, .int 0, .ref a9, .int 0]))]) (w1 := []) hP hD [2, 3] [0, 1] rfl rfl (by decide) (by decide) hk1 hFc nilP nilD
            clear hPc hDc hFc hk1 hz1
            generalize H1 = H at hP hS ⊢
            have hP : va_P D vwCl [(a0, .inr (13, [.ref a4, .ref a1, .ref a5, .int 0, .ref a6, .int 0, .ref a7, .int 0, .ref a8])), (a1, .inr (10, [.ref a9, .ref a2, .ref a10, .ref a11, .ref a12, .int 0, .ref a9, .int 0]))] H := hP
            have hD : va_D A [(a0, .inr (13, [.ref a4, .ref a1, .ref a5, .int 0, .ref a6, .int 0, .ref a7, .int 0, .ref a8])), (a1, .inr (10, [.ref a9, .ref a2, .ref a10, .ref a11, .ref a12, .int 0, .ref a9, .int 0]))] := hD
            refine W.widen (k := 0) (n := 0) (Nat.le_of_ble_eq_true rfl) (Nat.le_of_ble_eq_true rfl) ?_
            have hr := hw
            obtain rfl : r_9 = 0 := hr
            refine vx_ret ?_
            refine W.widen (k := 1) (n := 6) (Nat.le_of_ble_eq_true rfl) (Nat.le_of_ble_eq_true rfl) ?_
            exact W.zret (v := 0) (ty := .boolean) hx hb hr rfl (fun t ht hW => ⟨⟨0, (), rfl, ⟨rfl, by omega⟩, trivial⟩, hS.F ht⟩) hS.2.2 dX11_converter_72
          · have c8 := z_eq c8
            exact g_iae hx hb hfl hts hE hAF hown (List.mem_of_getElem? (i := 1) rfl) (List.mem_of_getElem? (i := 2) rfl) (is := 165) (text := "no converter goes from and to such types") (by decide +kernel) (fun _ h => (List.mem_append_right _ h)) hS (by rw [hml]; exact hl.1) dX11_converter_49 dX11_converter_52 dX11_converter_53 dX11_converter_55 dX11_converter_58 hout (by decide) (by decide) (Nat.le_of_ble_eq_true rfl) (Nat.le_of_ble_eq_true rfl) hlocks (fun t h1 h2 h3 => ⟨(), trivial, ⟨rfl, by omega⟩, Nat.le_trans hS.1 h2, fun q h4 h5 => (h3 q (Nat.lt_of_lt_of_le h4 hS.1)).trans (hS.2.1 q h4 h5)⟩) hS.2.2 (Nat.le_of_ble_eq_true rfl) (Nat.le_of_ble_eq_true rfl)
    · have c4 := z_nle c4
      refine lv_iload_n hx hb dX11_converter_10 rfl (lv_at hl 1 rfl) ?_
      refine lv_bipush (v := 8) hx hb dX11_converter_11 (by decide +kernel) ?_
      refine lv_icmp_lt (tgt := 26) hx hb dX11_converter_13 (by decide) (fun c10 => ?_) (fun c10 => ?_)
      · have c10 := z_lt c10
        refine lv_iconst (v := 0) hx hb dX11_converter_26 (by decide +kernel) ?_
        refine lv_istore (lv' := [(4, .int 0), (0, .ref a0), (1, .int k0), (2, .int k1), (3, .int 1)]) hx hb dX11_converter_27 hl (by decide) rfl (fun ls hl => ?_)
        refine lv_iload hx hb dX11_converter_29 (lv_at hl 0 rfl) ?_
        refine lv_if_eq (tgt := 49) hx hb dX11_converter_31 (by decide) (fun _ => ?_) (fun c11 => absurd (by decide +kernel) c11)
        exact g_iae hx hb hfl hts hE hAF hown (List.mem_of_getElem? (i := 1) rfl) (List.mem_of_getElem? (i := 2) rfl) (is := 165) (text := "no converter goes from and to such types") (by decide +kernel) (fun _ h => (List.mem_append_right _ h)) hS (by rw [hml]; exact hl.1) dX11_converter_49 dX11_converter_52 dX11_converter_53 dX11_converter_55 dX11_converter_58 hout (by decide) (by decide) (Nat.le_of_ble_eq_true rfl) (Nat.le_of_ble_eq_true rfl) hlocks (fun t h1 h2 h3 => ⟨(), trivial, ⟨rfl, by omega⟩, Nat.le_trans hS.1 h2, fun q h4 h5 => (h3 q (Nat.lt_of_lt_of_le h4 hS.1)).trans (hS.2.1 q h4 h5)⟩) hS.2.2 (Nat.le_of_ble_eq_true rfl) (Nat.le_of_ble_eq_true rfl)
      · have c10 := z_nlt c10
        refine lv_iload_n hx hb dX11_converter_16 rfl (lv_at hl 1 rfl) ?_
        refine lv_bipush (v := 13) hx hb dX11_converter_17 (by decide +kernel) ?_
        refine lv_icmp_ge (tgt := 26) hx hb dX11_converter_19 (by decide) (fun c12 => ?_) (fun c12 => ?_)
        · have c12 := z_le c12
          refine lv_iconst (v := 0) hx hb dX11_converter_26 (by decide +kernel) ?_
          refine lv_istore (lv' := [(4, .int 0), (0, .ref a0), (1, .int k0), (2, .int k1), (3, .int 1)]) hx hb dX11_converter_27 hl (by decide) rfl (fun ls hl => ?_)
          refine lv_iload hx hb dX11_converter_29 (lv_at hl 0 rfl) ?_
          refine lv_if_eq (tgt := 49) hx hb dX11_converter_31 (by decide) (fun _ => ?_) (fun c13 => absurd (by decide +kernel) c13)
          exact g_iae hx hb hfl hts hE hAF hown (List.mem_of_getElem? (i := 1) rfl) (List.mem_of_getElem? (i := 2) rfl) (is := 165) (text := "no converter goes from and to such types") (by decide +kernel) (fun _ h => (List.mem_append_right _ h)) hS (by rw [hml]; exact hl.1) dX11_converter_49 dX11_converter_52 dX11_converter_53 dX11_converter_55 dX11_converter_58 hout (by decide) (by decide) (Nat.le_of_ble_eq_true rfl) (Nat.le_of_ble_eq_true rfl) hlocks (fun t h1 h2 h3 => ⟨(), trivial, ⟨rfl, by omega⟩, Nat.le_trans hS.1 h2, fun q h4 h5 => (h3 q (Nat.lt_of_lt_of_le h4 hS.1)).trans (hS.2.1 q h4 h5)⟩) hS.2.2 (Nat.le_of_ble_eq_true rfl) (Nat.le_of_ble_eq_true rfl)
        · have c12 := z_nle c12
          refine lv_iconst (v := 1) hx hb dX11_converter_22 (by decide +kernel) ?_
          refine lv_goto (tgt := 27) hx hb dX11_converter_23 (by decide) ?_
          refine lv_istore (lv' := [(4, .int 1), (0, .ref a0), (1, .int k0), (2, .int k1), (3, .int 1)]) hx hb dX11_converter_27 hl (by decide) rfl (fun ls hl => ?_)
          refine lv_iload hx hb dX11_converter_29 (lv_at hl 0 rfl) ?_
          refine lv_if_eq (tgt := 49) hx hb dX11_converter_31 (by decide) (fun c14 => absurd c14 (by decide +kernel)) (fun _ => ?_)
          refine lv_iload_n hx hb dX11_converter_34 rfl (lv_at hl 3 rfl) ?_
          refine lv_iconst (v := 1) hx hb dX11_converter_35 (by decide +kernel) ?_
          refine lv_icmp_lt (tgt := 49) hx hb dX11_converter_36 (by decide) (fun c15 => ?_) (fun c15 => ?_)
          · have c15 := z_lt c15
            exact g_iae hx hb hfl hts hE hAF hown (List.mem_of_getElem? (i := 1) rfl) (List.mem_of_getElem? (i := 2) rfl) (is := 165) (text := "no converter goes from and to such types") (by decide +kernel) (fun _ h => (List.mem_append_right _ h)) hS (by rw [hml]; exact hl.1) dX11_converter_49 dX11_converter_52 dX11_converter_53 dX11_converter_55 dX11_converter_58 hout (by decide) (by decide) (Nat.le_of_ble_eq_true rfl) (Nat.le_of_ble_eq_true rfl) hlocks (fun t h1 h2 h3 => ⟨(), trivial, ⟨rfl, by omega⟩, Nat.le_trans hS.1 h2, fun q h4 h5 => (h3 q (Nat.lt_of_lt_of_le h4 hS.1)).trans (hS.2.1 q h4 h5)⟩) hS.2.2 (Nat.le_of_ble_eq_true rfl) (Nat.le_of_ble_eq_true rfl)
          · have c15 := z_nlt c15
            refine lv_iload_n hx hb dX11_converter_39 rfl (lv_at hl 3 rfl) ?_
            refine lv_iconst (v := 4) hx hb dX11_converter_40 (by decide +kernel) ?_
            refine lv_icmp_gt (tgt := 49) hx hb dX11_converter_41 (by decide) (fun c16 => ?_) (fun c16 => ?_)
            · have c16 := z_lt c16
              exact g_iae hx hb hfl hts hE hAF hown (List.mem_of_getElem? (i := 1) rfl) (List.mem_of_getElem? (i := 2) rfl) (is := 165) (text := "no converter goes from and to such types") (by decide +kernel) (fun _ h => (List.mem_append_right _ h)) hS (by rw [hml]; exact hl.1) dX11_converter_49 dX11_converter_52 dX11_converter_53 dX11_converter_55 dX11_converter_58 hout (by decide) (by decide) (Nat.le_of_ble_eq_true rfl) (Nat.le_of_ble_eq_true rfl) hlocks (fun t h1 h2 h3 => ⟨(), trivial, ⟨rfl, by omega⟩, Nat.le_trans hS.1 h2, fun q h4 h5 => (h3 q (Nat.lt_of_lt_of_le h4 hS.1)).trans (hS.2.1 q h4 h5)⟩) hS.2.2 (Nat.le_of_ble_eq_true rfl) (Nat.le_of_ble_eq_true rfl)
            · have c16 := z_nlt c16
              refine lv_iload_n hx hb dX11_converter_44 rfl (lv_at hl 2 rfl) ?_
              refine lv_iload_n hx hb dX11_converter_45 rfl (lv_at hl 3 rfl) ?_
              refine lv_icmp_ne (tgt := 59) hx hb dX11_converter_46 (by decide) (fun c17 => ?_) (fun c17 => ?_)
              · have c17 := z_ne c17
                refine lv_aload_n hx hb dX11_converter_59 rfl (lv_at hl 1 rfl) ?_
                refine va_get (D := D) (ci := 13) (v := .ref a1) (C := RX11) (T := TX11) (N := 9) hx hb hts (fun _ h => (List.mem_append_left _ (List.mem_append_left _ (List.mem_append_left _ (List.mem_append_right _ h))))) hown hK hP 0 rfl rfl 1 (by decide) (hts (.fieldLink RX11 19 "PhraseDesk" "runner" "LPhraseDesk$Runner;") (List.mem_of_getElem? (i := 3) rfl)) (fun _ h9 => h9) rfl dX11_converter_60 ?_
                refine va_get (D := D) (ci := 10) (v := .ref a2) (C := RX8) (T := TX8) (N := 8) hx hb hts (fun _ h => (List.mem_append_left _ (List.mem_append_left _ (List.mem_append_right _ h)))) hown hK hP 1 rfl rfl 1 (by decide) (hts (.fieldLink RX11 167 "PhraseDesk$Runner" "converters" "LPhraseDesk$Converters;") (List.mem_of_getElem? (i := 4) rfl)) (fun _ h9 => h9) rfl dX11_converter_63 ?_
                refine lv_iload_n hx hb dX11_converter_66 rfl (lv_at hl 2 rfl) ?_
                refine lv_iload_n hx hb dX11_converter_67 rfl (lv_at hl 3 rfl) ?_
                refine lv_iload_n hx hb dX11_converter_68 rfl (lv_at hl 4 rfl) ?_
                have hPc := hP.sub (ws' := [(a2, .inr (2, [.ref a3, .ref a13])), (a3, .inl (cy 2, 65, .inl (fun _ => 0)))]) [2, 3] rfl
                have hDc := hD.sub (ws' := [(a2, .inr (2, [.ref a3, .ref a13])), (a3, .inl (cy 2, 65, .inl (fun _ => 0)))]) [2, 3] (by decide) rfl
                have hFc := va_free (wc := [(a2, .inr (2, [.ref a3, .ref a13])), (a3, .inl (cy 2, 65, .inl (fun _ => 0)))]) hD hS hA [2, 3] rfl
                refine va_calli (va_runV (As := [.int k0, .int k1, .int 1]) (rest := []) ⟨hx, hb, hml, hown, hts⟩ (C_X0_change_3 l D cy sz0 sa a2 a3 a13 s.heap.size k0 k1) (cwV 3 hts (goodIn_app (goodIn_r _ [5, 6, 7, 8] rfl (by decide +kernel)) (goodIn_app (goodIn_r wq_X0_change_30 [9, 10, 11, 12, 8, 13, 14] rfl (by decide +kernel)) (goodIn_sub (fun _ h => (List.mem_append_left _ (List.mem_append_right _ h))) (by decide +kernel)))) rfl rfl rfl (by decide +kernel) ⟨Nat.le_of_ble_eq_true rfl, Nat.le_of_ble_eq_true rfl⟩) ⟨PcW.blind, va_recv hK hPc (ci := 2) (q0 := 0) rfl rfl, PcW.mk hE hS hAF hPc hDc⟩ rfl rfl hl.1 rfl (lv_room (Nat.le_of_ble_eq_true rfl)) dX11_converter_69 ⟨Nat.le_of_ble_eq_true rfl, Nat.le_of_ble_eq_true rfl⟩) hS (fun q _ h => hFc q h) hFc (fun r_18 u t H1 locs ht hvm hw hB hz1 hk1 hS => ?_)
                obtain ⟨hP, hD⟩ := va_join (wr := [(a0, .inr (13, [.ref a4, .ref a1, .ref a5, .int 0, .ref a6, .int 0, .ref a7, .int 0, .ref a8])), (a1, .inr (10, [.ref a9, .ref a2, .ref a10, .ref a11, .ref a12, .int 0, .ref a9, .int 0]))]) (w1 := []) hP hD [2, 3] [0, 1] rfl rfl (by decide) (by decide) hk1 hFc nilP nilD
                clear hPc hDc hFc hk1 hz1
                generalize H1 = H at hP hS ⊢
                have hP : va_P D vwCl [(a0, .inr (13, [.ref a4, .ref a1, .ref a5, .int 0, .ref a6, .int 0, .ref a7, .int 0, .ref a8])), (a1, .inr (10, [.ref a9, .ref a2, .ref a10, .ref a11, .ref a12, .int 0, .ref a9, .int 0]))] H := hP
                have hD : va_D A [(a0, .inr (13, [.ref a4, .ref a1, .ref a5, .int 0, .ref a6, .int 0, .ref a7, .int 0, .ref a8])), (a1, .inr (10, [.ref a9, .ref a2, .ref a10, .ref a11, .ref a12, .int 0, .ref a9, .int 0]))] := hD
                refine W.widen (k := 0) (n := 0) (Nat.le_of_ble_eq_true rfl) (Nat.le_of_ble_eq_true rfl) ?_
                have hr := hw
                obtain rfl : r_18 = 0 := hr
                refine vx_ret ?_
                refine W.widen (k := 1) (n := 6) (Nat.le_of_ble_eq_true rfl) (Nat.le_of_ble_eq_true rfl) ?_
                exact W.zret (v := 0) (ty := .boolean) hx hb hr rfl (fun t ht hW => ⟨⟨0, (), rfl, ⟨rfl, by omega⟩, trivial⟩, hS.F ht⟩) hS.2.2 dX11_converter_72
              · have c17 := z_eq c17
                exfalso
                omega

def wq_L_converter_30 : List Cond := [.codeWith yL_converter cL_converter 6 (some .int) [(0, 19, 22, 13)], .methodLink RL 35 yX11_converter, .instanceMethod yX11_converter, .selects RX11 yX11_converter yX11_converter, .initialized RX11, .code yX11_converter cX11_converter 5 (some .boolean), .classLink RX11 49 "java/lang/IllegalArgumentException", .initialized "java/lang/IllegalArgumentException", .fieldLink RX11 19 "PhraseDesk" "runner" "LPhraseDesk$Runner;", .fieldLink RX11 167 "PhraseDesk$Runner" "converters" "LPhraseDesk$Converters;", .methodLink RX11 171 yX0_change, .instanceMethod yX0_change, .selects RX0 yX0_change yX0_change, .initialized RX0, .code yX0_change cX0_change 6 (some .boolean), .methodLink RX0 22 yX0_isThere, .instanceMethod yX0_isThere, .selects RX0 yX0_isThere yX0_isThere, .code yX0_isThere cX0_isThere 4 (some .boolean), .fieldLink RX0 11 "PhraseDesk$Converters" "there" "[Z", .classLink RL 13 "java/lang/IllegalArgumentException"]
def wq_L_converter_3 : List Cond := wq_L_converter_30 ++ wsX110 ++ wsX80 ++ wsX00 ++ (vx_atS RX11 53 tIAE tSup).filter goodWord
set_option maxHeartbeats 4000000 in
set_option maxRecDepth 100000 in
theorem C_L_converter_3 (l : Launch) (hfl : l.stackTraces = false) (D : va_G) (cy : Nat → ClassId) (sz0 : Nat) (sa : Nat → Nat) (a0 a1 a2 a3 a4 a5 a6 a7 a8 a9 a10 a11 a12 a13 a14 : Nat) (sz : Nat) (k0 : Int32) (k1 : Int32) : Met l yL_converter wq_L_converter_3 ({ frames := 7, cells := 1, slots := 6, locals := 106 }) (PcW D cy sz0 sa [.ref a0, .int k0, .int k1, .int 1, .ref a1] [(a0, .inr (13, [.ref a5, .ref a2, .ref a6, .int 0, .ref a7, .int 0, .ref a8, .int 0, .ref a9])), (a2, .inr (10, [.ref a10, .ref a3, .ref a11, .ref a12, .ref a13, .int 0, .ref a10, .int 0])), (a3, .inr (2, [.ref a4, .ref a14])), (a4, .inl (cy 2, 65, .inl (fun _ => 0))), (a1, .inl (cy 1, 1, .inr (.inl (fun _ => 0))))] sz) (va_Qi (fun (r : Int32) (u : Int64) => (r = 1 ∧ u = 0 ∧ (((k0.toInt < 1 ∧ k0.toInt < 8) ∨ (1 ≤ k0.toInt ∧ k0.toInt ≤ 5 ∧ k1.toInt < 1) ∨ (1 ≤ k0.toInt ∧ k0.toInt ≤ 5 ∧ 1 ≤ k1.toInt ∧ 4 < k1.toInt) ∨ (1 ≤ k0.toInt ∧ k0.toInt ≤ 5 ∧ 1 ≤ k1.toInt ∧ k1.toInt ≤ 4 ∧ k0.toInt = k1.toInt) ∨ (1 ≤ k0.toInt ∧ 5 < k0.toInt ∧ k0.toInt < 8) ∨ (1 ≤ k0.toInt ∧ 5 < k0.toInt ∧ 8 ≤ k0.toInt ∧ 13 ≤ k0.toInt) ∨ (1 ≤ k0.toInt ∧ 5 < k0.toInt ∧ 8 ≤ k0.toInt ∧ k0.toInt < 13 ∧ k1.toInt < 1) ∨ (1 ≤ k0.toInt ∧ 5 < k0.toInt ∧ 8 ≤ k0.toInt ∧ k0.toInt < 13 ∧ 1 ≤ k1.toInt ∧ 4 < k1.toInt)))) ∨ (r = 0 ∧ u = 0 ∧ (((1 ≤ k0.toInt ∧ k0.toInt ≤ 5 ∧ 1 ≤ k1.toInt ∧ k1.toInt ≤ 4 ∧ ¬ k0.toInt = k1.toInt) ∨ (1 ≤ k0.toInt ∧ 5 < k0.toInt ∧ 8 ≤ k0.toInt ∧ k0.toInt < 13 ∧ 1 ≤ k1.toInt ∧ k1.toInt ≤ 4 ∧ ¬ k0.toInt = k1.toInt))))) (fun (u : Int64) (t : State) => ∃ f : Nat → Int64, BW D [(a1, .inl (cy 1, 1, .inr (.inl f)))] (va_A [(a0, .inr (13, [.ref a5, .ref a2, .ref a6, .int 0, .ref a7, .int 0, .ref a8, .int 0, .ref a9])), (a2, .inr (10, [.ref a10, .ref a3, .ref a11, .ref a12, .ref a13, .int 0, .ref a10, .int 0])), (a3, .inr (2, [.ref a4, .ref a14])), (a4, .inl (cy 2, 65, .inl (fun _ => 0))), (a1, .inl (cy 1, 1, .inr (.inl (fun _ => 0))))] sz) t ∧ f 0 = u) (va_A [(a0, .inr (13, [.ref a5, .ref a2, .ref a6, .int 0, .ref a7, .int 0, .ref a8, .int 0, .ref a9])), (a2, .inr (10, [.ref a10, .ref a3, .ref a11, .ref a12, .ref a13, .int 0, .ref a10, .int 0])), (a3, .inr (2, [.ref a4, .ref a14])), (a4, .inl (cy 2, 65, .inl (fun _ => 0))), (a1, .inl (cy 1, 1, .inr (.inl (fun _ => 0))))] sz)) 1 6 (va_A [(a0, .inr (13, [.ref a5, .ref a2, .ref a6, .int 0, .ref a7, .int 0, .ref a8, .int 0, .ref a9])), (a2, .inr (10, [.ref a10, .ref a3, .ref a11, .ref a12, .ref a13, .int 0, .ref a10, .int 0])), (a3, .inr (2, [.ref a4, .ref a14])), (a4, .inl (cy 2, 65, .inl (fun _ => 0))), (a1, .inl (cy 1, 1, .inr (.inl (fun _ => 0))))] sz) := by
  refine va_MetW (cc := cL_converter) (maxL := 6) (ret := (some .int)) (hh := [(0, 19, 22, 13)]) (by decide) rfl ?_
  intro p e s m args below meth c s₁ B hml hv
  obtain ⟨rfl, hsz, hP, hD0, hE⟩ := hv
  have hx := B.exec
  have hb := B.bytes
  have hr := B.returns
  have hts := atoms_spec (ws := wq_L_converter_3) B.pre
  have hown : s.vm.findClass RL = some m.cls := findClass_of_methodNamed B.named
  have hlocks := B.notSynchronized
  subst hsz
  have hK := hE.1
  have hAm := hE.2.2.1
  have hWm := hE.2.2.2
  have hAO := hWm.2.2.2.1
  have hD := hD0.self (sz := s.heap.size)
  have hAF := frA hD0 hE.2.1
  generalize hAe : va_A [(a0, .inr (13, [.ref a5, .ref a2, .ref a6, .int 0, .ref a7, .int 0, .ref a8, .int 0, .ref a9])), (a2, .inr (10, [.ref a10, .ref a3, .ref a11, .ref a12, .ref a13, .int 0, .ref a10, .int 0])), (a3, .inr (2, [.ref a4, .ref a14])), (a4, .inl (cy 2, 65, .inl (fun _ => 0))), (a1, .inl (cy 1, 1, .inr (.inl (fun _ => 0))))] s.heap.size = A at hD hAF ⊢
  have hA : ∀ q : Nat, s.heap.size ≤ q → A q := fun q h => by rw [← hAe]; exact Or.inr h
  have hS : va_S A s.heap s.heap [] := va_S.rf
  have hl := lv_entry ([.ref a0, .int k0, .int k1, .int 1, .ref a1]) (n := 6) (Nat.le_of_ble_eq_true rfl)
  rw [lg_entry_eq]
  generalize (lg_sl ([.ref a0, .int k0, .int k1, .int 1, .ref a1]) ++ List.replicate (6 - (lg_sl ([.ref a0, .int k0, .int k1, .int 1, .ref a1])).length) Slot.unset).toArray = ls at hl ⊢
  have hl : lv_has ls 6 [(0, .ref a0), (1, .int k0), (2, .int k1), (3, .int 1), (4, .ref a1)] := hl
  have hP : va_P D vwCl [(a0, .inr (13, [.ref a5, .ref a2, .ref a6, .int 0, .ref a7, .int 0, .ref a8, .int 0, .ref a9])), (a2, .inr (10, [.ref a10, .ref a3, .ref a11, .ref a12, .ref a13, .int 0, .ref a10, .int 0])), (a3, .inr (2, [.ref a4, .ref a14])), (a4, .inl (cy 2, 65, .inl (fun _ => 0))), (a1, .inl (cy 1, 1, .inr (.inl (fun _ => 0))))] s.heap := hP
  have z1 : (1 : Int32).toInt = 1 := by decide +kernel
  have z4 : (4 : Int32).toInt = 4 := by decide +kernel
  have z5 : (5 : Int32).toInt = 5 := by decide +kernel
  have z8 : (8 : Int32).toInt = 8 := by decide +kernel
  have z13 : (13 : Int32).toInt = 13 := by decide +kernel
  refine lv_aload hx hb dL_converter_0 (lv_at hl 4 rfl) ?_
  refine lv_iconst (v := 0) hx hb dL_converter_2 (by decide +kernel) ?_
  refine lv_aload_n hx hb dL_converter_3 rfl (lv_at hl 0 rfl) ?_
  refine lv_iload_n hx hb dL_converter_4 rfl (lv_at hl 1 rfl) ?_
  refine lv_iload_n hx hb dL_converter_5 rfl (lv_at hl 2 rfl) ?_
  refine lv_iload_n hx hb dL_converter_6 rfl (lv_at hl 3 rfl) ?_
  have hPc := hP.sub (ws' := [(a0, .inr (13, [.ref a5, .ref a2, .ref a6, .int 0, .ref a7, .int 0, .ref a8, .int 0, .ref a9])), (a2, .inr (10, [.ref a10, .ref a3, .ref a11, .ref a12, .ref a13, .int 0, .ref a10, .int 0])), (a3, .inr (2, [.ref a4, .ref a14])), (a4, .inl (cy 2, 65, .inl (fun _ => 0)))]) [0, 1, 2, 3] rfl
  have hDc := hD.sub (ws' := [(a0, .inr (13, [.ref a5, .ref a2, .ref a6, .int 0, .ref a7, .int 0, .ref a8, .int 0, .ref a9])), (a2, .inr (10, [.ref a10, .ref a3, .ref a11, .ref a12, .ref a13, .int 0, .ref a10, .int 0])), (a3, .inr (2, [.ref a4, .ref a14])), (a4, .inl (cy 2, 65, .inl (fun _ => 0)))]) [0, 1, 2, 3] (by decide) rfl
  have hFc := va_free (wc := [(a0, .inr (13, [.ref a5, .ref a2, .ref a6, .int 0, .ref a7, .int 0, .ref a8, .int 0, .ref a9])), (a2, .inr (10, [.ref a10, .ref a3, .ref a11, .ref a12, .ref a13, .int 0, .ref a10, .int 0])), (a3, .inr (2, [.ref a4, .ref a14])), (a4, .inl (cy 2, 65, .inl (fun _ => 0)))]) hD hS hA [0, 1, 2, 3] rfl
  refine vx_calli (vx_runV (As := [.int k0, .int k1, .int 1]) (rest := [.int 0, .ref a1]) ⟨hx, hb, hml, hown, hts⟩ (C_X11_converter_3 l hfl D cy sz0 sa a0 a2 a3 a4 a5 a6 a7 a8 a9 a10 a11 a12 a13 a14 s.heap.size k0 k1) (cwV 3 hts (goodIn_app (goodIn_r _ [1, 2, 3, 4] rfl (by decide +kernel)) (goodIn_app (goodIn_app (goodIn_app (goodIn_app (goodIn_r wq_X11_converter_30 [5, 6, 7, 8, 9, 10, 11, 12, 13, 14, 15, 16, 17, 18, 19] rfl (by decide +kernel)) (goodIn_sub (fun _ h => (List.mem_append_left _ (List.mem_append_left _ (List.mem_append_left _ (List.mem_append_right _ h))))) (by decide +kernel))) (goodIn_sub (fun _ h => (List.mem_append_left _ (List.mem_append_left _ (List.mem_append_right _ h)))) (by decide +kernel))) (goodIn_sub (fun _ h => (List.mem_append_left _ (List.mem_append_right _ h))) (by decide +kernel))) (goodIn_sub (fun _ h => (List.mem_append_right _ h)) (by decide +kernel)))) rfl rfl rfl (by decide +kernel) ⟨Nat.le_of_ble_eq_true rfl, Nat.le_of_ble_eq_true rfl⟩) ⟨PcW.blind, va_recv hK hPc (ci := 13) (q0 := 0) rfl rfl, PcW.mk hE hS hAF hPc hDc⟩ rfl rfl hl.1 rfl (lv_room (Nat.le_of_ble_eq_true rfl)) dL_converter_7 ⟨Nat.le_of_ble_eq_true rfl, Nat.le_of_ble_eq_true rfl⟩) hS (fun q _ h => hFc q h) hFc (fun q _ h => hFc q h) (fun E ce q9 u t H1 locs ht hvm hpx hbx hz1 hk1 hS hq9 hv9 hc9 => ?_) (fun r_1 u t H1 locs ht hvm hw hB hz1 hk1 hS => ?_)
  · obtain ⟨rfl, hxr_1⟩ := hbx
    obtain ⟨hP, hD⟩ := va_join (wr := [(a1, .inl (cy 1, 1, .inr (.inl (fun _ => 0))))]) (w1 := []) hP hD [0, 1, 2, 3] [4] rfl rfl (by decide) (by decide) hk1 hFc nilP nilD
    skip
    have hq8 := hq9
    clear hPc hDc hFc hk1 hz1
    skip
    have hP : va_P D vwCl [(a1, .inl (cy 1, 1, .inr (.inl (fun _ => 0))))] H1 := hP
    have hD : va_D A [(a1, .inl (cy 1, 1, .inr (.inl (fun _ => 0))))] := hD
    refine vx_widen (k := 1) (n := 6) (Nat.le_of_ble_eq_true rfl) (Nat.le_of_ble_eq_true rfl) ?_
    refine vx_catch hown [] _ _ ((vx_table (x := yL_converter) B (hts (.codeWith yL_converter cL_converter 6 (some .int) [(0, 19, 22, 13)]) (List.mem_of_getElem? (i := 0) rfl))).trans rfl) (fun z hz => absurd hz List.not_mem_nil) (by decide) (by decide) (hts (.classLink RL 13 "java/lang/IllegalArgumentException") (List.mem_of_getElem? (i := 20) rfl)) (va_Nw.use rfl hWm.2.2.1.2.2.2.1) hq9 hv9 hc9 ?_
    clear hq8 hq9 ht
    generalize H1 = H at hP hS ⊢
    refine lv_astore (lv' := [(5, .ref q9), (0, .ref a0), (1, .int k0), (2, .int k1), (3, .int 1), (4, .ref a1)]) hx hb dL_converter_22 hl (by decide) rfl (fun ls hl => ?_)
    refine lv_iconst (v := 1) hx hb dL_converter_24 (by decide +kernel) ?_
    refine W.widen (k := 1) (n := 6) (Nat.le_of_ble_eq_true rfl) (Nat.le_of_ble_eq_true rfl) ?_
    have hP9 := hP.sub (ws' := [(a1, .inl (cy 1, 1, .inr (.inl (fun _ => 0))))]) [0] rfl
    have hD9 := hD.sub (ws' := [(a1, .inl (cy 1, 1, .inr (.inl (fun _ => 0))))]) [0] (by decide) rfl
    exact W.iret (v := 1) hx hb hr (fun t ht hW => ⟨⟨1, 0, rfl, Or.inl ⟨rfl, rfl, by omega⟩, ⟨(fun _ => 0), ⟨by rw [ht]; exact hP9, hD9⟩, by decide +kernel⟩⟩, hS.F ht⟩) hS.2.2 dL_converter_25
  · obtain ⟨hP, hD⟩ := va_join (wr := [(a1, .inl (cy 1, 1, .inr (.inl (fun _ => 0))))]) (w1 := []) hP hD [0, 1, 2, 3] [4] rfl rfl (by decide) (by decide) hk1 hFc nilP nilD
    clear hPc hDc hFc hk1 hz1
    generalize H1 = H at hP hS ⊢
    have hP : va_P D vwCl [(a1, .inl (cy 1, 1, .inr (.inl (fun _ => 0))))] H := hP
    have hD : va_D A [(a1, .inl (cy 1, 1, .inr (.inl (fun _ => 0))))] := hD
    refine W.widen (k := 1) (n := 6) (Nat.le_of_ble_eq_true rfl) (Nat.le_of_ble_eq_true rfl) ?_
    obtain ⟨hr, hcr_1⟩ := hw
    obtain rfl : r_1 = 0 := hr
    refine lv_if_eq (tgt := 17) hx hb dL_converter_10 (by decide) (fun _ => ?_) (fun c2 => absurd (by decide +kernel) c2)
    refine lv_lconst (v := 0) hx hb dL_converter_17 rfl ?_
    refine va_last hx hb hK hP hD hS 0 1 rfl rfl (by unfold vp_in; decide +kernel) dL_converter_18 (fun H locs hP hD hS => ?_)
    have hP : va_P D vwCl [(a1, .inl (cy 1, 1, .inr (.inl (vp_updL (fun _ => 0) 0 0))))] H := hP
    have hD : va_D A [(a1, .inl (cy 1, 1, .inr (.inl (vp_updL (fun _ => 0) 0 0))))] := hD
    refine lv_goto (tgt := 26) hx hb dL_converter_19 (by decide) ?_
    refine lv_iconst (v := 0) hx hb dL_converter_26 (by decide +kernel) ?_
    refine W.widen (k := 1) (n := 6) (Nat.le_of_ble_eq_true rfl) (Nat.le_of_ble_eq_true rfl) ?_
    have hP9 := hP.sub (ws' := [(a1, .inl (cy 1, 1, .inr (.inl (vp_updL (fun _ => 0) 0 0))))]) [0] rfl
    have hD9 := hD.sub (ws' := [(a1, .inl (cy 1, 1, .inr (.inl (vp_updL (fun _ => 0) 0 0))))]) [0] (by decide) rfl
    exact W.iret (v := 0) hx hb hr (fun t ht hW => ⟨⟨0, 0, rfl, Or.inr (⟨rfl, rfl, by omega⟩), ⟨(vp_updL (fun _ => 0) 0 0), ⟨by rw [ht]; exact hP9, hD9⟩, by decide +kernel⟩⟩, hS.F ht⟩) hS.2.2 dL_converter_27

def wq_X12_converter_30 : List Cond := [.code yX12_converter cX12_converter 6 (some .boolean), .fieldLink RX12 127 "PhraseDeskModel" "threw" "I", .fieldLink RX12 102 "PhraseDeskModel" "converts" "[Z"]
def wq_X12_converter_3 : List Cond := wq_X12_converter_30 ++ wsX120
set_option maxHeartbeats 4000000 in
set_option maxRecDepth 100000 in
theorem C_X12_converter_3 (l : Launch) (D : va_G) (cy : Nat → ClassId) (sz0 : Nat) (sa : Nat → Nat) (a0 a1 a2 a3 a4 a5 a6 a7 a8 a9 a10 a11 a12 a13 a14 a15 a16 a17 a18 a19 a20 a21 a22 a23 a24 a25 a26 a27 a28 a29 a30 a31 a32 a33 a34 a35 a36 a37 a38 : Nat) (sz : Nat) (k0 : Int32) (k1 : Int32) : Met l yX12_converter wq_X12_converter_3 ({ frames := 0, cells := 0, slots := 0, locals := 0 }) (PcW D cy sz0 sa [.ref a0, .int k0, .int k1, .int 1] [(a0, .inr (14, [.int 0, .int 0, .ref a2, .int 0, .ref a3, .ref a4, .ref a5, .ref a6, .int 0, .int 0, .int 0, .ref a7, .ref a8, .ref a9, .int 0, .int 0, .int 0, .int 0, .int 0, .int 0, .ref a10, .ref a11, .ref a12, .ref a13, .ref a14, .ref a15, .ref a16, .ref a17, .ref a18, .int 0, .ref a19, .ref a20, .ref a21, .int 0, .int 0, .int 0, .ref a22, .ref a23, .ref a24, .ref a25, .ref a26, .ref a27, .ref a28, .ref a29, .ref a30, .ref a31, .ref a1, .int 0, .ref a32, .int 0, .ref a33, .ref a34, .ref a35, .ref a36, .ref a37, .int 0, .int 0, .int 0, .ref a38, .int 0])), (a1, .inl (cy 2, 65, .inl (fun _ => 0)))] sz) (va_Qi (fun (r : Int32) (u : Int32) => (r = 0 ∧ u = 1 ∧ ((k0.toInt < 1 ∧ k0.toInt < 8) ∨ (1 ≤ k0.toInt ∧ k0.toInt ≤ 5 ∧ k1.toInt < 1) ∨ (1 ≤ k0.toInt ∧ k0.toInt ≤ 5 ∧ 1 ≤ k1.toInt ∧ 4 < k1.toInt) ∨ (1 ≤ k0.toInt ∧ k0.toInt ≤ 5 ∧ 1 ≤ k1.toInt ∧ k1.toInt ≤ 4 ∧ k0.toInt = k1.toInt) ∨ (1 ≤ k0.toInt ∧ 5 < k0.toInt ∧ k0.toInt < 8) ∨ (1 ≤ k0.toInt ∧ 5 < k0.toInt ∧ 8 ≤ k0.toInt ∧ 12 < k0.toInt) ∨ (1 ≤ k0.toInt ∧ 5 < k0.toInt ∧ 8 ≤ k0.toInt ∧ k0.toInt ≤ 12 ∧ k1.toInt < 1) ∨ (1 ≤ k0.toInt ∧ 5 < k0.toInt ∧ 8 ≤ k0.toInt ∧ k0.toInt ≤ 12 ∧ 1 ≤ k1.toInt ∧ 4 < k1.toInt))) ∨ (r = 0 ∧ u = 0 ∧ ((1 ≤ k0.toInt ∧ k0.toInt ≤ 5 ∧ 1 ≤ k1.toInt ∧ k1.toInt ≤ 4 ∧ ¬ k0.toInt = k1.toInt) ∨ (1 ≤ k0.toInt ∧ 5 < k0.toInt ∧ 8 ≤ k0.toInt ∧ k0.toInt ≤ 12 ∧ 1 ≤ k1.toInt ∧ k1.toInt ≤ 4 ∧ ¬ k0.toInt = k1.toInt)))) (fun (u : Int32) (t : State) => ∃ fs : List Value, BW D [(a0, .inr (14, .int u :: fs))] (va_A [(a0, .inr (14, [.int 0, .int 0, .ref a2, .int 0, .ref a3, .ref a4, .ref a5, .ref a6, .int 0, .int 0, .int 0, .ref a7, .ref a8, .ref a9, .int 0, .int 0, .int 0, .int 0, .int 0, .int 0, .ref a10, .ref a11, .ref a12, .ref a13, .ref a14, .ref a15, .ref a16, .ref a17, .ref a18, .int 0, .ref a19, .ref a20, .ref a21, .int 0, .int 0, .int 0, .ref a22, .ref a23, .ref a24, .ref a25, .ref a26, .ref a27, .ref a28, .ref a29, .ref a30, .ref a31, .ref a1, .int 0, .ref a32, .int 0, .ref a33, .ref a34, .ref a35, .ref a36, .ref a37, .int 0, .int 0, .int 0, .ref a38, .int 0])), (a1, .inl (cy 2, 65, .inl (fun _ => 0)))] sz) t) (va_A [(a0, .inr (14, [.int 0, .int 0, .ref a2, .int 0, .ref a3, .ref a4, .ref a5, .ref a6, .int 0, .int 0, .int 0, .ref a7, .ref a8, .ref a9, .int 0, .int 0, .int 0, .int 0, .int 0, .int 0, .ref a10, .ref a11, .ref a12, .ref a13, .ref a14, .ref a15, .ref a16, .ref a17, .ref a18, .int 0, .ref a19, .ref a20, .ref a21, .int 0, .int 0, .int 0, .ref a22, .ref a23, .ref a24, .ref a25, .ref a26, .ref a27, .ref a28, .ref a29, .ref a30, .ref a31, .ref a1, .int 0, .ref a32, .int 0, .ref a33, .ref a34, .ref a35, .ref a36, .ref a37, .int 0, .int 0, .int 0, .ref a38, .int 0])), (a1, .inl (cy 2, 65, .inl (fun _ => 0)))] sz)) 0 0 (va_A [(a0, .inr (14, [.int 0, .int 0, .ref a2, .int 0, .ref a3, .ref a4, .ref a5, .ref a6, .int 0, .int 0, .int 0, .ref a7, .ref a8, .ref a9, .int 0, .int 0, .int 0, .int 0, .int 0, .int 0, .ref a10, .ref a11, .ref a12, .ref a13, .ref a14, .ref a15, .ref a16, .ref a17, .ref a18, .int 0, .ref a19, .ref a20, .ref a21, .int 0, .int 0, .int 0, .ref a22, .ref a23, .ref a24, .ref a25, .ref a26, .ref a27, .ref a28, .ref a29, .ref a30, .ref a31, .ref a1, .int 0, .ref a32, .int 0, .ref a33, .ref a34, .ref a35, .ref a36, .ref a37, .int 0, .int 0, .int 0, .ref a38, .int 0])), (a1, .inl (cy 2, 65, .inl (fun _ => 0)))] sz) := by
  refine Met.ofW (cc := cX12_converter) (maxL := 6) (ret := (some .boolean)) (by decide) rfl ?_
  intro p e s m args below meth c s₁ B hml hv
  obtain ⟨rfl, hsz, hP, hD0, hE⟩ := hv
  have hx := B.exec
  have hb := B.bytes
  have hr := B.returns
  have hts := atoms_spec (ws := wq_X12_converter_3) B.pre
  have hown : s.vm.findClass RX12 = some m.cls := findClass_of_methodNamed B.named
  have hlocks := B.notSynchronized
  subst hsz
  have hK := hE.1
  have hAm := hE.2.2.1
  have hWm := hE.2.2.2
  have hAO := hWm.2.2.2.1
  have hD := hD0.self (sz := s.heap.size)
  have hAF := frA hD0 hE.2.1
  generalize hAe : va_A [(a0, .inr (14, [.int 0, .int 0, .ref a2, .int 0, .ref a3, .ref a4, .ref a5, .ref a6, .int 0, .int 0, .int 0, .ref a7, .ref a8, .ref a9, .int 0, .int 0, .int 0, .int 0, .int 0, .int 0, .ref a10, .ref a11, .ref a12, .ref a13, .ref a14, .ref a15, .ref a16, .ref a17, .ref a18, .int 0, .ref a19, .ref a20, .ref a21, .int 0, .int 0, .int 0, .ref a22, .ref a23, .ref a24, .ref a25, .ref a26, .ref a27, .ref a28, .ref a29, .ref a30, .ref a31, .ref a1, .int 0, .ref a32, .int 0, .ref a33, .ref a34, .ref a35, .ref a36, .ref a37, .int 0, .int 0, .int 0, .ref a38, .int 0])), (a1, .inl (cy 2, 65, .inl (fun _ => 0)))] s.heap.size = A at hD hAF ⊢
  have hA : ∀ q : Nat, s.heap.size ≤ q → A q := fun q h => by rw [← hAe]; exact Or.inr h
  have hS : va_S A s.heap s.heap [] := va_S.rf
  have hl := lv_entry ([.ref a0, .int k0, .int k1, .int 1]) (n := 6) (Nat.le_of_ble_eq_true rfl)
  rw [lg_entry_eq]
  generalize (lg_sl ([.ref a0, .int k0, .int k1, .int 1]) ++ List.replicate (6 - (lg_sl ([.ref a0, .int k0, .int k1, .int 1])).length) Slot.unset).toArray = ls at hl ⊢
  have hl : lv_has ls 6 [(0, .ref a0), (1, .int k0), (2, .int k1), (3, .int 1)] := hl
  have hP : va_P D vwCl [(a0, .inr (14, [.int 0, .int 0, .ref a2, .int 0, .ref a3, .ref a4, .ref a5, .ref a6, .int 0, .int 0, .int 0, .ref a7, .ref a8, .ref a9, .int 0, .int 0, .int 0, .int 0, .int 0, .int 0, .ref a10, .ref a11, .ref a12, .ref a13, .ref a14, .ref a15, .ref a16, .ref a17, .ref a18, .int 0, .ref a19, .ref a20, .ref a21, .int 0, .int 0, .int 0, .ref a22, .ref a23, .ref a24, .ref a25, .ref a26, .ref a27, .ref a28, .ref a29, .ref a30, .ref a31, .ref a1, .int 0, .ref a32, .int 0, .ref a33, .ref a34, .ref a35, .ref a36, .ref a37, .int 0, .int 0, .int 0, .ref a38, .int 0])), (a1, .inl (cy 2, 65, .inl (fun _ => 0)))] s.heap := hP
  have z1 : (1 : Int32).toInt = 1 := by decide +kernel
  have z4 : (4 : Int32).toInt = 4 := by decide +kernel
  have z5 : (5 : Int32).toInt = 5 := by decide +kernel
  have z8 : (8 : Int32).toInt = 8 := by decide +kernel
  have z12 : (12 : Int32).toInt = 12 := by decide +kernel
  have b0l := Int32.le_toInt k0
  have b0u := Int32.toInt_lt k0
  have b1l := Int32.le_toInt k1
  have b1u := Int32.toInt_lt k1
  refine lv_iload_n hx hb dX12_converter_0 rfl (lv_at hl 1 rfl) ?_
  refine lv_iconst (v := 1) hx hb dX12_converter_1 (by decide +kernel) ?_
  refine lv_icmp_lt (tgt := 10) hx hb dX12_converter_2 (by decide) (fun c1 => ?_) (fun c1 => ?_)
  · have c1 := z_lt c1
    refine lv_iload_n hx hb dX12_converter_10 rfl (lv_at hl 1 rfl) ?_
    refine lv_bipush (v := 8) hx hb dX12_converter_11 (by decide +kernel) ?_
    refine lv_icmp_lt (tgt := 41) hx hb dX12_converter_13 (by decide) (fun c2 => ?_) (fun c2 => ?_)
    · have c2 := z_lt c2
      refine lv_iconst (v := 0) hx hb dX12_converter_41 (by decide +kernel) ?_
      refine lv_istore (lv' := [(4, .int 0), (0, .ref a0), (1, .int k0), (2, .int k1), (3, .int 1)]) hx hb dX12_converter_42 hl (by decide) rfl (fun ls hl => ?_)
      refine lv_aload_n hx hb dX12_converter_44 rfl (lv_at hl 1 rfl) ?_
      refine lv_iload hx hb dX12_converter_45 (lv_at hl 0 rfl) ?_
      refine lv_if_eq (tgt := 54) hx hb dX12_converter_47 (by decide) (fun _ => ?_) (fun c3 => absurd (by decide +kernel) c3)
      refine lv_iconst (v := 1) hx hb dX12_converter_54 (by decide +kernel) ?_
      refine va_put (D := D) (ci := 14) (v := .int 1) (ty := .int) (C := RX12) (T := TX12) (N := 60) hx hb hts (fun _ h => (List.mem_append_right _ h)) tyX12 tyX12_ok nmX12 hown hK hP hD hS 0 rfl rfl 0 (by decide) (hts (.fieldLink RX12 127 "PhraseDeskModel" "threw" "I") (List.mem_of_getElem? (i := 1) rfl)) (fun _ h9 => h9) rfl (by decide +kernel) rfl rfl (Nat.le_of_ble_eq_true rfl) dX12_converter_55 (fun H locs hP hD hS => ?_)
      have hP : va_P D vwCl [(a0, .inr (14, [.int 1, .int 0, .ref a2, .int 0, .ref a3, .ref a4, .ref a5, .ref a6, .int 0, .int 0, .int 0, .ref a7, .ref a8, .ref a9, .int 0, .int 0, .int 0, .int 0, .int 0, .int 0, .ref a10, .ref a11, .ref a12, .ref a13, .ref a14, .ref a15, .ref a16, .ref a17, .ref a18, .int 0, .ref a19, .ref a20, .ref a21, .int 0, .int 0, .int 0, .ref a22, .ref a23, .ref a24, .ref a25, .ref a26, .ref a27, .ref a28, .ref a29, .ref a30, .ref a31, .ref a1, .int 0, .ref a32, .int 0, .ref a33, .ref a34, .ref a35, .ref a36, .ref a37, .int 0, .int 0, .int 0, .ref a38, .int 0])), (a1, .inl (cy 2, 65, .inl (fun _ => 0)))] H := hP
      have hD : va_D A [(a0, .inr (14, [.int 1, .int 0, .ref a2, .int 0, .ref a3, .ref a4, .ref a5, .ref a6, .int 0, .int 0, .int 0, .ref a7, .ref a8, .ref a9, .int 0, .int 0, .int 0, .int 0, .int 0, .int 0, .ref a10, .ref a11, .ref a12, .ref a13, .ref a14, .ref a15, .ref a16, .ref a17, .ref a18, .int 0, .ref a19, .ref a20, .ref a21, .int 0, .int 0, .int 0, .ref a22, .ref a23, .ref a24, .ref a25, .ref a26, .ref a27, .ref a28, .ref a29, .ref a30, .ref a31, .ref a1, .int 0, .ref a32, .int 0, .ref a33, .ref a34, .ref a35, .ref a36, .ref a37, .int 0, .int 0, .int 0, .ref a38, .int 0])), (a1, .inl (cy 2, 65, .inl (fun _ => 0)))] := hD
      refine lv_iload hx hb dX12_converter_58 (lv_at hl 0 rfl) ?_
      refine lv_if_ne (tgt := 65) hx hb dX12_converter_60 (by decide) (fun c4 => absurd (by decide +kernel) c4) (fun _ => ?_)
      refine lv_iconst (v := 0) hx hb dX12_converter_63 (by decide +kernel) ?_
      refine W.widen (k := 0) (n := 0) (Nat.le_of_ble_eq_true rfl) (Nat.le_of_ble_eq_true rfl) ?_
      have hP9 := hP.sub (ws' := [(a0, .inr (14, [.int 1, .int 0, .ref a2, .int 0, .ref a3, .ref a4, .ref a5, .ref a6, .int 0, .int 0, .int 0, .ref a7, .ref a8, .ref a9, .int 0, .int 0, .int 0, .int 0, .int 0, .int 0, .ref a10, .ref a11, .ref a12, .ref a13, .ref a14, .ref a15, .ref a16, .ref a17, .ref a18, .int 0, .ref a19, .ref a20, .ref a21, .int 0, .int 0, .int 0, .ref a22, .ref a23, .ref a24, .ref a25, .ref a26, .ref a27, .ref a28, .ref a29, .ref a30, .ref a31, .ref a1, .int 0, .ref a32, .int 0, .ref a33, .ref a34, .ref a35, .ref a36, .ref a37, .int 0, .int 0, .int 0, .ref a38, .int 0]))]) [0] rfl
      have hD9 := hD.sub (ws' := [(a0, .inr (14, [.int 1, .int 0, .ref a2, .int 0, .ref a3, .ref a4, .ref a5, .ref a6, .int 0, .int 0, .int 0, .ref a7, .ref a8, .ref a9, .int 0, .int 0, .int 0, .int 0, .int 0, .int 0, .ref a10, .ref a11, .ref a12, .ref a13, .ref a14, .ref a15, .ref a16, .ref a17, .ref a18, .int 0, .ref a19, .ref a20, .ref a21, .int 0, .int 0, .int 0, .ref a22, .ref a23, .ref a24, .ref a25, .ref a26, .ref a27, .ref a28, .ref a29, .ref a30, .ref a31, .ref a1, .int 0, .ref a32, .int 0, .ref a33, .ref a34, .ref a35, .ref a36, .ref a37, .int 0, .int 0, .int 0, .ref a38, .int 0]))]) [0] (by decide) rfl
      exact W.zret (v := 0) (ty := .boolean) hx hb hr rfl (fun t ht hW => ⟨⟨0, 1, rfl, Or.inl ⟨rfl, rfl, by omega⟩, ⟨[.int 0, .ref a2, .int 0, .ref a3, .ref a4, .ref a5, .ref a6, .int 0, .int 0, .int 0, .ref a7, .ref a8, .ref a9, .int 0, .int 0, .int 0, .int 0, .int 0, .int 0, .ref a10, .ref a11, .ref a12, .ref a13, .ref a14, .ref a15, .ref a16, .ref a17, .ref a18, .int 0, .ref a19, .ref a20, .ref a21, .int 0, .int 0, .int 0, .ref a22, .ref a23, .ref a24, .ref a25, .ref a26, .ref a27, .ref a28, .ref a29, .ref a30, .ref a31, .ref a1, .int 0, .ref a32, .int 0, .ref a33, .ref a34, .ref a35, .ref a36, .ref a37, .int 0, .int 0, .int 0, .ref a38, .int 0], by rw [ht]; exact hP9, hD9⟩⟩, hS.F ht⟩) hS.2.2 dX12_converter_64
    · have c2 := z_nlt c2
      exfalso
      omega
  · have c1 := z_nlt c1
    refine lv_iload_n hx hb dX12_converter_5 rfl (lv_at hl 1 rfl) ?_
    refine lv_iconst (v := 5) hx hb dX12_converter_6 (by decide +kernel) ?_
    refine lv_icmp_le (tgt := 22) hx hb dX12_converter_7 (by decide) (fun c5 => ?_) (fun c5 => ?_)
    · have c5 := z_le c5
      refine lv_iload_n hx hb dX12_converter_22 rfl (lv_at hl 2 rfl) ?_
      refine lv_iconst (v := 1) hx hb dX12_converter_23 (by decide +kernel) ?_
      refine lv_icmp_lt (tgt := 41) hx hb dX12_converter_24 (by decide) (fun c6 => ?_) (fun c6 => ?_)
      · have c6 := z_lt c6
        refine lv_iconst (v := 0) hx hb dX12_converter_41 (by decide +kernel) ?_
        refine lv_istore (lv' := [(4, .int 0), (0, .ref a0), (1, .int k0), (2, .int k1), (3, .int 1)]) hx hb dX12_converter_42 hl (by decide) rfl (fun ls hl => ?_)
        refine lv_aload_n hx hb dX12_converter_44 rfl (lv_at hl 1 rfl) ?_
        refine lv_iload hx hb dX12_converter_45 (lv_at hl 0 rfl) ?_
        refine lv_if_eq (tgt := 54) hx hb dX12_converter_47 (by decide) (fun _ => ?_) (fun c7 => absurd (by decide +kernel) c7)
        refine lv_iconst (v := 1) hx hb dX12_converter_54 (by decide +kernel) ?_
        refine va_put (D := D) (ci := 14) (v := .int 1) (ty := .int) (C := RX12) (T := TX12) (N := 60) hx hb hts (fun _ h => (List.mem_append_right _ h)) tyX12 tyX12_ok nmX12 hown hK hP hD hS 0 rfl rfl 0 (by decide) (hts (.fieldLink RX12 127 "PhraseDeskModel" "threw" "I") (List.mem_of_getElem? (i := 1) rfl)) (fun _ h9 => h9) rfl (by decide +kernel) rfl rfl (Nat.le_of_ble_eq_true rfl) dX12_converter_55 (fun H locs hP hD hS => ?_)
        have hP : va_P D vwCl [(a0, .inr (14, [.int 1, .int 0, .ref a2, .int 0, .ref a3, .ref a4, .ref a5, .ref a6, .int 0, .int 0, .int 0, .ref a7, .ref a8, .ref a9, .int 0, .int 0, .int 0, .int 0, .int 0, .int 0, .ref a10, .ref a11, .ref a12, .ref a13, .ref a14, .ref a15, .ref a16, .ref a17, .ref a18, .int 0, .ref a19, .ref a20, .ref a21, .int 0, .int 0, .int 0, .ref a22, .ref a23, .ref a24, .ref a25, .ref a26, .ref a27, .ref a28, .ref a29, .ref a30, .ref a31, .ref a1, .int 0, .ref a32, .int 0, .ref a33, .ref a34, .ref a35, .ref a36, .ref a37, .int 0, .int 0, .int 0, .ref a38, .int 0])), (a1, .inl (cy 2, 65, .inl (fun _ => 0)))] H := hP
        have hD : va_D A [(a0, .inr (14, [.int 1, .int 0, .ref a2, .int 0, .ref a3, .ref a4, .ref a5, .ref a6, .int 0, .int 0, .int 0, .ref a7, .ref a8, .ref a9, .int 0, .int 0, .int 0, .int 0, .int 0, .int 0, .ref a10, .ref a11, .ref a12, .ref a13, .ref a14, .ref a15, .ref a16, .ref a17, .ref a18, .int 0, .ref a19, .ref a20, .ref a21, .int 0, .int 0, .int 0, .ref a22, .ref a23, .ref a24, .ref a25, .ref a26, .ref a27, .ref a28, .ref a29, .ref a30, .ref a31, .ref a1, .int 0, .ref a32, .int 0, .ref a33, .ref a34, .ref a35, .ref a36, .ref a37, .int 0, .int 0, .int 0, .ref a38, .int 0])), (a1, .inl (cy 2, 65, .inl (fun _ => 0)))] := hD
        refine lv_iload hx hb dX12_converter_58 (lv_at hl 0 rfl) ?_
        refine lv_if_ne (tgt := 65) hx hb dX12_converter_60 (by decide) (fun c8 => absurd (by decide +kernel) c8) (fun _ => ?_)
        refine lv_iconst (v := 0) hx hb dX12_converter_63 (by decide +kernel) ?_
        refine W.widen (k := 0) (n := 0) (Nat.le_of_ble_eq_true rfl) (Nat.le_of_ble_eq_true rfl) ?_
        have hP9 := hP.sub (ws' := [(a0, .inr (14, [.int 1, .int 0, .ref a2, .int 0, .ref a3, .ref a4, .ref a5, .ref a6, .int 0, .int 0, .int 0, .ref a7, .ref a8, .ref a9, .int 0, .int 0, .int 0, .int 0, .int 0, .int 0, .ref a10, .ref a11, .ref a12, .ref a13, .ref a14, .ref a15, .ref a16, .ref a17, .ref a18, .int 0, .ref a19, .ref a20, .ref a21, .int 0, .int 0, .int 0, .ref a22, .ref a23, .ref a24, .ref a25, .ref a26, .ref a27, .ref a28, .ref a29, .ref a30, .ref a31, .ref a1, .int 0, .ref a32, .int 0, .ref a33, .ref a34, .ref a35, .ref a36, .ref a37, .int 0, .int 0, .int 0, .ref a38, .int 0]))]) [0] rfl
        have hD9 := hD.sub (ws' := [(a0, .inr (14, [.int 1, .int 0, .ref a2, .int 0, .ref a3, .ref a4, .ref a5, .ref a6, .int 0, .int 0, .int 0, .ref a7, .ref a8, .ref a9, .int 0, .int 0, .int 0, .int 0, .int 0, .int 0, .ref a10, .ref a11, .ref a12, .ref a13, .ref a14, .ref a15, .ref a16, .ref a17, .ref a18, .int 0, .ref a19, .ref a20, .ref a21, .int 0, .int 0, .int 0, .ref a22, .ref a23, .ref a24, .ref a25, .ref a26, .ref a27, .ref a28, .ref a29, .ref a30, .ref a31, .ref a1, .int 0, .ref a32, .int 0, .ref a33, .ref a34, .ref a35, .ref a36, .ref a37, .int 0, .int 0, .int 0, .ref a38, .int 0]))]) [0] (by decide) rfl
        exact W.zret (v := 0) (ty := .boolean) hx hb hr rfl (fun t ht hW => ⟨⟨0, 1, rfl, Or.inl ⟨rfl, rfl, by omega⟩, ⟨[.int 0, .ref a2, .int 0, .ref a3, .ref a4, .ref a5, .ref a6, .int 0, .int 0, .int 0, .ref a7, .ref a8, .ref a9, .int 0, .int 0, .int 0, .int 0, .int 0, .int 0, .ref a10, .ref a11, .ref a12, .ref a13, .ref a14, .ref a15, .ref a16, .ref a17, .ref a18, .int 0, .ref a19, .ref a20, .ref a21, .int 0, .int 0, .int 0, .ref a22, .ref a23, .ref a24, .ref a25, .ref a26, .ref a27, .ref a28, .ref a29, .ref a30, .ref a31, .ref a1, .int 0, .ref a32, .int 0, .ref a33, .ref a34, .ref a35, .ref a36, .ref a37, .int 0, .int 0, .int 0, .ref a38, .int 0], by rw [ht]; exact hP9, hD9⟩⟩, hS.F ht⟩) hS.2.2 dX12_converter_64
      · have c6 := z_nlt c6
        refine lv_iload_n hx hb dX12_converter_27 rfl (lv_at hl 2 rfl) ?_
        refine lv_iconst (v := 4) hx hb dX12_converter_28 (by decide +kernel) ?_
        refine lv_icmp_gt (tgt := 41) hx hb dX12_converter_29 (by decide) (fun c9 => ?_) (fun c9 => ?_)
        · have c9 := z_lt c9
          refine lv_iconst (v := 0) hx hb dX12_converter_41 (by decide +kernel) ?_
          refine lv_istore (lv' := [(4, .int 0), (0, .ref a0), (1, .int k0), (2, .int k1), (3, .int 1)]) hx hb dX12_converter_42 hl (by decide) rfl (fun ls hl => ?_)
          refine lv_aload_n hx hb dX12_converter_44 rfl (lv_at hl 1 rfl) ?_
          refine lv_iload hx hb dX12_converter_45 (lv_at hl 0 rfl) ?_
          refine lv_if_eq (tgt := 54) hx hb dX12_converter_47 (by decide) (fun _ => ?_) (fun c10 => absurd (by decide +kernel) c10)
          refine lv_iconst (v := 1) hx hb dX12_converter_54 (by decide +kernel) ?_
          refine va_put (D := D) (ci := 14) (v := .int 1) (ty := .int) (C := RX12) (T := TX12) (N := 60) hx hb hts (fun _ h => (List.mem_append_right _ h)) tyX12 tyX12_ok nmX12 hown hK hP hD hS 0 rfl rfl 0 (by decide) (hts (.fieldLink RX12 127 "PhraseDeskModel" "threw" "I") (List.mem_of_getElem? (i := 1) rfl)) (fun _ h9 => h9) rfl (by decide +kernel) rfl rfl (Nat.le_of_ble_eq_true rfl) dX12_converter_55 (fun H locs hP hD hS => ?_)
          have hP : va_P D vwCl [(a0, .inr (14, [.int 1, .int 0, .ref a2, .int 0, .ref a3, .ref a4, .ref a5, .ref a6, .int 0, .int 0, .int 0, .ref a7, .ref a8, .ref a9, .int 0, .int 0, .int 0, .int 0, .int 0, .int 0, .ref a10, .ref a11, .ref a12, .ref a13, .ref a14, .ref a15, .ref a16, .ref a17, .ref a18, .int 0, .ref a19, .ref a20, .ref a21, .int 0, .int 0, .int 0, .ref a22, .ref a23, .ref a24, .ref a25, .ref a26, .ref a27, .ref a28, .ref a29, .ref a30, .ref a31, .ref a1, .int 0, .ref a32, .int 0, .ref a33, .ref a34, .ref a35, .ref a36, .ref a37, .int 0, .int 0, .int 0, .ref a38, .int 0])), (a1, .inl (cy 2, 65, .inl (fun _ => 0)))] H := hP
          have hD : va_D A [(a0, .inr (14, [.int 1, .int 0, .ref a2, .int 0, .ref a3, .ref a4, .ref a5, .ref a6, .int 0, .int 0, .int 0, .ref a7, .ref a8, .ref a9, .int 0, .int 0, .int 0, .int 0, .int 0, .int 0, .ref a10, .ref a11, .ref a12, .ref a13, .ref a14, .ref a15, .ref a16, .ref a17, .ref a18, .int 0, .ref a19, .ref a20, .ref a21, .int 0, .int 0, .int 0, .ref a22, .ref a23, .ref a24, .ref a25, .ref a26, .ref a27, .ref a28, .ref a29, .ref a30, .ref a31, .ref a1, .int 0, .ref a32, .int 0, .ref a33, .ref a34, .ref a35, .ref a36, .ref a37, .int 0, .int 0, .int 0, .ref a38, .int 0])), (a1, .inl (cy 2, 65, .inl (fun _ => 0)))] := hD
          refine lv_iload hx hb dX12_converter_58 (lv_at hl 0 rfl) ?_
          refine lv_if_ne (tgt := 65) hx hb dX12_converter_60 (by decide) (fun c11 => absurd (by decide +kernel) c11) (fun _ => ?_)
          refine lv_iconst (v := 0) hx hb dX12_converter_63 (by decide +kernel) ?_
          refine W.widen (k := 0) (n := 0) (Nat.le_of_ble_eq_true rfl) (Nat.le_of_ble_eq_true rfl) ?_
          have hP9 := hP.sub (ws' := [(a0, .inr (14, [.int 1, .int 0, .ref a2, .int 0, .ref a3, .ref a4, .ref a5, .ref a6, .int 0, .int 0, .int 0, .ref a7, .ref a8, .ref a9, .int 0, .int 0, .int 0, .int 0, .int 0, .int 0, .ref a10, .ref a11, .ref a12, .ref a13, .ref a14, .ref a15, .ref a16, .ref a17, .ref a18, .int 0, .ref a19, .ref a20, .ref a21, .int 0, .int 0, .int 0, .ref a22, .ref a23, .ref a24, .ref a25, .ref a26, .ref a27, .ref a28, .ref a29, .ref a30, .ref a31, .ref a1, .int 0, .ref a32, .int 0, .ref a33, .ref a34, .ref a35, .ref a36, .ref a37, .int 0, .int 0, .int 0, .ref a38, .int 0]))]) [0] rfl
          have hD9 := hD.sub (ws' := [(a0, .inr (14, [.int 1, .int 0, .ref a2, .int 0, .ref a3, .ref a4, .ref a5, .ref a6, .int 0, .int 0, .int 0, .ref a7, .ref a8, .ref a9, .int 0, .int 0, .int 0, .int 0, .int 0, .int 0, .ref a10, .ref a11, .ref a12, .ref a13, .ref a14, .ref a15, .ref a16, .ref a17, .ref a18, .int 0, .ref a19, .ref a20, .ref a21, .int 0, .int 0, .int 0, .ref a22, .ref a23, .ref a24, .ref a25, .ref a26, .ref a27, .ref a28, .ref a29, .ref a30, .ref a31, .ref a1, .int 0, .ref a32, .int 0, .ref a33, .ref a34, .ref a35, .ref a36, .ref a37, .int 0, .int 0, .int 0, .ref a38, .int 0]))]) [0] (by decide) rfl
          exact W.zret (v := 0) (ty := .boolean) hx hb hr rfl (fun t ht hW => ⟨⟨0, 1, rfl, Or.inl ⟨rfl, rfl, by omega⟩, ⟨[.int 0, .ref a2, .int 0, .ref a3, .ref a4, .ref a5, .ref a6, .int 0, .int 0, .int 0, .ref a7, .ref a8, .ref a9, .int 0, .int 0, .int 0, .int 0, .int 0, .int 0, .ref a10, .ref a11, .ref a12, .ref a13, .ref a14, .ref a15, .ref a16, .ref a17, .ref a18, .int 0, .ref a19, .ref a20, .ref a21, .int 0, .int 0, .int 0, .ref a22, .ref a23, .ref a24, .ref a25, .ref a26, .ref a27, .ref a28, .ref a29, .ref a30, .ref a31, .ref a1, .int 0, .ref a32, .int 0, .ref a33, .ref a34, .ref a35, .ref a36, .ref a37, .int 0, .int 0, .int 0, .ref a38, .int 0], by rw [ht]; exact hP9, hD9⟩⟩, hS.F ht⟩) hS.2.2 dX12_converter_64
        · have c9 := z_nlt c9
          refine lv_iload_n hx hb dX12_converter_32 rfl (lv_at hl 1 rfl) ?_
          refine lv_iload_n hx hb dX12_converter_33 rfl (lv_at hl 2 rfl) ?_
          refine lv_icmp_eq (tgt := 41) hx hb dX12_converter_34 (by decide) (fun c12 => ?_) (fun c12 => ?_)
          · have c12 := z_eq c12
            refine lv_iconst (v := 0) hx hb dX12_converter_41 (by decide +kernel) ?_
            refine lv_istore (lv' := [(4, .int 0), (0, .ref a0), (1, .int k0), (2, .int k1), (3, .int 1)]) hx hb dX12_converter_42 hl (by decide) rfl (fun ls hl => ?_)
            refine lv_aload_n hx hb dX12_converter_44 rfl (lv_at hl 1 rfl) ?_
            refine lv_iload hx hb dX12_converter_45 (lv_at hl 0 rfl) ?_
            refine lv_if_eq (tgt := 54) hx hb dX12_converter_47 (by decide) (fun _ => ?_) (fun c13 => absurd (by decide +kernel) c13)
            refine lv_iconst (v := 1) hx hb dX12_converter_54 (by decide +kernel) ?_
            refine va_put (D := D) (ci := 14) (v := .int 1) (ty := .int) (C := RX12) (T := TX12) (N := 60) hx hb hts (fun _ h => (List.mem_append_right _ h)) tyX12 tyX12_ok nmX12 hown hK hP hD hS 0 rfl rfl 0 (by decide) (hts (.fieldLink RX12 127 "PhraseDeskModel" "threw" "I") (List.mem_of_getElem? (i := 1) rfl)) (fun _ h9 => h9) rfl (by decide +kernel) rfl rfl (Nat.le_of_ble_eq_true rfl) dX12_converter_55 (fun H locs hP hD hS => ?_)
            have hP : va_P D vwCl [(a0, .inr (14, [.int 1, .int 0, .ref a2, .int 0, .ref a3, .ref a4, .ref a5, .ref a6, .int 0, .int 0, .int 0, .ref a7, .ref a8, .ref a9, .int 0, .int 0, .int 0, .int 0, .int 0, .int 0, .ref a10, .ref a11, .ref a12, .ref a13, .ref a14, .ref a15, .ref a16, .ref a17, .ref a18, .int 0, .ref a19, .ref a20, .ref a21, .int 0, .int 0, .int 0, .ref a22, .ref a23, .ref a24, .ref a25, .ref a26, .ref a27, .ref a28, .ref a29, .ref a30, .ref a31, .ref a1, .int 0, .ref a32, .int 0, .ref a33, .ref a34, .ref a35, .ref a36, .ref a37, .int 0, .int 0, .int 0, .ref a38, .int 0])), (a1, .inl (cy 2, 65, .inl (fun _ => 0)))] H := hP
            have hD : va_D A [(a0, .inr (14, [.int 1, .int 0, .ref a2, .int 0, .ref a3, .ref a4, .ref a5, .ref a6, .int 0, .int 0, .int 0, .ref a7, .ref a8, .ref a9, .int 0, .int 0, .int 0, .int 0, .int 0, .int 0, .ref a10, .ref a11, .ref a12, .ref a13, .ref a14, .ref a15, .ref a16, .ref a17, .ref a18, .int 0, .ref a19, .ref a20, .ref a21, .int 0, .int 0, .int 0, .ref a22, .ref a23, .ref a24, .ref a25, .ref a26, .ref a27, .ref a28, .ref a29, .ref a30, .ref a31, .ref a1, .int 0, .ref a32, .int 0, .ref a33, .ref a34, .ref a35, .ref a36, .ref a37, .int 0, .int 0, .int 0, .ref a38, .int 0])), (a1, .inl (cy 2, 65, .inl (fun _ => 0)))] := hD
            refine lv_iload hx hb dX12_converter_58 (lv_at hl 0 rfl) ?_
            refine lv_if_ne (tgt := 65) hx hb dX12_converter_60 (by decide) (fun c14 => absurd (by decide +kernel) c14) (fun _ => ?_)
            refine lv_iconst (v := 0) hx hb dX12_converter_63 (by decide +kernel) ?_
            refine W.widen (k := 0) (n := 0) (Nat.le_of_ble_eq_true rfl) (Nat.le_of_ble_eq_true rfl) ?_
            have hP9 := hP.sub (ws' := [(a0, .inr (14, [.int 1, .int 0, .ref a2, .int 0, .ref a3, .ref a4, .ref a5, .ref a6, .int 0, .int 0, .int 0, .ref a7, .ref a8, .ref a9, .int 0, .int 0, .int 0, .int 0, .int 0, .int 0, .ref a10, .ref a11, .ref a12, .ref a13, .ref a14, .ref a15, .ref a16, .ref a17, .ref a18, .int 0, .ref a19, .ref a20, .ref a21, .int 0, .int 0, .int 0, .ref a22, .ref a23, .ref a24, .ref a25, .ref a26, .ref a27, .ref a28, .ref a29, .ref a30, .ref a31, .ref a1, .int 0, .ref a32, .int 0, .ref a33, .ref a34, .ref a35, .ref a36, .ref a37, .int 0, .int 0, .int 0, .ref a38, .int 0]))]) [0] rfl
            have hD9 := hD.sub (ws' := [(a0, .inr (14, [.int 1, .int 0, .ref a2, .int 0, .ref a3, .ref a4, .ref a5, .ref a6, .int 0, .int 0, .int 0, .ref a7, .ref a8, .ref a9, .int 0, .int 0, .int 0, .int 0, .int 0, .int 0, .ref a10, .ref a11, .ref a12, .ref a13, .ref a14, .ref a15, .ref a16, .ref a17, .ref a18, .int 0, .ref a19, .ref a20, .ref a21, .int 0, .int 0, .int 0, .ref a22, .ref a23, .ref a24, .ref a25, .ref a26, .ref a27, .ref a28, .ref a29, .ref a30, .ref a31, .ref a1, .int 0, .ref a32, .int 0, .ref a33, .ref a34, .ref a35, .ref a36, .ref a37, .int 0, .int 0, .int 0, .ref a38, .int 0]))]) [0] (by decide) rfl
            exact W.zret (v := 0) (ty := .boolean) hx hb hr rfl (fun t ht hW => ⟨⟨0, 1, rfl, Or.inl ⟨rfl, rfl, by omega⟩, ⟨[.int 0, .ref a2, .int 0, .ref a3, .ref a4, .ref a5, .ref a6, .int 0, .int 0, .int 0, .ref a7, .ref a8, .ref a9, .int 0, .int 0, .int 0, .int 0, .int 0, .int 0, .ref a10, .ref a11, .ref a12, .ref a13, .ref a14, .ref a15, .ref a16, .ref a17, .ref a18, .int 0, .ref a19, .ref a20, .ref a21, .int 0, .int 0, .int 0, .ref a22, .ref a23, .ref a24, .ref a25, .ref a26, .ref a27, .ref a28, .ref a29, .ref a30, .ref a31, .ref a1, .int 0, .ref a32, .int 0, .ref a33, .ref a34, .ref a35, .ref a36, .ref a37, .int 0, .int 0, .int 0, .ref a38, .int 0], by rw [ht]; exact hP9, hD9⟩⟩, hS.F ht⟩) hS.2.2 dX12_converter_64
          · have c12 := z_ne c12
            refine lv_iconst (v := 1) hx hb dX12_converter_37 (by decide +kernel) ?_
            refine lv_goto (tgt := 42) hx hb dX12_converter_38 (by decide) ?_
            refine lv_istore (lv' := [(4, .int 1), (0, .ref a0), (1, .int k0), (2, .int k1), (3, .int 1)]) hx hb dX12_converter_42 hl (by decide) rfl (fun ls hl => ?_)
            refine lv_aload_n hx hb dX12_converter_44 rfl (lv_at hl 1 rfl) ?_
            refine lv_iload hx hb dX12_converter_45 (lv_at hl 0 rfl) ?_
            refine lv_if_eq (tgt := 54) hx hb dX12_converter_47 (by decide) (fun c15 => absurd c15 (by decide +kernel)) (fun _ => ?_)
            refine lv_iconst (v := 0) hx hb dX12_converter_50 (by decide +kernel) ?_
            refine lv_goto (tgt := 55) hx hb dX12_converter_51 (by decide) ?_
            refine va_put (D := D) (ci := 14) (v := .int 0) (ty := .int) (C := RX12) (T := TX12) (N := 60) hx hb hts (fun _ h => (List.mem_append_right _ h)) tyX12 tyX12_ok nmX12 hown hK hP hD hS 0 rfl rfl 0 (by decide) (hts (.fieldLink RX12 127 "PhraseDeskModel" "threw" "I") (List.mem_of_getElem? (i := 1) rfl)) (fun _ h9 => h9) rfl (by decide +kernel) rfl rfl (Nat.le_of_ble_eq_true rfl) dX12_converter_55 (fun H locs hP hD hS => ?_)
            have hP : va_P D vwCl [(a0, .inr (14, [.int 0, .int 0, .ref a2, .int 0, .ref a3, .ref a4, .ref a5, .ref a6, .int 0, .int 0, .int 0, .ref a7, .ref a8, .ref a9, .int 0, .int 0, .int 0, .int 0, .int 0, .int 0, .ref a10, .ref a11, .ref a12, .ref a13, .ref a14, .ref a15, .ref a16, .ref a17, .ref a18, .int 0, .ref a19, .ref a20, .ref a21, .int 0, .int 0, .int 0, .ref a22, .ref a23, .ref a24, .ref a25, .ref a26, .ref a27, .ref a28, .ref a29, .ref a30, .ref a31, .ref a1, .int 0, .ref a32, .int 0, .ref a33, .ref a34, .ref a35, .ref a36, .ref a37, .int 0, .int 0, .int 0, .ref a38, .int 0])), (a1, .inl (cy 2, 65, .inl (fun _ => 0)))] H := hP
            have hD : va_D A [(a0, .inr (14, [.int 0, .int 0, .ref a2, .int 0, .ref a3, .ref a4, .ref a5, .ref a6, .int 0, .int 0, .int 0, .ref a7, .ref a8, .ref a9, .int 0, .int 0, .int 0, .int 0, .int 0, .int 0, .ref a10, .ref a11, .ref a12, .ref a13, .ref a14, .ref a15, .ref a16, .ref a17, .ref a18, .int 0, .ref a19, .ref a20, .ref a21, .int 0, .int 0, .int 0, .ref a22, .ref a23, .ref a24, .ref a25, .ref a26, .ref a27, .ref a28, .ref a29, .ref a30, .ref a31, .ref a1, .int 0, .ref a32, .int 0, .ref a33, .ref a34, .ref a35, .ref a36, .ref a37, .int 0, .int 0, .int 0, .ref a38, .int 0])), (a1, .inl (cy 2, 65, .inl (fun _ => 0)))] := hD
            refine lv_iload hx hb dX12_converter_58 (lv_at hl 0 rfl) ?_
            refine lv_if_ne (tgt := 65) hx hb dX12_converter_60 (by decide) (fun _ => ?_) (fun c16 => absurd c16 (by decide +kernel))
            refine lv_aload_n hx hb dX12_converter_65 rfl (lv_at hl 1 rfl) ?_
            refine va_get (D := D) (ci := 14) (v := .ref a1) (C := RX12) (T := TX12) (N := 60) hx hb hts (fun _ h => (List.mem_append_right _ h)) hown hK hP 0 rfl rfl 46 (by decide) (hts (.fieldLink RX12 102 "PhraseDeskModel" "converts" "[Z") (List.mem_of_getElem? (i := 2) rfl)) (fun _ h9 => h9) rfl dX12_converter_66 ?_
            refine lv_iconst (v := 5) hx hb dX12_converter_69 (by decide +kernel) ?_
            refine lv_iload_n hx hb dX12_converter_70 rfl (lv_at hl 2 rfl) ?_
            refine lv_imul hx hb dX12_converter_71 ?_
            refine lv_topi (fun x17 ex17 => ?_)
            have tx17 : x17.toInt = 5 * k0.toInt := by rw [ex17, z_mulc 5 (by decide +kernel) (by omega) (by omega)]; first | done | omega
            refine lv_iload_n hx hb dX12_converter_72 rfl (lv_at hl 3 rfl) ?_
            refine lv_iadd hx hb dX12_converter_73 ?_
            refine lv_topi (fun x18 ex18 => ?_)
            have tx18 : x18.toInt = 5 * k0.toInt + 1 * k1.toInt := by rw [ex18, z_add (by omega) (by omega)]; first | done | omega
            have b20 : vp_in x18 65 := vp_in_iff.mpr ⟨by omega, by omega⟩
            refine va_zald hx hb hK hP 1 2 rfl rfl b20 dX12_converter_74 ?_
            refine lv_topi (fun x19 ex19 => ?_)
            obtain rfl : x19 = 0 := ex19
            refine lv_istore (lv' := [(5, .int 0), (4, .int 1), (0, .ref a0), (1, .int k0), (2, .int k1), (3, .int 1)]) hx hb dX12_converter_75 hl (by decide) rfl (fun ls hl => ?_)
            refine lv_aload_n hx hb dX12_converter_77 rfl (lv_at hl 2 rfl) ?_
            refine va_get (D := D) (ci := 14) (v := .ref a1) (C := RX12) (T := TX12) (N := 60) hx hb hts (fun _ h => (List.mem_append_right _ h)) hown hK hP 0 rfl rfl 46 (by decide) (hts (.fieldLink RX12 102 "PhraseDeskModel" "converts" "[Z") (List.mem_of_getElem? (i := 2) rfl)) (fun _ h9 => h9) rfl dX12_converter_78 ?_
            refine lv_iconst (v := 5) hx hb dX12_converter_81 (by decide +kernel) ?_
            refine lv_iload_n hx hb dX12_converter_82 rfl (lv_at hl 3 rfl) ?_
            refine lv_imul hx hb dX12_converter_83 ?_
            refine lv_topi (fun x21 ex21 => ?_)
            have tx21 : x21.toInt = 5 * k0.toInt := by rw [ex21, z_mulc 5 (by decide +kernel) (by omega) (by omega)]; first | done | omega
            refine lv_iload_n hx hb dX12_converter_84 rfl (lv_at hl 4 rfl) ?_
            refine lv_iadd hx hb dX12_converter_85 ?_
            refine lv_topi (fun x22 ex22 => ?_)
            have tx22 : x22.toInt = 5 * k0.toInt + 1 * k1.toInt := by rw [ex22, z_add (by omega) (by omega)]; first | done | omega
            refine lv_iload_n hx hb dX12_converter_86 rfl (lv_at hl 5 rfl) ?_
            have b23 : vp_in x22 65 := vp_in_iff.mpr ⟨by omega, by omega⟩
            refine va_zast hx hb hK hP hD hS 1 2 rfl rfl b23 dX12_converter_87 (fun H locs hP hD hS => ?_)
            have hP : va_P D vwCl [(a0, .inr (14, [.int 0, .int 0, .ref a2, .int 0, .ref a3, .ref a4, .ref a5, .ref a6, .int 0, .int 0, .int 0, .ref a7, .ref a8, .ref a9, .int 0, .int 0, .int 0, .int 0, .int 0, .int 0, .ref a10, .ref a11, .ref a12, .ref a13, .ref a14, .ref a15, .ref a16, .ref a17, .ref a18, .int 0, .ref a19, .ref a20, .ref a21, .int 0, .int 0, .int 0, .ref a22, .ref a23, .ref a24, .ref a25, .ref a26, .ref a27, .ref a28, .ref a29, .ref a30, .ref a31, .ref a1, .int 0, .ref a32, .int 0, .ref a33, .ref a34, .ref a35, .ref a36, .ref a37, .int 0, .int 0, .int 0, .ref a38, .int 0])), (a1, .inl (cy 2, 65, .inl (upd (fun _ => 0) (x22).toNatClampNeg (vp_nar .boolean 1))))] H := hP
            have hD : va_D A [(a0, .inr (14, [.int 0, .int 0, .ref a2, .int 0, .ref a3, .ref a4, .ref a5, .ref a6, .int 0, .int 0, .int 0, .ref a7, .ref a8, .ref a9, .int 0, .int 0, .int 0, .int 0, .int 0, .int 0, .ref a10, .ref a11, .ref a12, .ref a13, .ref a14, .ref a15, .ref a16, .ref a17, .ref a18, .int 0, .ref a19, .ref a20, .ref a21, .int 0, .int 0, .int 0, .ref a22, .ref a23, .ref a24, .ref a25, .ref a26, .ref a27, .ref a28, .ref a29, .ref a30, .ref a31, .ref a1, .int 0, .ref a32, .int 0, .ref a33, .ref a34, .ref a35, .ref a36, .ref a37, .int 0, .int 0, .int 0, .ref a38, .int 0])), (a1, .inl (cy 2, 65, .inl (upd (fun _ => 0) (x22).toNatClampNeg (vp_nar .boolean 1))))] := hD
            refine lv_iload hx hb dX12_converter_88 (lv_at hl 0 rfl) ?_
            refine W.widen (k := 0) (n := 0) (Nat.le_of_ble_eq_true rfl) (Nat.le_of_ble_eq_true rfl) ?_
            have hP9 := hP.sub (ws' := [(a0, .inr (14, [.int 0, .int 0, .ref a2, .int 0, .ref a3, .ref a4, .ref a5, .ref a6, .int 0, .int 0, .int 0, .ref a7, .ref a8, .ref a9, .int 0, .int 0, .int 0, .int 0, .int 0, .int 0, .ref a10, .ref a11, .ref a12, .ref a13, .ref a14, .ref a15, .ref a16, .ref a17, .ref a18, .int 0, .ref a19, .ref a20, .ref a21, .int 0, .int 0, .int 0, .ref a22, .ref a23, .ref a24, .ref a25, .ref a26, .ref a27, .ref a28, .ref a29, .ref a30, .ref a31, .ref a1, .int 0, .ref a32, .int 0, .ref a33, .ref a34, .ref a35, .ref a36, .ref a37, .int 0, .int 0, .int 0, .ref a38, .int 0]))]) [0] rfl
            have hD9 := hD.sub (ws' := [(a0, .inr (14, [.int 0, .int 0, .ref a2, .int 0, .ref a3, .ref a4, .ref a5, .ref a6, .int 0, .int 0, .int 0, .ref a7, .ref a8, .ref a9, .int 0, .int 0, .int 0, .int 0, .int 0, .int 0, .ref a10, .ref a11, .ref a12, .ref a13, .ref a14, .ref a15, .ref a16, .ref a17, .ref a18, .int 0, .ref a19, .ref a20, .ref a21, .int 0, .int 0, .int 0, .ref a22, .ref a23, .ref a24, .ref a25, .ref a26, .ref a27, .ref a28, .ref a29, .ref a30, .ref a31, .ref a1, .int 0, .ref a32, .int 0, .ref a33, .ref a34, .ref a35, .ref a36, .ref a37, .int 0, .int 0, .int 0, .ref a38, .int 0]))]) [0] (by decide) rfl
            exact W.zret (v := 0) (ty := .boolean) hx hb hr rfl (fun t ht hW => ⟨⟨0, 0, rfl, Or.inr (⟨rfl, rfl, by omega⟩), ⟨[.int 0, .ref a2, .int 0, .ref a3, .ref a4, .ref a5, .ref a6, .int 0, .int 0, .int 0, .ref a7, .ref a8, .ref a9, .int 0, .int 0, .int 0, .int 0, .int 0, .int 0, .ref a10, .ref a11, .ref a12, .ref a13, .ref a14, .ref a15, .ref a16, .ref a17, .ref a18, .int 0, .ref a19, .ref a20, .ref a21, .int 0, .int 0, .int 0, .ref a22, .ref a23, .ref a24, .ref a25, .ref a26, .ref a27, .ref a28, .ref a29, .ref a30, .ref a31, .ref a1, .int 0, .ref a32, .int 0, .ref a33, .ref a34, .ref a35, .ref a36, .ref a37, .int 0, .int 0, .int 0, .ref a38, .int 0], by rw [ht]; exact hP9, hD9⟩⟩, hS.F ht⟩) hS.2.2 dX12_converter_90
    · have c5 := z_nle c5
      refine lv_iload_n hx hb dX12_converter_10 rfl (lv_at hl 1 rfl) ?_
      refine lv_bipush (v := 8) hx hb dX12_converter_11 (by decide +kernel) ?_
      refine lv_icmp_lt (tgt := 41) hx hb dX12_converter_13 (by decide) (fun c24 => ?_) (fun c24 => ?_)
      · have c24 := z_lt c24
        refine lv_iconst (v := 0) hx hb dX12_converter_41 (by decide +kernel) ?_
        refine lv_istore (lv' := [(4, .int 0), (0, .ref a0), (1, .int k0), (2, .int k1), (3, .int 1)]) hx hb dX12_converter_42 hl (by decide) rfl (fun ls hl => ?_)
        refine lv_aload_n hx hb dX12_converter_44 rfl (lv_at hl 1 rfl) ?_
        refine lv_iload hx hb dX12_converter_45 (lv_at hl 0 rfl) ?_
        refine lv_if_eq (tgt := 54) hx hb dX12_converter_47 (by decide) (fun _ => ?_) (fun c25 => absurd (by decide +kernel) c25)
        refine lv_iconst (v := 1) hx hb dX12_converter_54 (by decide +kernel) ?_
        refine va_put (D := D) (ci := 14) (v := .int 1) (ty := .int) (C := RX12) (T := TX12) (N := 60) hx hb hts (fun _ h => (List.mem_append_right _ h)) tyX12 tyX12_ok nmX12 hown hK hP hD hS 0 rfl rfl 0 (by decide) (hts (.fieldLink RX12 127 "PhraseDeskModel" "threw" "I") (List.mem_of_getElem? (i := 1) rfl)) (fun _ h9 => h9) rfl (by decide +kernel) rfl rfl (Nat.le_of_ble_eq_true rfl) dX12_converter_55 (fun H locs hP hD hS => ?_)
        have hP : va_P D vwCl [(a0, .inr (14, [.int 1, .int 0, .ref a2, .int 0, .ref a3, .ref a4, .ref a5, .ref a6, .int 0, .int 0, .int 0, .ref a7, .ref a8, .ref a9, .int 0, .int 0, .int 0, .int 0, .int 0, .int 0, .ref a10, .ref a11, .ref a12, .ref a13, .ref a14, .ref a15, .ref a16, .ref a17, .ref a18, .int 0, .ref a19, .ref a20, .ref a21, .int 0, .int 0, .int 0, .ref a22, .ref a23, .ref a24, .ref a25, .ref a26, .ref a27, .ref a28, .ref a29, .ref a30, .ref a31, .ref a1, .int 0, .ref a32, .int 0, .ref a33, .ref a34, .ref a35, .ref a36, .ref a37, .int 0, .int 0, .int 0, .ref a38, .int 0])), (a1, .inl (cy 2, 65, .inl (fun _ => 0)))] H := hP
        have hD : va_D A [(a0, .inr (14, [.int 1, .int 0, .ref a2, .int 0, .ref a3, .ref a4, .ref a5, .ref a6, .int 0, .int 0, .int 0, .ref a7, .ref a8, .ref a9, .int 0, .int 0, .int 0, .int 0, .int 0, .int 0, .ref a10, .ref a11, .ref a12, .ref a13, .ref a14, .ref a15, .ref a16, .ref a17, .ref a18, .int 0, .ref a19, .ref a20, .ref a21, .int 0, .int 0, .int 0, .ref a22, .ref a23, .ref a24, .ref a25, .ref a26, .ref a27, .ref a28, .ref a29, .ref a30, .ref a31, .ref a1, .int 0, .ref a32, .int 0, .ref a33, .ref a34, .ref a35, .ref a36, .ref a37, .int 0, .int 0, .int 0, .ref a38, .int 0])), (a1, .inl (cy 2, 65, .inl (fun _ => 0)))] := hD
        refine lv_iload hx hb dX12_converter_58 (lv_at hl 0 rfl) ?_
        refine lv_if_ne (tgt := 65) hx hb dX12_converter_60 (by decide) (fun c26 => absurd (by decide +kernel) c26) (fun _ => ?_)
        refine lv_iconst (v := 0) hx hb dX12_converter_63 (by decide +kernel) ?_
        refine W.widen (k := 0) (n := 0) (Nat.le_of_ble_eq_true rfl) (Nat.le_of_ble_eq_true rfl) ?_
        have hP9 := hP.sub (ws' := [(a0, .inr (14, [.int 1, .int 0, .ref a2, .int 0, .ref a3, .ref a4, .ref a5, .ref a6, .int 0, .int 0, .int 0, .ref a7, .ref a8, .ref a9, .int 0, .int 0, .int 0, .int 0, .int 0, .int 0, .ref a10, .ref a11, .ref a12, .ref a13, .ref a14, .ref a15, .ref a16, .ref a17, .ref a18, .int 0, .ref a19, .ref a20, .ref a21, .int 0, .int 0, .int 0, .ref a22, .ref a23, .ref a24, .ref a25, .ref a26, .ref a27, .ref a28, .ref a29, .ref a30, .ref a31, .ref a1, .int 0, .ref a32, .int 0, .ref a33, .ref a34, .ref a35, .ref a36, .ref a37, .int 0, .int 0, .int 0, .ref a38, .int 0]))]) [0] rfl
        have hD9 := hD.sub (ws' := [(a0, .inr (14, [.int 1, .int 0, .ref a2, .int 0, .ref a3, .ref a4, .ref a5, .ref a6, .int 0, .int 0, .int 0, .ref a7, .ref a8, .ref a9, .int 0, .int 0, .int 0, .int 0, .int 0, .int 0, .ref a10, .ref a11, .ref a12, .ref a13, .ref a14, .ref a15, .ref a16, .ref a17, .ref a18, .int 0, .ref a19, .ref a20, .ref a21, .int 0, .int 0, .int 0, .ref a22, .ref a23, .ref a24, .ref a25, .ref a26, .ref a27, .ref a28, .ref a29, .ref a30, .ref a31, .ref a1, .int 0, .ref a32, .int 0, .ref a33, .ref a34, .ref a35, .ref a36, .ref a37, .int 0, .int 0, .int 0, .ref a38, .int 0]))]) [0] (by decide) rfl
        exact W.zret (v := 0) (ty := .boolean) hx hb hr rfl (fun t ht hW => ⟨⟨0, 1, rfl, Or.inl ⟨rfl, rfl, by omega⟩, ⟨[.int 0, .ref a2, .int 0, .ref a3, .ref a4, .ref a5, .ref a6, .int 0, .int 0, .int 0, .ref a7, .ref a8, .ref a9, .int 0, .int 0, .int 0, .int 0, .int 0, .int 0, .ref a10, .ref a11, .ref a12, .ref a13, .ref a14, .ref a15, .ref a16, .ref a17, .ref a18, .int 0, .ref a19, .ref a20, .ref a21, .int 0, .int 0, .int 0, .ref a22, .ref a23, .ref a24, .ref a25, .ref a26, .ref a27, .ref a28, .ref a29, .ref a30, .ref a31, .ref a1, .int 0, .ref a32, .int 0, .ref a33, .ref a34, .ref a35, .ref a36, .ref a37, .int 0, .int 0, .int 0, .ref a38, .int 0], by rw [ht]; exact hP9, hD9⟩⟩, hS.F ht⟩) hS.2.2 dX12_converter_64
      · have c24 := z_nlt c24
        refine lv_iload_n hx hb dX12_converter_16 rfl (lv_at hl 1 rfl) ?_
        refine lv_bipush (v := 12) hx hb dX12_converter_17 (by decide +kernel) ?_
        refine lv_icmp_gt (tgt := 41) hx hb dX12_converter_19 (by decide) (fun c27 => ?_) (fun c27 => ?_)
        · have c27 := z_lt c27
          refine lv_iconst (v := 0) hx hb dX12_converter_41 (by decide +kernel) ?_
          refine lv_istore (lv' := [(4, .int 0), (0, .ref a0), (1, .int k0), (2, .int k1), (3, .int 1)]) hx hb dX12_converter_42 hl (by decide) rfl (fun ls hl => ?_)
          refine lv_aload_n hx hb dX12_converter_44 rfl (lv_at hl 1 rfl) ?_
          refine lv_iload hx hb dX12_converter_45 (lv_at hl 0 rfl) ?_
          refine lv_if_eq (tgt := 54) hx hb dX12_converter_47 (by decide) (fun _ => ?_) (fun c28 => absurd (by decide +kernel) c28)
          refine lv_iconst (v := 1) hx hb dX12_converter_54 (by decide +kernel) ?_
          refine va_put (D := D) (ci := 14) (v := .int 1) (ty := .int) (C := RX12) (T := TX12) (N := 60) hx hb hts (fun _ h => (List.mem_append_right _ h)) tyX12 tyX12_ok nmX12 hown hK hP hD hS 0 rfl rfl 0 (by decide) (hts (.fieldLink RX12 127 "PhraseDeskModel" "threw" "I") (List.mem_of_getElem? (i := 1) rfl)) (fun _ h9 => h9) rfl (by decide +kernel) rfl rfl (Nat.le_of_ble_eq_true rfl) dX12_converter_55 (fun H locs hP hD hS => ?_)
          have hP : va_P D vwCl [(a0, .inr (14, [.int 1, .int 0, .ref a2, .int 0, .ref a3, .ref a4, .ref a5, .ref a6, .int 0, .int 0, .int 0, .ref a7, .ref a8, .ref a9, .int 0, .int 0, .int 0, .int 0, .int 0, .int 0, .ref a10, .ref a11, .ref a12, .ref a13, .ref a14, .ref a15, .ref a16, .ref a17, .ref a18, .int 0, .ref a19, .ref a20, .ref a21, .int 0, .int 0, .int 0, .ref a22, .ref a23, .ref a24, .ref a25, .ref a26, .ref a27, .ref a28, .ref a29, .ref a30, .ref a31, .ref a1, .int 0, .ref a32, .int 0, .ref a33, .ref a34, .ref a35, .ref a36, .ref a37, .int 0, .int 0, .int 0, .ref a38, .int 0])), (a1, .inl (cy 2, 65, .inl (fun _ => 0)))] H := hP
          have hD : va_D A [(a0, .inr (14, [.int 1, .int 0, .ref a2, .int 0, .ref a3, .ref a4, .ref a5, .ref a6, .int 0, .int 0, .int 0, .ref a7, .ref a8, .ref a9, .int 0, .int 0, .int 0, .int 0, .int 0, .int 0, .ref a10, .ref a11, .ref a12, .ref a13, .ref a14, .ref a15, .ref a16, .ref a17, .ref a18, .int 0, .ref a19, .ref a20, .ref a21, .int 0, .int 0, .int 0, .ref a22, .ref a23, .ref a24, .ref a25, .ref a26, .ref a27, .ref a28, .ref a29, .ref a30, .ref a31, .ref a1, .int 0, .ref a32, .int 0, .ref a33, .ref a34, .ref a35, .ref a36, .ref a37, .int 0, .int 0, .int 0, .ref a38, .int 0])), (a1, .inl (cy 2, 65, .inl (fun _ => 0)))] := hD
          refine lv_iload hx hb dX12_converter_58 (lv_at hl 0 rfl) ?_
          refine lv_if_ne (tgt := 65) hx hb dX12_converter_60 (by decide) (fun c29 => absurd (by decide +kernel) c29) (fun _ => ?_)
          refine lv_iconst (v := 0) hx hb dX12_converter_63 (by decide +kernel) ?_
          refine W.widen (k := 0) (n := 0) (Nat.le_of_ble_eq_true rfl) (Nat.le_of_ble_eq_true rfl) ?_
          have hP9 := hP.sub (ws' := [(a0, .inr (14, [.int 1, .int 0, .ref a2, .int 0, .ref a3, .ref a4, .ref a5, .ref a6, .int 0, .int 0, .int 0, .ref a7, .ref a8, .ref a9, .int 0, .int 0, .int 0, .int 0, .int 0, .int 0, .ref a10, .ref a11, .ref a12, .ref a13, .ref a14, .ref a15, .ref a16, .ref a17, .ref a18, .int 0, .ref a19, .ref a20, .ref a21, .int 0, .int 0, .int 0, .ref a22, .ref a23, .ref a24, .ref a25, .ref a26, .ref a27, .ref a28, .ref a29, .ref a30, .ref a31, .ref a1, .int 0, .ref a32, .int 0, .ref a33, .ref a34, .ref a35, .ref a36, .ref a37, .int 0, .int 0, .int 0, .ref a38, .int 0]))]) [0] rfl
          have hD9 := hD.sub (ws' := [(a0, .inr (14, [.int 1, .int 0, .ref a2, .int 0, .ref a3, .ref a4, .ref a5, .ref a6, .int 0, .int 0, .int 0, .ref a7, .ref a8, .ref a9, .int 0, .int 0, .int 0, .int 0, .int 0, .int 0, .ref a10, .ref a11, .ref a12, .ref a13, .ref a14, .ref a15, .ref a16, .ref a17, .ref a18, .int 0, .ref a19, .ref a20, .ref a21, .int 0, .int 0, .int 0, .ref a22, .ref a23, .ref a24, .ref a25, .ref a26, .ref a27, .ref a28, .ref a29, .ref a30, .ref a31, .ref a1, .int 0, .ref a32, .int 0, .ref a33, .ref a34, .ref a35, .ref a36, .ref a37, .int 0, .int 0, .int 0, .ref a38, .int 0]))]) [0] (by decide) rfl
          exact W.zret (v := 0) (ty := .boolean) hx hb hr rfl (fun t ht hW => ⟨⟨0, 1, rfl, Or.inl ⟨rfl, rfl, by omega⟩, ⟨[.int 0, .ref a2, .int 0, .ref a3, .ref a4, .ref a5, .ref a6, .int 0, .int 0, .int 0, .ref a7, .ref a8, .ref a9, .int 0, .int 0, .int 0, .int 0, .int 0, .int 0, .ref a10, .ref a11, .ref a12, .ref a13, .ref a14, .ref a15, .ref a16, .ref a17, .ref a18, .int 0, .ref a19, .ref a20, .ref a21, .int 0, .int 0, .int 0, .ref a22, .ref a23, .ref a24, .ref a25, .ref a26, .ref a27, .ref a28, .ref a29, .ref a30, .ref a31, .ref a1, .int 0, .ref a32, .int 0, .ref a33, .ref a34, .ref a35, .ref a36, .ref a37, .int 0, .int 0, .int 0, .ref a38, .int 0], by rw [ht]; exact hP9, hD9⟩⟩, hS.F ht⟩) hS.2.2 dX12_converter_64
        · have c27 := z_nlt c27
          refine lv_iload_n hx hb dX12_converter_22 rfl (lv_at hl 2 rfl) ?_
          refine lv_iconst (v := 1) hx hb dX12_converter_23 (by decide +kernel) ?_
          refine lv_icmp_lt (tgt := 41) hx hb dX12_converter_24 (by decide) (fun c30 => ?_) (fun c30 => ?_)
          · have c30 := z_lt c30
            refine lv_iconst (v := 0) hx hb dX12_converter_41 (by decide +kernel) ?_
            refine lv_istore (lv' := [(4, .int 0), (0, .ref a0), (1, .int k0), (2, .int k1), (3, .int 1)]) hx hb dX12_converter_42 hl (by decide) rfl (fun ls hl => ?_)
            refine lv_aload_n hx hb dX12_converter_44 rfl (lv_at hl 1 rfl) ?_
            refine lv_iload hx hb dX12_converter_45 (lv_at hl 0 rfl) ?_
            refine lv_if_eq (tgt := 54) hx hb dX12_converter_47 (by decide) (fun _ => ?_) (fun c31 => absurd (by decide +kernel) c31)
            refine lv_iconst (v := 1) hx hb dX12_converter_54 (by decide +kernel) ?_
            refine va_put (D := D) (ci := 14) (v := .int 1) (ty := .int) (C := RX12) (T := TX12) (N := 60) hx hb hts (fun _ h => (List.mem_append_right _ h)) tyX12 tyX12_ok nmX12 hown hK hP hD hS 0 rfl rfl 0 (by decide) (hts (.fieldLink RX12 127 "PhraseDeskModel" "threw" "I") (List.mem_of_getElem? (i := 1) rfl)) (fun _ h9 => h9) rfl (by decide +kernel) rfl rfl (Nat.le_of_ble_eq_true rfl) dX12_converter_55 (fun H locs hP hD hS => ?_)
            have hP : va_P D vwCl [(a0, .inr (14, [.int 1, .int 0, .ref a2, .int 0, .ref a3, .ref a4, .ref a5, .ref a6, .int 0, .int 0, .int 0, .ref a7, .ref a8, .ref a9, .int 0, .int 0, .int 0, .int 0, .int 0, .int 0, .ref a10, .ref a11, .ref a12, .ref a13, .ref a14, .ref a15, .ref a16, .ref a17, .ref a18, .int 0, .ref a19, .ref a20, .ref a21, .int 0, .int 0, .int 0, .ref a22, .ref a23, .ref a24, .ref a25, .ref a26, .ref a27, .ref a28, .ref a29, .ref a30, .ref a31, .ref a1, .int 0, .ref a32, .int 0, .ref a33, .ref a34, .ref a35, .ref a36, .ref a37, .int 0, .int 0, .int 0, .ref a38, .int 0])), (a1, .inl (cy 2, 65, .inl (fun _ => 0)))] H := hP
            have hD : va_D A [(a0, .inr (14, [.int 1, .int 0, .ref a2, .int 0, .ref a3, .ref a4, .ref a5, .ref a6, .int 0, .int 0, .int 0, .ref a7, .ref a8, .ref a9, .int 0, .int 0, .int 0, .int 0, .int 0, .int 0, .ref a10, .ref a11, .ref a12, .ref a13, .ref a14, .ref a15, .ref a16, .ref a17, .ref a18, .int 0, .ref a19, .ref a20, .ref a21, .int 0, .int 0, .int 0, .ref a22, .ref a23, .ref a24, .ref a25, .ref a26, .ref a27, .ref a28, .ref a29, .ref a30, .ref a31, .ref a1, .int 0, .ref a32, .int 0, .ref a33, .ref a34, .ref a35, .ref a36, .ref a37, .int 0, .int 0, .int 0, .ref a38, .int 0])), (a1, .inl (cy 2, 65, .inl (fun _ => 0)))] := hD
            refine lv_iload hx hb dX12_converter_58 (lv_at hl 0 rfl) ?_
            refine lv_if_ne (tgt := 65) hx hb dX12_converter_60 (by decide) (fun c32 => absurd (by decide +kernel) c32) (fun _ => ?_)
            refine lv_iconst (v := 0) hx hb dX12_converter_63 (by decide +kernel) ?_
            refine W.widen (k := 0) (n := 0) (Nat.le_of_ble_eq_true rfl) (Nat.le_of_ble_eq_true rfl) ?_
            have hP9 := hP.sub (ws' := [(a0, .inr (14, [.int 1, .int 0, .ref a2, .int 0, .ref a3, .ref a4, .ref a5, .ref a6, .int 0, .int 0, .int 0, .ref a7, .ref a8, .ref a9, .int 0, .int 0, .int 0, .int 0, .int 0, .int 0, .ref a10, .ref a11, .ref a12, .ref a13, .ref a14, .ref a15, .ref a16, .ref a17, .ref a18, .int 0, .ref a19, .ref a20, .ref a21, .int 0, .int 0, .int 0, .ref a22, .ref a23, .ref a24, .ref a25, .ref a26, .ref a27, .ref a28, .ref a29, .ref a30, .ref a31, .ref a1, .int 0, .ref a32, .int 0, .ref a33, .ref a34, .ref a35, .ref a36, .ref a37, .int 0, .int 0, .int 0, .ref a38, .int 0]))]) [0] rfl
            have hD9 := hD.sub (ws' := [(a0, .inr (14, [.int 1, .int 0, .ref a2, .int 0, .ref a3, .ref a4, .ref a5, .ref a6, .int 0, .int 0, .int 0, .ref a7, .ref a8, .ref a9, .int 0, .int 0, .int 0, .int 0, .int 0, .int 0, .ref a10, .ref a11, .ref a12, .ref a13, .ref a14, .ref a15, .ref a16, .ref a17, .ref a18, .int 0, .ref a19, .ref a20, .ref a21, .int 0, .int 0, .int 0, .ref a22, .ref a23, .ref a24, .ref a25, .ref a26, .ref a27, .ref a28, .ref a29, .ref a30, .ref a31, .ref a1, .int 0, .ref a32, .int 0, .ref a33, .ref a34, .ref a35, .ref a36, .ref a37, .int 0, .int 0, .int 0, .ref a38, .int 0]))]) [0] (by decide) rfl
            exact W.zret (v := 0) (ty := .boolean) hx hb hr rfl (fun t ht hW => ⟨⟨0, 1, rfl, Or.inl ⟨rfl, rfl, by omega⟩, ⟨[.int 0, .ref a2, .int 0, .ref a3, .ref a4, .ref a5, .ref a6, .int 0, .int 0, .int 0, .ref a7, .ref a8, .ref a9, .int 0, .int 0, .int 0, .int 0, .int 0, .int 0, .ref a10, .ref a11, .ref a12, .ref a13, .ref a14, .ref a15, .ref a16, .ref a17, .ref a18, .int 0, .ref a19, .ref a20, .ref a21, .int 0, .int 0, .int 0, .ref a22, .ref a23, .ref a24, .ref a25, .ref a26, .ref a27, .ref a28, .ref a29, .ref a30, .ref a31, .ref a1, .int 0, .ref a32, .int 0, .ref a33, .ref a34, .ref a35, .ref a36, .ref a37, .int 0, .int 0, .int 0, .ref a38, .int 0], by rw [ht]; exact hP9, hD9⟩⟩, hS.F ht⟩) hS.2.2 dX12_converter_64
          · have c30 := z_nlt c30
            refine lv_iload_n hx hb dX12_converter_27 rfl (lv_at hl 2 rfl) ?_
            refine lv_iconst (v := 4) hx hb dX12_converter_28 (by decide +kernel) ?_
            refine lv_icmp_gt (tgt := 41) hx hb dX12_converter_29 (by decide) (fun c33 => ?_) (fun c33 => ?_)
            · have c33 := z_lt c33
              refine lv_iconst (v := 0) hx hb dX12_converter_41 (by decide +kernel) ?_
              refine lv_istore (lv' := [(4, .int 0), (0, .ref a0), (1, .int k0), (2, .int k1), (3, .int 1)]) hx hb dX12_converter_42 hl (by decide) rfl (fun ls hl => ?_)
              refine lv_aload_n hx hb dX12_converter_44 rfl (lv_at hl 1 rfl) ?_
              refine lv_iload hx hb dX12_converter_45 (lv_at hl 0 rfl) ?_
              refine lv_if_eq (tgt := 54) hx hb dX12_converter_47 (by decide) (fun _ => ?_) (fun c34 => absurd (by decide +kernel) c34)
              refine lv_iconst (v := 1) hx hb dX12_converter_54 (by decide +kernel) ?_
              refine va_put (D := D) (ci := 14) (v := .int 1) (ty := .int) (C := RX12) (T := TX12) (N := 60) hx hb hts (fun _ h => (List.mem_append_right _ h)) tyX12 tyX12_ok nmX12 hown hK hP hD hS 0 rfl rfl 0 (by decide) (hts (.fieldLink RX12 127 "PhraseDeskModel" "threw" "I") (List.mem_of_getElem? (i := 1) rfl)) (fun _ h9 => h9) rfl (by decide +kernel) rfl rfl (Nat.le_of_ble_eq_true rfl) dX12_converter_55 (fun H locs hP hD hS => ?_)
              have hP : va_P D vwCl [(a0, .inr (14, [.int 1, .int 0, .ref a2, .int 0, .ref a3, .ref a4, .ref a5, .ref a6, .int 0, .int 0, .int 0, .ref a7, .ref a8, .ref a9, .int 0, .int 0, .int 0, .int 0, .int 0, .int 0, .ref a10, .ref a11, .ref a12, .ref a13, .ref a14, .ref a15, .ref a16, .ref a17, .ref a18, .int 0, .ref a19, .ref a20, .ref a21, .int 0, .int 0, .int 0, .ref a22, .ref a23, .ref a24, .ref a25, .ref a26, .ref a27, .ref a28, .ref a29, .ref a30, .ref a31, .ref a1, .int 0, .ref a32, .int 0, .ref a33, .ref a34, .ref a35, .ref a36, .ref a37, .int 0, .int 0, .int 0, .ref a38, .int 0])), (a1, .inl (cy 2, 65, .inl (fun _ => 0)))] H := hP
              have hD : va_D A [(a0, .inr (14, [.int 1, .int 0, .ref a2, .int 0, .ref a3, .ref a4, .ref a5, .ref a6, .int 0, .int 0, .int 0, .ref a7, .ref a8, .ref a9, .int 0, .int 0, .int 0, .int 0, .int 0, .int 0, .ref a10, .ref a11, .ref a12, .ref a13, .ref a14, .ref a15, .ref a16, .ref a17, .ref a18, .int 0, .ref a19, .ref a20, .ref a21, .int 0, .int 0, .int 0, .ref a22, .ref a23, .ref a24, .ref a25, .ref a26, .ref a27, .ref a28, .ref a29, .ref a30, .ref a31, .ref a1, .int 0, .ref a32, .int 0, .ref a33, .ref a34, .ref a35, .ref a36, .ref a37, .int 0, .int 0, .int 0, .ref a38, .int 0])), (a1, .inl (cy 2, 65, .inl (fun _ => 0)))] := hD
              refine lv_iload hx hb dX12_converter_58 (lv_at hl 0 rfl) ?_
              refine lv_if_ne (tgt := 65) hx hb dX12_converter_60 (by decide) (fun c35 => absurd (by decide +kernel) c35) (fun _ => ?_)
              refine lv_iconst (v := 0) hx hb dX12_converter_63 (by decide +kernel) ?_
              refine W.widen (k := 0) (n := 0) (Nat.le_of_ble_eq_true rfl) (Nat.le_of_ble_eq_true rfl) ?_
              have hP9 := hP.sub (ws' := [(a0, .inr (14, [.int 1, .int 0, .ref a2, .int 0, .ref a3, .ref a4, .ref a5, .ref a6, .int 0, .int 0, .int 0, .ref a7, .ref a8, .ref a9, .int 0, .int 0, .int 0, .int 0, .int 0, .int 0, .ref a10, .ref a11, .ref a12, .ref a13, .ref a14, .ref a15, .ref a16, .ref a17, .ref a18, .int 0, .ref a19, .ref a20, .ref a21, .int 0, .int 0, .int 0, .ref a22, .ref a23, .ref a24, .ref a25, .ref a26, .ref a27, .ref a28, .ref a29, .ref a30, .ref a31, .ref a1, .int 0, .ref a32, .int 0, .ref a33, .ref a34, .ref a35, .ref a36, .ref a37, .int 0, .int 0, .int 0, .ref a38, .int 0]))]) [0] rfl
              have hD9 := hD.sub (ws' := [(a0, .inr (14, [.int 1, .int 0, .ref a2, .int 0, .ref a3, .ref a4, .ref a5, .ref a6, .int 0, .int 0, .int 0, .ref a7, .ref a8, .ref a9, .int 0, .int 0, .int 0, .int 0, .int 0, .int 0, .ref a10, .ref a11, .ref a12, .ref a13, .ref a14, .ref a15, .ref a16, .ref a17, .ref a18, .int 0, .ref a19, .ref a20, .ref a21, .int 0, .int 0, .int 0, .ref a22, .ref a23, .ref a24, .ref a25, .ref a26, .ref a27, .ref a28, .ref a29, .ref a30, .ref a31, .ref a1, .int 0, .ref a32, .int 0, .ref a33, .ref a34, .ref a35, .ref a36, .ref a37, .int 0, .int 0, .int 0, .ref a38, .int 0]))]) [0] (by decide) rfl
              exact W.zret (v := 0) (ty := .boolean) hx hb hr rfl (fun t ht hW => ⟨⟨0, 1, rfl, Or.inl ⟨rfl, rfl, by omega⟩, ⟨[.int 0, .ref a2, .int 0, .ref a3, .ref a4, .ref a5, .ref a6, .int 0, .int 0, .int 0, .ref a7, .ref a8, .ref a9, .int 0, .int 0, .int 0, .int 0, .int 0, .int 0, .ref a10, .ref a11, .ref a12, .ref a13, .ref a14, .ref a15, .ref a16, .ref a17, .ref a18, .int 0, .ref a19, .ref a20, .ref a21, .int 0, .int 0, .int 0, .ref a22, .ref a23, .ref a24, .ref a25, .ref a26, .ref a27, .ref a28, .ref a29, .ref a30, .ref a31, .ref a1, .int 0, .ref a32, .int 0, .ref a33, .ref a34, .ref a35, .ref a36, .ref a37, .int 0, .int 0, .int 0, .ref a38, .int 0], by rw [ht]; exact hP9, hD9⟩⟩, hS.F ht⟩) hS.2.2 dX12_converter_64
            · have c33 := z_nlt c33
              refine lv_iload_n hx hb dX12_converter_32 rfl (lv_at hl 1 rfl) ?_
              refine lv_iload_n hx hb dX12_converter_33 rfl (lv_at hl 2 rfl) ?_
              refine lv_icmp_eq (tgt := 41) hx hb dX12_converter_34 (by decide) (fun c36 => ?_) (fun c36 => ?_)
              · have c36 := z_eq c36
                exfalso
                omega
              · have c36 := z_ne c36
                refine lv_iconst (v := 1) hx hb dX12_converter_37 (by decide +kernel) ?_
                refine lv_goto (tgt := 42) hx hb dX12_converter_38 (by decide) ?_
                refine lv_istore (lv' := [(4, .int 1), (0, .ref a0), (1, .int k0), (2, .int k1), (3, .int 1)]) hx hb dX12_converter_42 hl (by decide) rfl (fun ls hl => ?_)
                refine lv_aload_n hx hb dX12_converter_44 rfl (lv_at hl 1 rfl) ?_
                refine lv_iload hx hb dX12_converter_45 (lv_at hl 0 rfl) ?_
                refine lv_if_eq (tgt := 54) hx hb dX12_converter_47 (by decide) (fun c37 => absurd c37 (by decide +kernel)) (fun _ => ?_)
                refine lv_iconst (v := 0) hx hb dX12_converter_50 (by decide +kernel) ?_
                refine lv_goto (tgt := 55) hx hb dX12_converter_51 (by decide) ?_
                refine va_put (D := D) (ci := 14) (v := .int 0) (ty := .int) (C := RX12) (T := TX12) (N := 60) hx hb hts (fun _ h => (List.mem_append_right _ h)) tyX12 tyX12_ok nmX12 hown hK hP hD hS 0 rfl rfl 0 (by decide) (hts (.fieldLink RX12 127 "PhraseDeskModel" "threw" "I") (List.mem_of_getElem? (i := 1) rfl)) (fun _ h9 => h9) rfl (by decide +kernel) rfl rfl (Nat.le_of_ble_eq_true rfl) dX12_converter_55 (fun H locs hP hD hS => ?_)
                have hP : va_P D vwCl [(a0, .inr (14, [.int 0, .int 0, .ref a2, .int 0, .ref a3, .ref a4, .ref a5, .ref a6, .int 0, .int 0, .int 0, .ref a7, .ref a8, .ref a9, .int 0, .int 0, .int 0, .int 0, .int 0, .int 0, .ref a10, .ref a11, .ref a12, .ref a13, .ref a14, .ref a15, .ref a16, .ref a17, .ref a18, .int 0, .ref a19, .ref a20, .ref a21, .int 0, .int 0, .int 0, .ref a22, .ref a23, .ref a24, .ref a25, .ref a26, .ref a27, .ref a28, .ref a29, .ref a30, .ref a31, .ref a1, .int 0, .ref a32, .int 0, .ref a33, .ref a34, .ref a35, .ref a36, .ref a37, .int 0, .int 0, .int 0, .ref a38, .int 0])), (a1, .inl (cy 2, 65, .inl (fun _ => 0)))] H := hP
                have hD : va_D A [(a0, .inr (14, [.int 0, .int 0, .ref a2, .int 0, .ref a3, .ref a4, .ref a5, .ref a6, .int 0, .int 0, .int 0, .ref a7, .ref a8, .ref a9, .int 0, .int 0, .int 0, .int 0, .int 0, .int 0, .ref a10, .ref a11, .ref a12, .ref a13, .ref a14, .ref a15, .ref a16, .ref a17, .ref a18, .int 0, .ref a19, .ref a20, .ref a21, .int 0, .int 0, .int 0, .ref a22, .ref a23, .ref a24, .ref a25, .ref a26, .ref a27, .ref a28, .ref a29, .ref a30, .ref a31, .ref a1, .int 0, .ref a32, .int 0, .ref a33, .ref a34, .ref a35, .ref a36, .ref a37, .int 0, .int 0, .int 0, .ref a38, .int 0])), (a1, .inl (cy 2, 65, .inl (fun _ => 0)))] := hD
                refine lv_iload hx hb dX12_converter_58 (lv_at hl 0 rfl) ?_
                refine lv_if_ne (tgt := 65) hx hb dX12_converter_60 (by decide) (fun _ => ?_) (fun c38 => absurd c38 (by decide +kernel))
                refine lv_aload_n hx hb dX12_converter_65 rfl (lv_at hl 1 rfl) ?_
                refine va_get (D := D) (ci := 14) (v := .ref a1) (C := RX12) (T := TX12) (N := 60) hx hb hts (fun _ h => (List.mem_append_right _ h)) hown hK hP 0 rfl rfl 46 (by decide) (hts (.fieldLink RX12 102 "PhraseDeskModel" "converts" "[Z") (List.mem_of_getElem? (i := 2) rfl)) (fun _ h9 => h9) rfl dX12_converter_66 ?_
                refine lv_iconst (v := 5) hx hb dX12_converter_69 (by decide +kernel) ?_
                refine lv_iload_n hx hb dX12_converter_70 rfl (lv_at hl 2 rfl) ?_
                refine lv_imul hx hb dX12_converter_71 ?_
                refine lv_topi (fun x39 ex39 => ?_)
                have tx39 : x39.toInt = 5 * k0.toInt := by rw [ex39, z_mulc 5 (by decide +kernel) (by omega) (by omega)]; first | done | omega
                refine lv_iload_n hx hb dX12_converter_72 rfl (lv_at hl 3 rfl) ?_
                refine lv_iadd hx hb dX12_converter_73 ?_
                refine lv_topi (fun x40 ex40 => ?_)
                have tx40 : x40.toInt = 5 * k0.toInt + 1 * k1.toInt := by rw [ex40, z_add (by omega) (by omega)]; first | done | omega
                have b42 : vp_in x40 65 := vp_in_iff.mpr ⟨by omega, by omega⟩
                refine va_zald hx hb hK hP 1 2 rfl rfl b42 dX12_converter_74 ?_
                refine lv_topi (fun x41 ex41 => ?_)
                obtain rfl : x41 = 0 := ex41
                refine lv_istore (lv' := [(5, .int 0), (4, .int 1), (0, .ref a0), (1, .int k0), (2, .int k1), (3, .int 1)]) hx hb dX12_converter_75 hl (by decide) rfl (fun ls hl => ?_)
                refine lv_aload_n hx hb dX12_converter_77 rfl (lv_at hl 2 rfl) ?_
                refine va_get (D := D) (ci := 14) (v := .ref a1) (C := RX12) (T := TX12) (N := 60) hx hb hts (fun _ h => (List.mem_append_right _ h)) hown hK hP 0 rfl rfl 46 (by decide) (hts (.fieldLink RX12 102 "PhraseDeskModel" "converts" "[Z") (List.mem_of_getElem? (i := 2) rfl)) (fun _ h9 => h9) rfl dX12_converter_78 ?_
                refine lv_iconst (v := 5) hx hb dX12_converter_81 (by decide +kernel) ?_
                refine lv_iload_n hx hb dX12_converter_82 rfl (lv_at hl 3 rfl) ?_
                refine lv_imul hx hb dX12_converter_83 ?_
                refine lv_topi (fun x43 ex43 => ?_)
                have tx43 : x43.toInt = 5 * k0.toInt := by rw [ex43, z_mulc 5 (by decide +kernel) (by omega) (by omega)]; first | done | omega
                refine lv_iload_n hx hb dX12_converter_84 rfl (lv_at hl 4 rfl) ?_
                refine lv_iadd hx hb dX12_converter_85 ?_
                refine lv_topi (fun x44 ex44 => ?_)
                have tx44 : x44.toInt = 5 * k0.toInt + 1 * k1.toInt := by rw [ex44, z_add (by omega) (by omega)]; first | done | omega
                refine lv_iload_n hx hb dX12_converter_86 rfl (lv_at hl 5 rfl) ?_
                have b45 : vp_in x44 65 := vp_in_iff.mpr ⟨by omega, by omega⟩
                refine va_zast hx hb hK hP hD hS 1 2 rfl rfl b45 dX12_converter_87 (fun H locs hP hD hS => ?_)
                have hP : va_P D vwCl [(a0, .inr (14, [.int 0, .int 0, .ref a2, .int 0, .ref a3, .ref a4, .ref a5, .ref a6, .int 0, .int 0, .int 0, .ref a7, .ref a8, .ref a9, .int 0, .int 0, .int 0, .int 0, .int 0, .int 0, .ref a10, .ref a11, .ref a12, .ref a13, .ref a14, .ref a15, .ref a16, .ref a17, .ref a18, .int 0, .ref a19, .ref a20, .ref a21, .int 0, .int 0, .int 0, .ref a22, .ref a23, .ref a24, .ref a25, .ref a26, .ref a27, .ref a28, .ref a29, .ref a30, .ref a31, .ref a1, .int 0, .ref a32, .int 0, .ref a33, .ref a34, .ref a35, .ref a36, .ref a37, .int 0, .int 0, .int 0, .ref a38, .int 0])), (a1, .inl (cy 2, 65, .inl (upd (fun _ => 0) (x44).toNatClampNeg (vp_nar .boolean 1))))] H := hP
                have hD : va_D A [(a0, .inr (14, [.int 0, .int 0, .ref a2, .int 0, .ref a3, .ref a4, .ref a5, .ref a6, .int 0, .int 0, .int 0, .ref a7, .ref a8, .ref a9, .int 0, .int 0, .int 0, .int 0, .int 0, .int 0, .ref a10, .ref a11, .ref a12, .ref a13, .ref a14, .ref a15, .ref a16, .ref a17, .ref a18, .int 0, .ref a19, .ref a20, .ref a21, .int 0, .int 0, .int 0, .ref a22, .ref a23, .ref a24, .ref a25, .ref a26, .ref a27, .ref a28, .ref a29, .ref a30, .ref a31, .ref a1, .int 0, .ref a32, .int 0, .ref a33, .ref a34, .ref a35, .ref a36, .ref a37, .int 0, .int 0, .int 0, .ref a38, .int 0])), (a1, .inl (cy 2, 65, .inl (upd (fun _ => 0) (x44).toNatClampNeg (vp_nar .boolean 1))))] := hD
                refine lv_iload hx hb dX12_converter_88 (lv_at hl 0 rfl) ?_
                refine W.widen (k := 0) (n := 0) (Nat.le_of_ble_eq_true rfl) (Nat.le_of_ble_eq_true rfl) ?_
                have hP9 := hP.sub (ws' := [(a0, .inr (14, [.int 0, .int 0, .ref a2, .int 0, .ref a3, .ref a4, .ref a5, .ref a6, .int 0, .int 0, .int 0, .ref a7, .ref a8, .ref a9, .int 0, .int 0, .int 0, .int 0, .int 0, .int 0, .ref a10, .ref a11, .ref a12, .ref a13, .ref a14, .ref a15, .ref a16, .ref a17, .ref a18, .int 0, .ref a19, .ref a20, .ref a21, .int 0, .int 0, .int 0, .ref a22, .ref a23, .ref a24, .ref a25, .ref a26, .ref a27, .ref a28, .ref a29, .ref a30, .ref a31, .ref a1, .int 0, .ref a32, .int 0, .ref a33, .ref a34, .ref a35, .ref a36, .ref a37, .int 0, .int 0, .int 0, .ref a38, .int 0]))]) [0] rfl
                have hD9 := hD.sub (ws' := [(a0, .inr (14, [.int 0, .int 0, .ref a2, .int 0, .ref a3, .ref a4, .ref a5, .ref a6, .int 0, .int 0, .int 0, .ref a7, .ref a8, .ref a9, .int 0, .int 0, .int 0, .int 0, .int 0, .int 0, .ref a10, .ref a11, .ref a12, .ref a13, .ref a14, .ref a15, .ref a16, .ref a17, .ref a18, .int 0, .ref a19, .ref a20, .ref a21, .int 0, .int 0, .int 0, .ref a22, .ref a23, .ref a24, .ref a25, .ref a26, .ref a27, .ref a28, .ref a29, .ref a30, .ref a31, .ref a1, .int 0, .ref a32, .int 0, .ref a33, .ref a34, .ref a35, .ref a36, .ref a37, .int 0, .int 0, .int 0, .ref a38, .int 0]))]) [0] (by decide) rfl
                exact W.zret (v := 0) (ty := .boolean) hx hb hr rfl (fun t ht hW => ⟨⟨0, 0, rfl, Or.inr (⟨rfl, rfl, by omega⟩), ⟨[.int 0, .ref a2, .int 0, .ref a3, .ref a4, .ref a5, .ref a6, .int 0, .int 0, .int 0, .ref a7, .ref a8, .ref a9, .int 0, .int 0, .int 0, .int 0, .int 0, .int 0, .ref a10, .ref a11, .ref a12, .ref a13, .ref a14, .ref a15, .ref a16, .ref a17, .ref a18, .int 0, .ref a19, .ref a20, .ref a21, .int 0, .int 0, .int 0, .ref a22, .ref a23, .ref a24, .ref a25, .ref a26, .ref a27, .ref a28, .ref a29, .ref a30, .ref a31, .ref a1, .int 0, .ref a32, .int 0, .ref a33, .ref a34, .ref a35, .ref a36, .ref a37, .int 0, .int 0, .int 0, .ref a38, .int 0], by rw [ht]; exact hP9, hD9⟩⟩, hS.F ht⟩) hS.2.2 dX12_converter_90
