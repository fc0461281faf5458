set_option maxHeartbeats 1000000 in
set_option maxRecDepth 100000 in
theorem C_X0_isThere_1 (l : Launch) (D : va_G) (cy : Nat → ClassId) (sz0 : Nat) (sa : Nat → Nat) (a0 a1 a2 : Nat) (sz : Nat) (k0 : Int32) (k1 : Int32) : Met l yX0_isThere wsX0_isThere ({ frames := 0, cells := 0, slots := 0, locals := 0 }) (PcW D cy sz0 sa [.ref a0, .int k0, .int k1] [(a0, .inr (2, [.ref a1, .ref a2])), (a1, .inl (cy 2, 65, .inl (fun _ => 0)))] sz) (va_Qi (fun (r : Int32) (u : Unit) => r = 0) (fun (u : Unit) (t : State) => BW D [(a0, .inr (2, [.ref a1, .ref a2])), (a1, .inl (cy 2, 65, .inl (fun _ => 0)))] (va_A [(a0, .inr (2, [.ref a1, .ref a2])), (a1, .inl (cy 2, 65, .inl (fun _ => 0)))] sz) t) (va_A [(a0, .inr (2, [.ref a1, .ref a2])), (a1, .inl (cy 2, 65, .inl (fun _ => 0)))] sz)) 0 0 (va_A [(a0, .inr (2, [.ref a1, .ref a2])), (a1, .inl (cy 2, 65, .inl (fun _ => 0)))] sz) := by
  refine Met.ofW (cc := cX0_isThere) (maxL := 4) (ret := (some .boolean)) (by decide) rfl ?_
  intro p e s m args below meth c s₁ B hml hv
  obtain ⟨rfl, hsz, hP, hD0, hE⟩ := hv
  have hx := B.exec
  have hb := B.bytes
  have hr := B.returns
  have hts := atoms_spec (ws := wsX0_isThere) B.pre
  have hown : s.vm.findClass RX0 = some m.cls := findClass_of_methodNamed B.named
  have hlocks := B.notSynchronized
  subst hsz
  have hK := hE.1
  have hAm := hE.2.2.1
  have hWm := hE.2.2.2
  have hAO := hWm.2.2.2.1
  have hD := hD0.self (sz := s.heap.size)
  have hAF := frA hD0 hE.2.1
  generalize hAe : va_A [(a0, .inr (2, [.ref a1, .ref a2])), (a1, .inl (cy 2, 65, .inl (fun _ => 0)))] s.heap.size = A at hD hAF ⊢
  have hA : ∀ q : Nat, s.heap.size ≤ q → A q := fun q h => by rw [← hAe]; exact Or.inr h
  have hS : va_S A s.heap s.heap [] := va_S.rf
  have hl := lv_entry ([.ref a0, .int k0, .int k1]) (n := 4) (Nat.le_of_ble_eq_true rfl)
  rw [lg_entry_eq]
  generalize (lg_sl ([.ref a0, .int k0, .int k1]) ++ List.replicate (4 - (lg_sl ([.ref a0, .int k0, .int k1])).length) Slot.unset).toArray = ls at hl ⊢
  have hl : lv_has ls 4 [(0, .ref a0), (1, .int k0), (2, .int k1)] := hl
  have hP : va_P D vwCl [(a0, .inr (2, [.ref a1, .ref a2])), (a1, .inl (cy 2, 65, .inl (fun _ => 0)))] s.heap := hP
  have z0 : (0 : Int32).toInt = 0 := by decide +kernel
  have z1 : (1 : Int32).toInt = 1 := by decide +kernel
  have z4 : (4 : Int32).toInt = 4 := by decide +kernel
  have z65 : (65 : Int32).toInt = 65 := by decide +kernel
  refine lv_iload_n hx hb dX0_isThere_0 rfl (lv_at hl 1 rfl) ?_
  refine lv_iconst (v := 5) hx hb dX0_isThere_1 (by decide +kernel) ?_
  refine lv_imul hx hb dX0_isThere_2 ?_
  refine lv_topi (fun x1 ex1 => ?_)
  refine lv_iload_n hx hb dX0_isThere_3 rfl (lv_at hl 2 rfl) ?_
  refine lv_iadd hx hb dX0_isThere_4 ?_
  refine lv_topi (fun x2 ex2 => ?_)
  refine lv_istore_n (lv' := [(3, .int x2), (0, .ref a0), (1, .int k0), (2, .int k1)]) hx hb dX0_isThere_5 rfl hl (by decide) rfl (fun ls hl => ?_)
  refine lv_iload_n hx hb dX0_isThere_6 rfl (lv_at hl 3 rfl) ?_
  refine lv_iconst (v := 1) hx hb dX0_isThere_7 (by decide +kernel) ?_
  refine lv_icmp_lt (tgt := 42) hx hb dX0_isThere_8 (by decide) (fun c3 => ?_) (fun c3 => ?_)
  · have c3 := z_lt c3
    refine lv_iconst (v := 0) hx hb dX0_isThere_42 (by decide +kernel) ?_
    refine W.widen (k := 0) (n := 0) (Nat.le_of_ble_eq_true rfl) (Nat.le_of_ble_eq_true rfl) ?_
    have hP9 := hP.sub (ws' := [(a0, .inr (2, [.ref a1, .ref a2])), (a1, .inl (cy 2, 65, .inl (fun _ => 0)))]) [0, 1] rfl
    have hD9 := hD.sub (ws' := [(a0, .inr (2, [.ref a1, .ref a2])), (a1, .inl (cy 2, 65, .inl (fun _ => 0)))]) [0, 1] (by decide) rfl
    exact W.zret (v := 0) (ty := .boolean) hx hb hr rfl (fun t ht hW => ⟨⟨0, (), rfl, rfl, ⟨by rw [ht]; exact hP9, hD9⟩⟩, hS.F ht⟩) hS.2.2 dX0_isThere_43
  · have c3 := z_nlt c3
    refine lv_iload_n hx hb dX0_isThere_11 rfl (lv_at hl 3 rfl) ?_
    refine lv_iconst (v := 4) hx hb dX0_isThere_12 (by decide +kernel) ?_
    refine lv_icmp_gt (tgt := 42) hx hb dX0_isThere_13 (by decide) (fun c4 => ?_) (fun c4 => ?_)
    · have c4 := z_lt c4
      refine lv_iconst (v := 0) hx hb dX0_isThere_42 (by decide +kernel) ?_
      refine W.widen (k := 0) (n := 0) (Nat.le_of_ble_eq_true rfl) (Nat.le_of_ble_eq_true rfl) ?_
      have hP9 := hP.sub (ws' := [(a0, .inr (2, [.ref a1, .ref a2])), (a1, .inl (cy 2, 65, .inl (fun _ => 0)))]) [0, 1] rfl
      have hD9 := hD.sub (ws' := [(a0, .inr (2, [.ref a1, .ref a2])), (a1, .inl (cy 2, 65, .inl (fun _ => 0)))]) [0, 1] (by decide) rfl
      exact W.zret (v := 0) (ty := .boolean) hx hb hr rfl (fun t ht hW => ⟨⟨0, (), rfl, rfl, ⟨by rw [ht]; exact hP9, hD9⟩⟩, hS.F ht⟩) hS.2.2 dX0_isThere_43
    · have c4 := z_nlt c4
      refine lv_iload_n hx hb dX0_isThere_16 rfl (lv_at hl 0 rfl) ?_
      refine lv_if_lt (tgt := 42) hx hb dX0_isThere_17 (by decide) (fun c5 => ?_) (fun c5 => ?_)
      · have c5 := z_lt c5
        refine lv_iconst (v := 0) hx hb dX0_isThere_42 (by decide +kernel) ?_
        refine W.widen (k := 0) (n := 0) (Nat.le_of_ble_eq_true rfl) (Nat.le_of_ble_eq_true rfl) ?_
        have hP9 := hP.sub (ws' := [(a0, .inr (2, [.ref a1, .ref a2])), (a1, .inl (cy 2, 65, .inl (fun _ => 0)))]) [0, 1] rfl
        have hD9 := hD.sub (ws' := [(a0, .inr (2, [.ref a1, .ref a2])), (a1, .inl (cy 2, 65, .inl (fun _ => 0)))]) [0, 1] (by decide) rfl
        exact W.zret (v := 0) (ty := .boolean) hx hb hr rfl (fun t ht hW => ⟨⟨0, (), rfl, rfl, ⟨by rw [ht]; exact hP9, hD9⟩⟩, hS.F ht⟩) hS.2.2 dX0_isThere_43
      · have c5 := z_nlt c5
        refine lv_iload_n hx hb dX0_isThere_20 rfl (lv_at hl 0 rfl) ?_
        refine lv_aload_n hx hb dX0_isThere_21 rfl (lv_at hl 1 rfl) ?_
        refine va_get (D := D) (ci := 2) (v := .ref a1) (C := RX0) (T := TX0) (N := 2) hx hb hts (fun _ h => List.mem_cons_of_mem _ (List.mem_append_right _ h)) hown hK hP 0 rfl rfl 0 (by decide) (hts (.fieldLink RX0 11 "PhraseDesk$Converters" "there" "[Z") (List.mem_of_getElem? (i := 1) rfl)) (fun _ h9 => h9) rfl dX0_isThere_22 ?_
        refine va_alen (v := 65) hx hb hK hP 1 2 rfl rfl rfl dX0_isThere_25 ?_
        refine lv_icmp_ge (tgt := 42) hx hb dX0_isThere_26 (by decide) (fun c6 => ?_) (fun c6 => ?_)
        · have c6 := z_le c6
          refine lv_iconst (v := 0) hx hb dX0_isThere_42 (by decide +kernel) ?_
          refine W.widen (k := 0) (n := 0) (Nat.le_of_ble_eq_true rfl) (Nat.le_of_ble_eq_true rfl) ?_
          have hP9 := hP.sub (ws' := [(a0, .inr (2, [.ref a1, .ref a2])), (a1, .inl (cy 2, 65, .inl (fun _ => 0)))]) [0, 1] rfl
          have hD9 := hD.sub (ws' := [(a0, .inr (2, [.ref a1, .ref a2])), (a1, .inl (cy 2, 65, .inl (fun _ => 0)))]) [0, 1] (by decide) rfl
          exact W.zret (v := 0) (ty := .boolean) hx hb hr rfl (fun t ht hW => ⟨⟨0, (), rfl, rfl, ⟨by rw [ht]; exact hP9, hD9⟩⟩, hS.F ht⟩) hS.2.2 dX0_isThere_43
        · have c6 := z_nle c6
          refine lv_aload_n hx hb dX0_isThere_29 rfl (lv_at hl 1 rfl) ?_
          refine va_get (D := D) (ci := 2) (v := .ref a1) (C := RX0) (T := TX0) (N := 2) hx hb hts (fun _ h => List.mem_cons_of_mem _ (List.mem_append_right _ h)) hown hK hP 0 rfl rfl 0 (by decide) (hts (.fieldLink RX0 11 "PhraseDesk$Converters" "there" "[Z") (List.mem_of_getElem? (i := 1) rfl)) (fun _ h9 => h9) rfl dX0_isThere_30 ?_
          refine lv_iload_n hx hb dX0_isThere_33 rfl (lv_at hl 0 rfl) ?_
          have b8 : vp_in x2 65 := vp_in_iff.mpr ⟨by omega, by omega⟩
          refine va_zald hx hb hK hP 1 2 rfl rfl b8 dX0_isThere_34 ?_
          refine lv_topi (fun x7 ex7 => ?_)
          obtain rfl : x7 = 0 := ex7
          refine lv_if_eq (tgt := 42) hx hb dX0_isThere_35 (by decide) (fun _ => ?_) (fun c9 => absurd (by decide +kernel) c9)
          refine lv_iconst (v := 0) hx hb dX0_isThere_42 (by decide +kernel) ?_
          refine W.widen (k := 0) (n := 0) (Nat.le_of_ble_eq_true rfl) (Nat.le_of_ble_eq_true rfl) ?_
          have hP9 := hP.sub (ws' := [(a0, .inr (2, [.ref a1, .ref a2])), (a1, .inl (cy 2, 65, .inl (fun _ => 0)))]) [0, 1] rfl
          have hD9 := hD.sub (ws' := [(a0, .inr (2, [.ref a1, .ref a2])), (a1, .inl (cy 2, 65, .inl (fun _ => 0)))]) [0, 1] (by decide) rfl
          exact W.zret (v := 0) (ty := .boolean) hx hb hr rfl (fun t ht hW => ⟨⟨0, (), rfl, rfl, ⟨by rw [ht]; exact hP9, hD9⟩⟩, hS.F ht⟩) hS.2.2 dX0_isThere_43

set_option maxHeartbeats 1000000 in
set_option maxRecDepth 100000 in
theorem C_X0_change_1 (l : Launch) (D : va_G) (cy : Nat → ClassId) (sz0 : Nat) (sa : Nat → Nat) (a0 a1 a2 : Nat) (sz : Nat) (k0 : Int32) (k1 : Int32) (k2 : Int32) : Met l yX0_change wsX0_change ({ frames := 1, cells := 0, slots := 0, locals := 23 }) (PcW D cy sz0 sa [.ref a0, .int k0, .int k1, .int k2] [(a0, .inr (2, [.ref a1, .ref a2])), (a1, .inl (cy 2, 65, .inl (fun _ => 0)))] sz) (va_Qi (fun (r : Int32) (u : Unit) => r = 0) (fun (_ : Unit) (_ : State) => True) (va_A [(a0, .inr (2, [.ref a1, .ref a2])), (a1, .inl (cy 2, 65, .inl (fun _ => 0)))] sz)) 0 0 (va_A [(a0, .inr (2, [.ref a1, .ref a2])), (a1, .inl (cy 2, 65, .inl (fun _ => 0)))] sz) := by
  refine Met.ofW (cc := cX0_change) (maxL := 6) (ret := (some .boolean)) (by decide) rfl ?_
  intro p e s m args below meth c s₁ B hml hv
  obtain ⟨rfl, hsz, hP, hD0, hE⟩ := hv
  have hx := B.exec
  have hb := B.bytes
  have hr := B.returns
  have hts := atoms_spec (ws := wsX0_change) B.pre
  have hown : s.vm.findClass RX0 = some m.cls := findClass_of_methodNamed B.named
  have hlocks := B.notSynchronized
  subst hsz
  have hK := hE.1
  have hAm := hE.2.2.1
  have hWm := hE.2.2.2
  have hAO := hWm.2.2.2.1
  have hD := hD0.self (sz := s.heap.size)
  have hAF := frA hD0 hE.2.1
  generalize hAe : va_A [(a0, .inr (2, [.ref a1, .ref a2])), (a1, .inl (cy 2, 65, .inl (fun _ => 0)))] s.heap.size = A at hD hAF ⊢
  have hA : ∀ q : Nat, s.heap.size ≤ q → A q := fun q h => by rw [← hAe]; exact Or.inr h
  have hS : va_S A s.heap s.heap [] := va_S.rf
  have hl := lv_entry ([.ref a0, .int k0, .int k1, .int k2]) (n := 6) (Nat.le_of_ble_eq_true rfl)
  rw [lg_entry_eq]
  generalize (lg_sl ([.ref a0, .int k0, .int k1, .int k2]) ++ List.replicate (6 - (lg_sl ([.ref a0, .int k0, .int k1, .int k2])).length) Slot.unset).toArray = ls at hl ⊢
  have hl : lv_has ls 6 [(0, .ref a0), (1, .int k0), (2, .int k1), (3, .int k2)] := hl
  have hP : va_P D vwCl [(a0, .inr (2, [.ref a1, .ref a2])), (a1, .inl (cy 2, 65, .inl (fun _ => 0)))] s.heap := hP
  have z0 : (0 : Int32).toInt = 0 := by decide +kernel
  have z65 : (65 : Int32).toInt = 65 := by decide +kernel
  refine lv_aload_n hx hb dX0_change_0 rfl (lv_at hl 0 rfl) ?_
  refine lv_iload_n hx hb dX0_change_1 rfl (lv_at hl 1 rfl) ?_
  refine lv_iload_n hx hb dX0_change_2 rfl (lv_at hl 2 rfl) ?_
  have hPc := hP.sub (ws' := [(a0, .inr (2, [.ref a1, .ref a2])), (a1, .inl (cy 2, 65, .inl (fun _ => 0)))]) [0, 1] rfl
  have hDc := hD.sub (ws' := [(a0, .inr (2, [.ref a1, .ref a2])), (a1, .inl (cy 2, 65, .inl (fun _ => 0)))]) [0, 1] (by decide) rfl
  have hFc := va_free (wc := [(a0, .inr (2, [.ref a1, .ref a2])), (a1, .inl (cy 2, 65, .inl (fun _ => 0)))]) hD hS hA [0, 1] rfl
  refine va_calli (va_runV (As := [.int k0, .int k1]) (rest := []) ⟨hx, hb, hml, hown, hts⟩ (C_X0_isThere_1 l D cy sz0 sa a0 a1 a2 s.heap.size k0 k1) (cwV 2 hts gX0_change_X0_isThere rfl rfl rfl (by decide +kernel) ⟨Nat.le_of_ble_eq_true rfl, Nat.le_of_ble_eq_true rfl⟩) ⟨PcW.blind, va_recv hK hPc (ci := 2) (q0 := 0) rfl rfl, PcW.mk hE hS hAF hPc hDc⟩ rfl rfl hl.1 rfl (lv_room (Nat.le_of_ble_eq_true rfl)) dX0_change_3 ⟨Nat.le_of_ble_eq_true rfl, Nat.le_of_ble_eq_true rfl⟩) hS (fun q _ h => hFc q h) hFc (fun r_1 u t H1 locs ht hvm hw hB hz1 hk1 hS => ?_)
  obtain ⟨hP1, hD1⟩ := hB
  rw [ht] at hP1
  have hP1 : va_P D vwCl [(a0, .inr (2, [.ref a1, .ref a2])), (a1, .inl (cy 2, 65, .inl (fun _ => 0)))] H1 := hP1
  obtain ⟨hP, hD⟩ := va_join (wr := []) (w1 := [(a0, .inr (2, [.ref a1, .ref a2])), (a1, .inl (cy 2, 65, .inl (fun _ => 0)))]) hP hD [0, 1] [] rfl rfl (by decide) (by decide) hk1 hFc hP1 hD1
  clear hP1 hD1 hPc hDc hFc hk1 hz1
  generalize H1 = H at hP hS ⊢
  have hP : va_P D vwCl [(a0, .inr (2, [.ref a1, .ref a2])), (a1, .inl (cy 2, 65, .inl (fun _ => 0)))] H := hP
  have hD : va_D A [(a0, .inr (2, [.ref a1, .ref a2])), (a1, .inl (cy 2, 65, .inl (fun _ => 0)))] := hD
  refine W.widen (k := 0) (n := 0) (Nat.le_of_ble_eq_true rfl) (Nat.le_of_ble_eq_true rfl) ?_
  obtain rfl : r_1 = 0 := hw
  refine lv_istore (lv' := [(4, .int 0), (0, .ref a0), (1, .int k0), (2, .int k1), (3, .int k2)]) hx hb dX0_change_6 hl (by decide) rfl (fun ls hl => ?_)
  refine lv_iload_n hx hb dX0_change_8 rfl (lv_at hl 2 rfl) ?_
  refine lv_iconst (v := 5) hx hb dX0_change_9 (by decide +kernel) ?_
  refine lv_imul hx hb dX0_change_10 ?_
  refine lv_topi (fun x2 ex2 => ?_)
  refine lv_iload_n hx hb dX0_change_11 rfl (lv_at hl 3 rfl) ?_
  refine lv_iadd hx hb dX0_change_12 ?_
  refine lv_topi (fun x3 ex3 => ?_)
  refine lv_istore (lv' := [(5, .int x3), (4, .int 0), (0, .ref a0), (1, .int k0), (2, .int k1), (3, .int k2)]) hx hb dX0_change_13 hl (by decide) rfl (fun ls hl => ?_)
  refine lv_iload hx hb dX0_change_15 (lv_at hl 0 rfl) ?_
  refine lv_if_lt (tgt := 38) hx hb dX0_change_17 (by decide) (fun c4 => ?_) (fun c4 => ?_)
  · have c4 := z_lt c4
    refine lv_iload hx hb dX0_change_38 (lv_at hl 1 rfl) ?_
    refine W.widen (k := 0) (n := 0) (Nat.le_of_ble_eq_true rfl) (Nat.le_of_ble_eq_true rfl) ?_
    exact W.zret (v := 0) (ty := .boolean) hx hb hr rfl (fun t ht hW => ⟨⟨0, (), rfl, rfl, trivial⟩, hS.F ht⟩) hS.2.2 dX0_change_40
  · have c4 := z_nlt c4
    refine lv_iload hx hb dX0_change_20 (lv_at hl 0 rfl) ?_
    refine lv_aload_n hx hb dX0_change_22 rfl (lv_at hl 2 rfl) ?_
    refine va_get (D := D) (ci := 2) (v := .ref a1) (C := RX0) (T := TX0) (N := 2) hx hb hts (fun _ h => List.mem_cons_of_mem _ (List.mem_append_right _ h)) hown hK hP 0 rfl rfl 0 (by decide) (hts (.fieldLink RX0 11 "PhraseDesk$Converters" "there" "[Z") (List.mem_of_getElem? (i := 1) rfl)) (fun _ h9 => h9) rfl dX0_change_23 ?_
    refine va_alen (v := 65) hx hb hK hP 1 2 rfl rfl rfl dX0_change_26 ?_
    refine lv_icmp_ge (tgt := 38) hx hb dX0_change_27 (by decide) (fun c5 => ?_) (fun c5 => ?_)
    · have c5 := z_le c5
      refine lv_iload hx hb dX0_change_38 (lv_at hl 1 rfl) ?_
      refine W.widen (k := 0) (n := 0) (Nat.le_of_ble_eq_true rfl) (Nat.le_of_ble_eq_true rfl) ?_
      exact W.zret (v := 0) (ty := .boolean) hx hb hr rfl (fun t ht hW => ⟨⟨0, (), rfl, rfl, trivial⟩, hS.F ht⟩) hS.2.2 dX0_change_40
    · have c5 := z_nle c5
      refine lv_aload_n hx hb dX0_change_30 rfl (lv_at hl 2 rfl) ?_
      refine va_get (D := D) (ci := 2) (v := .ref a1) (C := RX0) (T := TX0) (N := 2) hx hb hts (fun _ h => List.mem_cons_of_mem _ (List.mem_append_right _ h)) hown hK hP 0 rfl rfl 0 (by decide) (hts (.fieldLink RX0 11 "PhraseDesk$Converters" "there" "[Z") (List.mem_of_getElem? (i := 1) rfl)) (fun _ h9 => h9) rfl dX0_change_31 ?_
      refine lv_iload hx hb dX0_change_34 (lv_at hl 0 rfl) ?_
      refine lv_iload_n hx hb dX0_change_36 rfl (lv_at hl 5 rfl) ?_
      have b6 : vp_in x3 65 := vp_in_iff.mpr ⟨by omega, by omega⟩
      refine va_zast hx hb hK hP hD hS 1 2 rfl rfl b6 dX0_change_37 (fun H locs hP hD hS => ?_)
      have hP : va_P D vwCl [(a0, .inr (2, [.ref a1, .ref a2])), (a1, .inl (cy 2, 65, .inl (upd (fun _ => 0) (x3).toNatClampNeg (vp_nar .boolean k2))))] H := hP
      have hD : va_D A [(a0, .inr (2, [.ref a1, .ref a2])), (a1, .inl (cy 2, 65, .inl (upd (fun _ => 0) (x3).toNatClampNeg (vp_nar .boolean k2))))] := hD
      refine lv_iload hx hb dX0_change_38 (lv_at hl 1 rfl) ?_
      refine W.widen (k := 0) (n := 0) (Nat.le_of_ble_eq_true rfl) (Nat.le_of_ble_eq_true rfl) ?_
      exact W.zret (v := 0) (ty := .boolean) hx hb hr rfl (fun t ht hW => ⟨⟨0, (), rfl, rfl, trivial⟩, hS.F ht⟩) hS.2.2 dX0_change_40

set_option maxHeartbeats 1000000 in
set_option maxRecDepth 100000 in
theorem C_X11_converter_1 (l : Launch) (hfl : l.stackTraces = false) (D : va_G) (cy : Nat → ClassId) (sz0 : Nat) (sa : Nat → Nat) (a0 a1 a2 a3 a4 a5 a6 a7 a8 a9 a10 a11 a12 a13 : Nat) (sz : Nat) (k0 : Int32) (k1 : Int32) (k2 : Int32) : vx_Met l yX11_converter wsX11_converter ({ frames := 6, cells := 1, slots := 6, locals := 82 }) (PcW D cy sz0 sa [.ref a0, .int k0, .int k1, .int k2] [(a0, .inr (13, [.ref a4, .ref a1, .ref a5, .int 0, .ref a6, .int 0, .ref a7, .int 0, .ref a8])), (a1, .inr (10, [.ref a9, .ref a2, .ref a10, .ref a11, .ref a12, .int 0, .ref a9, .int 0])), (a2, .inr (2, [.ref a3, .ref a13])), (a3, .inl (cy 2, 65, .inl (fun _ => 0)))] sz) (va_Qi (fun (r : Int32) (u : Unit) => r = 0 ∧ ((1 ≤ k0.toInt ∧ k0.toInt ≤ 5 ∧ 1 ≤ k1.toInt ∧ k1.toInt ≤ 4 ∧ ¬ k0.toInt = k1.toInt) ∨ (1 ≤ k0.toInt ∧ 5 < k0.toInt ∧ 8 ≤ k0.toInt ∧ k0.toInt < 13 ∧ 1 ≤ k1.toInt ∧ k1.toInt ≤ 4 ∧ ¬ k0.toInt = k1.toInt))) (fun (_ : Unit) (_ : State) => True) (va_A [(a0, .inr (13, [.ref a4, .ref a1, .ref a5, .int 0, .ref a6, .int 0, .ref a7, .int 0, .ref a8])), (a1, .inr (10, [.ref a9, .ref a2, .ref a10, .ref a11, .ref a12, .int 0, .ref a9, .int 0])), (a2, .inr (2, [.ref a3, .ref a13])), (a3, .inl (cy 2, 65, .inl (fun _ => 0)))] sz)) (vx_X (fun _ : Unit => True) (fun (E : String) (_ : Unit) (_ : State) => E = tIAE ∧ ((k0.toInt < 1 ∧ k0.toInt < 8) ∨ (1 ≤ k0.toInt ∧ k0.toInt ≤ 5 ∧ k1.toInt < 1) ∨ (1 ≤ k0.toInt ∧ k0.toInt ≤ 5 ∧ 1 ≤ k1.toInt ∧ 4 < k1.toInt) ∨ (1 ≤ k0.toInt ∧ k0.toInt ≤ 5 ∧ 1 ≤ k1.toInt ∧ k1.toInt ≤ 4 ∧ k0.toInt = k1.toInt) ∨ (1 ≤ k0.toInt ∧ 5 < k0.toInt ∧ k0.toInt < 8) ∨ (1 ≤ k0.toInt ∧ 5 < k0.toInt ∧ 8 ≤ k0.toInt ∧ 13 ≤ k0.toInt) ∨ (1 ≤ k0.toInt ∧ 5 < k0.toInt ∧ 8 ≤ k0.toInt ∧ k0.toInt < 13 ∧ k1.toInt < 1) ∨ (1 ≤ k0.toInt ∧ 5 < k0.toInt ∧ 8 ≤ k0.toInt ∧ k0.toInt < 13 ∧ 1 ≤ k1.toInt ∧ 4 < k1.toInt))) (va_A [(a0, .inr (13, [.ref a4, .ref a1, .ref a5, .int 0, .ref a6, .int 0, .ref a7, .int 0, .ref a8])), (a1, .inr (10, [.ref a9, .ref a2, .ref a10, .ref a11, .ref a12, .int 0, .ref a9, .int 0])), (a2, .inr (2, [.ref a3, .ref a13])), (a3, .inl (cy 2, 65, .inl (fun _ => 0)))] sz)) 1 6 (va_A [(a0, .inr (13, [.ref a4, .ref a1, .ref a5, .int 0, .ref a6, .int 0, .ref a7, .int 0, .ref a8])), (a1, .inr (10, [.ref a9, .ref a2, .ref a10, .ref a11, .ref a12, .int 0, .ref a9, .int 0])), (a2, .inr (2, [.ref a3, .ref a13])), (a3, .inl (cy 2, 65, .inl (fun _ => 0)))] sz) := by
  refine vx_ofW (cc := cX11_converter) (maxL := 5) (ret := (some .boolean)) (by decide) rfl ?_
  intro p e s m args below meth c s₁ B hml hout hv
  obtain ⟨rfl, hsz, hP, hD0, hE⟩ := hv
  have hx := B.exec
  have hb := B.bytes
  have hr := B.returns
  have hts := atoms_spec (ws := wsX11_converter) B.pre
  have hown : s.vm.findClass RX11 = some m.cls := findClass_of_methodNamed B.named
  have hlocks := B.notSynchronized
  subst hsz
  have hK := hE.1
  have hAm := hE.2.2.1
  have hWm := hE.2.2.2
  have hAO := hWm.2.2.2.1
  have hD := hD0.self (sz := s.heap.size)
  have hAF := frA hD0 hE.2.1
  generalize hAe : va_A [(a0, .inr (13, [.ref a4, .ref a1, .ref a5, .int 0, .ref a6, .int 0, .ref a7, .int 0, .ref a8])), (a1, .inr (10, [.ref a9, .ref a2, .ref a10, .ref a11, .ref a12, .int 0, .ref a9, .int 0])), (a2, .inr (2, [.ref a3, .ref a13])), (a3, .inl (cy 2, 65, .inl (fun _ => 0)))] s.heap.size = A at hD hAF ⊢
  have hA : ∀ q : Nat, s.heap.size ≤ q → A q := fun q h => by rw [← hAe]; exact Or.inr h
  have hS : va_S A s.heap s.heap [] := va_S.rf
  have hl := lv_entry ([.ref a0, .int k0, .int k1, .int k2]) (n := 5) (Nat.le_of_ble_eq_true rfl)
  rw [lg_entry_eq]
  generalize (lg_sl ([.ref a0, .int k0, .int k1, .int k2]) ++ List.replicate (5 - (lg_sl ([.ref a0, .int k0, .int k1, .int k2])).length) Slot.unset).toArray = ls at hl ⊢
  have hl : lv_has ls 5 [(0, .ref a0), (1, .int k0), (2, .int k1), (3, .int k2)] := hl
  have hP : va_P D vwCl [(a0, .inr (13, [.ref a4, .ref a1, .ref a5, .int 0, .ref a6, .int 0, .ref a7, .int 0, .ref a8])), (a1, .inr (10, [.ref a9, .ref a2, .ref a10, .ref a11, .ref a12, .int 0, .ref a9, .int 0])), (a2, .inr (2, [.ref a3, .ref a13])), (a3, .inl (cy 2, 65, .inl (fun _ => 0)))] s.heap := hP
  have z1 : (1 : Int32).toInt = 1 := by decide +kernel
  have z4 : (4 : Int32).toInt = 4 := by decide +kernel
  have z5 : (5 : Int32).toInt = 5 := by decide +kernel
  have z8 : (8 : Int32).toInt = 8 := by decide +kernel
  have z13 : (13 : Int32).toInt = 13 := by decide +kernel
  refine lv_iload_n hx hb dX11_converter_0 rfl (lv_at hl 1 rfl) ?_
  refine lv_iconst (v := 1) hx hb dX11_converter_1 (by decide +kernel) ?_
  refine lv_icmp_lt (tgt := 10) hx hb dX11_converter_2 (by decide) (fun c1 => ?_) (fun c1 => ?_)
  · have c1 := z_lt c1
    refine lv_iload_n hx hb dX11_converter_10 rfl (lv_at hl 1 rfl) ?_
    refine lv_bipush (v := 8) hx hb dX11_converter_11 (by decide +kernel) ?_
    refine lv_icmp_lt (tgt := 26) hx hb dX11_converter_13 (by decide) (fun c2 => ?_) (fun c2 => ?_)
    · have c2 := z_lt c2
      refine lv_iconst (v := 0) hx hb dX11_converter_26 (by decide +kernel) ?_
      refine lv_istore (lv' := [(4, .int 0), (0, .ref a0), (1, .int k0), (2, .int k1), (3, .int k2)]) hx hb dX11_converter_27 hl (by decide) rfl (fun ls hl => ?_)
      refine lv_iload hx hb dX11_converter_29 (lv_at hl 0 rfl) ?_
      refine lv_if_eq (tgt := 49) hx hb dX11_converter_31 (by decide) (fun _ => ?_) (fun c3 => absurd (by decide +kernel) c3)
      exact g_iae hx hb hfl hts hE hAF hown (List.mem_of_getElem? (i := 1) rfl) (List.mem_of_getElem? (i := 2) rfl) (is := 165) (text := "no converter goes from and to such types") (by decide +kernel) (fun _ h => List.mem_cons_of_mem _ (List.mem_append_right _ h)) hS (by rw [hml]; exact hl.1) dX11_converter_49 dX11_converter_52 dX11_converter_53 dX11_converter_55 dX11_converter_58 hout (by decide) (by decide) (Nat.le_of_ble_eq_true rfl) (Nat.le_of_ble_eq_true rfl) hlocks (fun t h1 h2 h3 => ⟨(), trivial, ⟨rfl, by omega⟩, Nat.le_trans hS.1 h2, fun q h4 h5 => (h3 q (Nat.lt_of_lt_of_le h4 hS.1)).trans (hS.2.1 q h4 h5)⟩) hS.2.2 (Nat.le_of_ble_eq_true rfl) (Nat.le_of_ble_eq_true rfl)
    · have c2 := z_nlt c2
      exfalso
      omega
  · have c1 := z_nlt c1
    refine lv_iload_n hx hb dX11_converter_5 rfl (lv_at hl 1 rfl) ?_
    refine lv_iconst (v := 5) hx hb dX11_converter_6 (by decide +kernel) ?_
    refine lv_icmp_le (tgt := 22) hx hb dX11_converter_7 (by decide) (fun c4 => ?_) (fun c4 => ?_)
    · have c4 := z_le c4
      refine lv_iconst (v := 1) hx hb dX11_converter_22 (by decide +kernel) ?_
      refine lv_goto (tgt := 27) hx hb dX11_converter_23 (by decide) ?_
      refine lv_istore (lv' := [(4, .int 1), (0, .ref a0), (1, .int k0), (2, .int k1), (3, .int k2)]) hx hb dX11_converter_27 hl (by decide) rfl (fun ls hl => ?_)
      refine lv_iload hx hb dX11_converter_29 (lv_at hl 0 rfl) ?_
      refine lv_if_eq (tgt := 49) hx hb dX11_converter_31 (by decide) (fun c5 => absurd c5 (by decide +kernel)) (fun _ => ?_)
      refine lv_iload_n hx hb dX11_converter_34 rfl (lv_at hl 3 rfl) ?_
      refine lv_iconst (v := 1) hx hb dX11_converter_35 (by decide +kernel) ?_
      refine lv_icmp_lt (tgt := 49) hx hb dX11_converter_36 (by decide) (fun c6 => ?_) (fun c6 => ?_)
      · have c6 := z_lt c6
        exact g_iae hx hb hfl hts hE hAF hown (List.mem_of_getElem? (i := 1) rfl) (List.mem_of_getElem? (i := 2) rfl) (is := 165) (text := "no converter goes from and to such types") (by decide +kernel) (fun _ h => List.mem_cons_of_mem _ (List.mem_append_right _ h)) hS (by rw [hml]; exact hl.1) dX11_converter_49 dX11_converter_52 dX11_converter_53 dX11_converter_55 dX11_converter_58 hout (by decide) (by decide) (Nat.le_of_ble_eq_true rfl) (Nat.le_of_ble_eq_true rfl) hlocks (fun t h1 h2 h3 => ⟨(), trivial, ⟨rfl, by omega⟩, Nat.le_trans hS.1 h2, fun q h4 h5 => (h3 q (Nat.lt_of_lt_of_le h4 hS.1)).trans (hS.2.1 q h4 h5)⟩) hS.2.2 (Nat.le_of_ble_eq_true rfl) (Nat.le_of_ble_eq_true rfl)
      · have c6 := z_nlt c6
        refine lv_iload_n hx hb dX11_converter_39 rfl (lv_at hl 3 rfl) ?_
        refine lv_iconst (v := 4) hx hb dX11_converter_40 (by decide +kernel) ?_
        refine lv_icmp_gt (tgt := 49) hx hb dX11_converter_41 (by decide) (fun c7 => ?_) (fun c7 => ?_)
        · have c7 := z_lt c7
          exact g_iae hx hb hfl hts hE hAF hown (List.mem_of_getElem? (i := 1) rfl) (List.mem_of_getElem? (i := 2) rfl) (is := 165) (text := "no converter goes from and to such types") (by decide +kernel) (fun _ h => List.mem_cons_of_mem _ (List.mem_append_right _ h)) hS (by rw [hml]; exact hl.1) dX11_converter_49 dX11_converter_52 dX11_converter_53 dX11_converter_55 dX11_converter_58 hout (by decide) (by decide) (Nat.le_of_ble_eq_true rfl) (Nat.le_of_ble_eq_true rfl) hlocks (fun t h1 h2 h3 => ⟨(), trivial, ⟨rfl, by omega⟩, Nat.le_trans hS.1 h2, fun q h4 h5 => (h3 q (Nat.lt_of_lt_of_le h4 hS.1)).trans (hS.2.1 q h4 h5)⟩) hS.2.2 (Nat.le_of_ble_eq_true rfl) (Nat.le_of_ble_eq_true rfl)
        · have c7 := z_nlt c7
          refine lv_iload_n hx hb dX11_converter_44 rfl (lv_at hl 2 rfl) ?_
          refine lv_iload_n hx hb dX11_converter_45 rfl (lv_at hl 3 rfl) ?_
          refine lv_icmp_ne (tgt := 59) hx hb dX11_converter_46 (by decide) (fun c8 => ?_) (fun c8 => ?_)
          · have c8 := z_ne c8
            refine lv_aload_n hx hb dX11_converter_59 rfl (lv_at hl 1 rfl) ?_
            refine va_get (D := D) (ci := 13) (v := .ref a1) (C := RX11) (T := TX11) (N := 9) hx hb hts (fun _ h => List.mem_cons_of_mem _ (List.mem_append_left _ (List.mem_append_left _ (List.mem_append_left _ (List.mem_append_right _ h))))) hown hK hP 0 rfl rfl 1 (by decide) (hts (.fieldLink RX11 19 "PhraseDesk" "runner" "LPhraseDesk$Runner;") (List.mem_of_getElem? (i := 3) rfl)) (fun _ h9 => h9) rfl dX11_converter_60 ?_
            refine va_get (D := D) (ci := 10) (v := .ref a2) (C := RX8) (T := TX8) (N := 8) hx hb hts (fun _ h => List.mem_cons_of_mem _ (List.mem_append_left _ (List.mem_append_left _ (List.mem_append_right _ h)))) hown hK hP 1 rfl rfl 1 (by decide) (hts (.fieldLink RX11 167 "PhraseDesk$Runner" "converters" "LPhraseDesk$Converters;") (List.mem_of_getElem? (i := 4) rfl)) (fun _ h9 => h9) rfl dX11_converter_63 ?_
            refine lv_iload_n hx hb dX11_converter_66 rfl (lv_at hl 2 rfl) ?_
            refine lv_iload_n hx hb dX11_converter_67 rfl (lv_at hl 3 rfl) ?_
            refine lv_iload_n hx hb dX11_converter_68 rfl (lv_at hl 4 rfl) ?_
            have hPc := hP.sub (ws' := [(a2, .inr (2, [.ref a3, .ref a13])), (a3, .inl (cy 2, 65, .inl (fun _ => 0)))]) [2, 3] rfl
            have hDc := hD.sub (ws' := [(a2, .inr (2, [.ref a3, .ref a13])), (a3, .inl (cy 2, 65, .inl (fun _ => 0)))]) [2, 3] (by decide) rfl
            have hFc := va_free (wc := [(a2, .inr (2, [.ref a3, .ref a13])), (a3, .inl (cy 2, 65, .inl (fun _ => 0)))]) hD hS hA [2, 3] rfl
            refine va_calli (va_runV (As := [.int k0, .int k1, .int k2]) (rest := []) ⟨hx, hb, hml, hown, hts⟩ (C_X0_change_1 l D cy sz0 sa a2 a3 a13 s.heap.size k0 k1 k2) (cwV 3 hts gX11_converter_X0_change rfl rfl rfl (by decide +kernel) ⟨Nat.le_of_ble_eq_true rfl, Nat.le_of_ble_eq_true rfl⟩) ⟨PcW.blind, va_recv hK hPc (ci := 2) (q0 := 0) rfl rfl, PcW.mk hE hS hAF hPc hDc⟩ rfl rfl hl.1 rfl (lv_room (Nat.le_of_ble_eq_true rfl)) dX11_converter_69 ⟨Nat.le_of_ble_eq_true rfl, Nat.le_of_ble_eq_true rfl⟩) hS (fun q _ h => hFc q h) hFc (fun r_9 u t H1 locs ht hvm hw hB hz1 hk1 hS => ?_)
            obtain ⟨hP, hD⟩ := va_join (wr := [(a0, .inr (13, [.ref a4, .ref a1, .ref a5, .int 0, .ref a6, .int 0, .ref a7, .int 0, .ref a8])), (a1, .inr (10, [.ref a9, .ref a2, .ref a10, .ref a11, .ref a12, .int 0, .ref a9, .int 0]))]) (w1 := []) hP hD [2, 3] [0, 1] rfl rfl (by decide) (by decide) hk1 hFc nilP nilD
            clear hPc hDc hFc hk1 hz1
            generalize H1 = H at hP hS ⊢
            have hP : va_P D vwCl [(a0, .inr (13, [.ref a4, .ref a1, .ref a5, .int 0, .ref a6, .int 0, .ref a7, .int 0, .ref a8])), (a1, .inr (10, [.ref a9, .ref a2, .ref a10, .ref a11, .ref a12, .int 0, .ref a9, .int 0]))] H := hP
            have hD : va_D A [(a0, .inr (13, [.ref a4, .ref a1, .ref a5, .int 0, .ref a6, .int 0, .ref a7, .int 0, .ref a8])), (a1, .inr (10, [.ref a9, .ref a2, .ref a10, .ref a11, .ref a12, .int 0, .ref a9, .int 0]))] := hD
            refine W.widen (k := 0) (n := 0) (Nat.le_of_ble_eq_true rfl) (Nat.le_of_ble_eq_true rfl) ?_
            have hr := hw
            obtain rfl : r_9 = 0 := hr
            refine vx_ret ?_
            refine W.widen (k := 1) (n := 6) (Nat.le_of_ble_eq_true rfl) (Nat.le_of_ble_eq_true rfl) ?_
            exact W.zret (v := 0) (ty := .boolean) hx hb hr rfl (fun t ht hW => ⟨⟨0, (), rfl, ⟨rfl, by omega⟩, trivial⟩, hS.F ht⟩) hS.2.2 dX11_converter_72
          · have c8 := z_eq c8
            exact g_iae hx hb hfl hts hE hAF hown (List.mem_of_getElem? (i := 1) rfl) (List.mem_of_getElem? (i := 2) rfl) (is := 165) (text := "no converter goes from and to such types") (by decide +kernel) (fun _ h => List.mem_cons_of_mem _ (List.mem_append_right _ h)) hS (by rw [hml]; exact hl.1) dX11_converter_49 dX11_converter_52 dX11_converter_53 dX11_converter_55 dX11_converter_58 hout (by decide) (by decide) (Nat.le_of_ble_eq_true rfl) (Nat.le_of_ble_eq_true rfl) hlocks (fun t h1 h2 h3 => ⟨(), trivial, ⟨rfl, by omega⟩, Nat.le_trans hS.1 h2, fun q h4 h5 => (h3 q (Nat.lt_of_lt_of_le h4 hS.1)).trans (hS.2.1 q h4 h5)⟩) hS.2.2 (Nat.le_of_ble_eq_true rfl) (Nat.le_of_ble_eq_true rfl)
    · have c4 := z_nle c4
      refine lv_iload_n hx hb dX11_converter_10 rfl (lv_at hl 1 rfl) ?_
      refine lv_bipush (v := 8) hx hb dX11_converter_11 (by decide +kernel) ?_
      refine lv_icmp_lt (tgt := 26) hx hb dX11_converter_13 (by decide) (fun c10 => ?_) (fun c10 => ?_)
      · have c10 := z_lt c10
        refine lv_iconst (v := 0) hx hb dX11_converter_26 (by decide +kernel) ?_
        refine lv_istore (lv' := [(4, .int 0), (0, .ref a0), (1, .int k0), (2, .int k1), (3, .int k2)]) hx hb dX11_converter_27 hl (by decide) rfl (fun ls hl => ?_)
        refine lv_iload hx hb dX11_converter_29 (lv_at hl 0 rfl) ?_
        refine lv_if_eq (tgt := 49) hx hb dX11_converter_31 (by decide) (fun _ => ?_) (fun c11 => absurd (by decide +kernel) c11)
        exact g_iae hx hb hfl hts hE hAF hown (List.mem_of_getElem? (i := 1) rfl) (List.mem_of_getElem? (i := 2) rfl) (is := 165) (text := "no converter goes from and to such types") (by decide +kernel) (fun _ h => List.mem_cons_of_mem _ (List.mem_append_right _ h)) hS (by rw [hml]; exact hl.1) dX11_converter_49 dX11_converter_52 dX11_converter_53 dX11_converter_55 dX11_converter_58 hout (by decide) (by decide) (Nat.le_of_ble_eq_true rfl) (Nat.le_of_ble_eq_true rfl) hlocks (fun t h1 h2 h3 => ⟨(), trivial, ⟨rfl, by omega⟩, Nat.le_trans hS.1 h2, fun q h4 h5 => (h3 q (Nat.lt_of_lt_of_le h4 hS.1)).trans (hS.2.1 q h4 h5)⟩) hS.2.2 (Nat.le_of_ble_eq_true rfl) (Nat.le_of_ble_eq_true rfl)
      · have c10 := z_nlt c10
        refine lv_iload_n hx hb dX11_converter_16 rfl (lv_at hl 1 rfl) ?_
        refine lv_bipush (v := 13) hx hb dX11_converter_17 (by decide +kernel) ?_
        refine lv_icmp_ge (tgt := 26) hx hb dX11_converter_19 (by decide) (fun c12 => ?_) (fun c12 => ?_)
        · have c12 := z_le c12
          refine lv_iconst (v := 0) hx hb dX11_converter_26 (by decide +kernel) ?_
          refine lv_istore (lv' := [(4, .int 0), (0, .ref a0), (1, .int k0), (2, .int k1), (3, .int k2)]) hx hb dX11_converter_27 hl (by decide) rfl (fun ls hl => ?_)
          refine lv_iload hx hb dX11_converter_29 (lv_at hl 0 rfl) ?_
          refine lv_if_eq (tgt := 49) hx hb dX11_converter_31 (by decide) (fun _ => ?_) (fun c13 => absurd (by decide +kernel) c13)
          exact g_iae hx hb hfl hts hE hAF hown (List.mem_of_getElem? (i := 1) rfl) (List.mem_of_getElem? (i := 2) rfl) (is := 165) (text := "no converter goes from and to such types") (by decide +kernel) (fun _ h => List.mem_cons_of_mem _ (List.mem_append_right _ h)) hS (by rw [hml]; exact hl.1) dX11_converter_49 dX11_converter_52 dX11_converter_53 dX11_converter_55 dX11_converter_58 hout (by decide) (by decide) (Nat.le_of_ble_eq_true rfl) (Nat.le_of_ble_eq_true rfl) hlocks (fun t h1 h2 h3 => ⟨(), trivial, ⟨rfl, by omega⟩, Nat.le_trans hS.1 h2, fun q h4 h5 => (h3 q (Nat.lt_of_lt_of_le h4 hS.1)).trans (hS.2.1 q h4 h5)⟩) hS.2.2 (Nat.le_of_ble_eq_true rfl) (Nat.le_of_ble_eq_true rfl)
        · have c12 := z_nle c12
          refine lv_iconst (v := 1) hx hb dX11_converter_22 (by decide +kernel) ?_
          refine lv_goto (tgt := 27) hx hb dX11_converter_23 (by decide) ?_
          refine lv_istore (lv' := [(4, .int 1), (0, .ref a0), (1, .int k0), (2, .int k1), (3, .int k2)]) hx hb dX11_converter_27 hl (by decide) rfl (fun ls hl => ?_)
          refine lv_iload hx hb dX11_converter_29 (lv_at hl 0 rfl) ?_
          refine lv_if_eq (tgt := 49) hx hb dX11_converter_31 (by decide) (fun c14 => absurd c14 (by decide +kernel)) (fun _ => ?_)
          refine lv_iload_n hx hb dX11_converter_34 rfl (lv_at hl 3 rfl) ?_
          refine lv_iconst (v := 1) hx hb dX11_converter_35 (by decide +kernel) ?_
          refine lv_icmp_lt (tgt := 49) hx hb dX11_converter_36 (by decide) (fun c15 => ?_) (fun c15 => ?_)
          · have c15 := z_lt c15
            exact g_iae hx hb hfl hts hE hAF hown (List.mem_of_getElem? (i := 1) rfl) (List.mem_of_getElem? (i := 2) rfl) (is := 165) (text := "no converter goes from and to such types") (by decide +kernel) (fun _ h => List.mem_cons_of_mem _ (List.mem_append_right _ h)) hS (by rw [hml]; exact hl.1) dX11_converter_49 dX11_converter_52 dX11_converter_53 dX11_converter_55 dX11_converter_58 hout (by decide) (by decide) (Nat.le_of_ble_eq_true rfl) (Nat.le_of_ble_eq_true rfl) hlocks (fun t h1 h2 h3 => ⟨(), trivial, ⟨rfl, by omega⟩, Nat.le_trans hS.1 h2, fun q h4 h5 => (h3 q (Nat.lt_of_lt_of_le h4 hS.1)).trans (hS.2.1 q h4 h5)⟩) hS.2.2 (Nat.le_of_ble_eq_true rfl) (Nat.le_of_ble_eq_true rfl)
          · have c15 := z_nlt c15
            refine lv_iload_n hx hb dX11_converter_39 rfl (lv_at hl 3 rfl) ?_
            refine lv_iconst (v := 4) hx hb dX11_converter_40 (by decide +kernel) ?_
            refine lv_icmp_gt (tgt := 49) hx hb dX11_converter_41 (by decide) (fun c16 => ?_) (fun c16 => ?_)
            · have c16 := z_lt c16
              exact g_iae hx hb hfl hts hE hAF hown (List.mem_of_getElem? (i := 1) rfl) (List.mem_of_getElem? (i := 2) rfl) (is := 165) (text := "no converter goes from and to such types") (by decide +kernel) (fun _ h => List.mem_cons_of_mem _ (List.mem_append_right _ h)) hS (by rw [hml]; exact hl.1) dX11_converter_49 dX11_converter_52 dX11_converter_53 dX11_converter_55 dX11_converter_58 hout (by decide) (by decide) (Nat.le_of_ble_eq_true rfl) (Nat.le_of_ble_eq_true rfl) hlocks (fun t h1 h2 h3 => ⟨(), trivial, ⟨rfl, by omega⟩, Nat.le_trans hS.1 h2, fun q h4 h5 => (h3 q (Nat.lt_of_lt_of_le h4 hS.1)).trans (hS.2.1 q h4 h5)⟩) hS.2.2 (Nat.le_of_ble_eq_true rfl) (Nat.le_of_ble_eq_true rfl)
            · have c16 := z_nlt c16
              refine lv_iload_n hx hb dX11_converter_44 rfl (lv_at hl 2 rfl) ?_
              refine lv_iload_n hx hb dX11_converter_45 rfl (lv_at hl 3 rfl) ?_
              refine lv_icmp_ne (tgt := 59) hx hb dX11_converter_46 (by decide) (fun c17 => ?_) (fun c17 => ?_)
              · have c17 := z_ne c17
                refine lv_aload_n hx hb dX11_converter_59 rfl (lv_at hl 1 rfl) ?_
                refine va_get (D := D) (ci := 13) (v := .ref a1) (C := RX11) (T := TX11) (N := 9) hx hb hts (fun _ h => List.mem_cons_of_mem _ (List.mem_append_left _ (List.mem_append_left _ (List.mem_append_left _ (List.mem_append_right _ h))))) hown hK hP 0 rfl rfl 1 (by decide) (hts (.fieldLink RX11 19 "PhraseDesk" "runner" "LPhraseDesk$Runner;") (List.mem_of_getElem? (i := 3) rfl)) (fun _ h9 => h9) rfl dX11_converter_60 ?_
                refine va_get (D := D) (ci := 10) (v := .ref a2) (C := RX8) (T := TX8) (N := 8) hx hb hts (fun _ h => List.mem_cons_of_mem _ (List.mem_append_left _ (List.mem_append_left _ (List.mem_append_right _ h)))) hown hK hP 1 rfl rfl 1 (by decide) (hts (.fieldLink RX11 167 "PhraseDesk$Runner" "converters" "LPhraseDesk$Converters;") (List.mem_of_getElem? (i := 4) rfl)) (fun _ h9 => h9) rfl dX11_converter_63 ?_
                refine lv_iload_n hx hb dX11_converter_66 rfl (lv_at hl 2 rfl) ?_
                refine lv_iload_n hx hb dX11_converter_67 rfl (lv_at hl 3 rfl) ?_
                refine lv_iload_n hx hb dX11_converter_68 rfl (lv_at hl 4 rfl) ?_
                have hPc := hP.sub (ws' := [(a2, .inr (2, [.ref a3, .ref a13])), (a3, .inl (cy 2, 65, .inl (fun _ => 0)))]) [2, 3] rfl
                have hDc := hD.sub (ws' := [(a2, .inr (2, [.ref a3, .ref a13])), (a3, .inl (cy 2, 65, .inl (fun _ => 0)))]) [2, 3] (by decide) rfl
                have hFc := va_free (wc := [(a2, .inr (2, [.ref a3, .ref a13])), (a3, .inl (cy 2, 65, .inl (fun _ => 0)))]) hD hS hA [2, 3] rfl
                refine va_calli (va_runV (As := [.int k0, .int k1, .int k2]) (rest := []) ⟨hx, hb, hml, hown, hts⟩ (C_X0_change_1 l D cy sz0 sa a2 a3 a13 s.heap.size k0 k1 k2) (cwV 3 hts gX11_converter_X0_change rfl rfl rfl (by decide +kernel) ⟨Nat.le_of_ble_eq_true rfl, Nat.le_of_ble_eq_true rfl⟩) ⟨PcW.blind, va_recv hK hPc (ci := 2) (q0 := 0) rfl rfl, PcW.mk hE hS hAF hPc hDc⟩ rfl rfl hl.1 rfl (lv_room (Nat.le_of_ble_eq_true rfl)) dX11_converter_69 ⟨Nat.le_of_ble_eq_true rfl, Nat.le_of_ble_eq_true rfl⟩) hS (fun q _ h => hFc q h) hFc (fun r_18 u t H1 locs ht hvm hw hB hz1 hk1 hS => ?_)
                obtain ⟨hP, hD⟩ := va_join (wr := [(a0, .inr (13, [.ref a4, .ref a1, .ref a5, .int 0, .ref a6, .int 0, .ref a7, .int 0, .ref a8])), (a1, .inr (10, [.ref a9, .ref a2, .ref a10, .ref a11, .ref a12, .int 0, .ref a9, .int 0]))]) (w1 := []) hP hD [2, 3] [0, 1] rfl rfl (by decide) (by decide) hk1 hFc nilP nilD
                clear hPc hDc hFc hk1 hz1
                generalize H1 = H at hP hS ⊢
                have hP : va_P D vwCl [(a0, .inr (13, [.ref a4, .ref a1, .ref a5, .int 0, .ref a6, .int 0, .ref a7, .int 0, .ref a8])), (a1, .inr (10, [.ref a9, .ref a2, .ref a10, .ref a11, .ref a12, .int 0, .ref a9, .int 0]))] H := hP
                have hD : va_D A [(a0, .inr (13, [.ref a4, .ref a1, .ref a5, .int 0, .ref a6, .int 0, .ref a7, .int 0, .ref a8])), (a1, .inr (10, [.ref a9, .ref a2, .ref a10, .ref a11, .ref a12, .int 0, .ref a9, .int 0]))] := hD
                refine W.widen (k := 0) (n := 0) (Nat.le_of_ble_eq_true rfl) (Nat.le_of_ble_eq_true rfl) ?_
                have hr := hw
                obtain rfl : r_18 = 0 := hr
                refine vx_ret ?_
                refine W.widen (k := 1) (n := 6) (Nat.le_of_ble_eq_true rfl) (Nat.le_of_ble_eq_true rfl) ?_
                exact W.zret (v := 0) (ty := .boolean) hx hb hr rfl (fun t ht hW => ⟨⟨0, (), rfl, ⟨rfl, by omega⟩, trivial⟩, hS.F ht⟩) hS.2.2 dX11_converter_72
              · have c17 := z_eq c17
                exfalso
                omega
set_option maxHeartbeats 1000000 in
set_option maxRecDepth 100000 in
theorem C_L_converter_1 (l : Launch) (hfl : l.stackTraces = false) (D : va_G) (cy : Nat → ClassId) (sz0 : Nat) (sa : Nat → Nat) (a0 a1 a2 a3 a4 a5 a6 a7 a8 a9 a10 a11 a12 a13 a14 : Nat) (sz : Nat) (k0 : Int32) (k1 : Int32) (k2 : Int32) : Met l yL_converter wsL_converter ({ frames := 7, cells := 1, slots := 6, locals := 106 }) (PcW D cy sz0 sa [.ref a0, .int k0, .int k1, .int k2, .ref a1] [(a0, .inr (13, [.ref a5, .ref a2, .ref a6, .int 0, .ref a7, .int 0, .ref a8, .int 0, .ref a9])), (a2, .inr (10, [.ref a10, .ref a3, .ref a11, .ref a12, .ref a13, .int 0, .ref a10, .int 0])), (a3, .inr (2, [.ref a4, .ref a14])), (a4, .inl (cy 2, 65, .inl (fun _ => 0))), (a1, .inl (cy 1, 1, .inr (.inl (fun _ => 0))))] sz) (va_Qi (fun (r : Int32) (u : Int64) => (r = 1 ∧ u = 0 ∧ (((k0.toInt < 1 ∧ k0.toInt < 8) ∨ (1 ≤ k0.toInt ∧ k0.toInt ≤ 5 ∧ k1.toInt < 1) ∨ (1 ≤ k0.toInt ∧ k0.toInt ≤ 5 ∧ 1 ≤ k1.toInt ∧ 4 < k1.toInt) ∨ (1 ≤ k0.toInt ∧ k0.toInt ≤ 5 ∧ 1 ≤ k1.toInt ∧ k1.toInt ≤ 4 ∧ k0.toInt = k1.toInt) ∨ (1 ≤ k0.toInt ∧ 5 < k0.toInt ∧ k0.toInt < 8) ∨ (1 ≤ k0.toInt ∧ 5 < k0.toInt ∧ 8 ≤ k0.toInt ∧ 13 ≤ k0.toInt) ∨ (1 ≤ k0.toInt ∧ 5 < k0.toInt ∧ 8 ≤ k0.toInt ∧ k0.toInt < 13 ∧ k1.toInt < 1) ∨ (1 ≤ k0.toInt ∧ 5 < k0.toInt ∧ 8 ≤ k0.toInt ∧ k0.toInt < 13 ∧ 1 ≤ k1.toInt ∧ 4 < k1.toInt)))) ∨ (r = 0 ∧ u = 0 ∧ (((1 ≤ k0.toInt ∧ k0.toInt ≤ 5 ∧ 1 ≤ k1.toInt ∧ k1.toInt ≤ 4 ∧ ¬ k0.toInt = k1.toInt) ∨ (1 ≤ k0.toInt ∧ 5 < k0.toInt ∧ 8 ≤ k0.toInt ∧ k0.toInt < 13 ∧ 1 ≤ k1.toInt ∧ k1.toInt ≤ 4 ∧ ¬ k0.toInt = k1.toInt))))) (fun (u : Int64) (t : State) => ∃ f : Nat → Int64, BW D [(a1, .inl (cy 1, 1, .inr (.inl f)))] (va_A [(a0, .inr (13, [.ref a5, .ref a2, .ref a6, .int 0, .ref a7, .int 0, .ref a8, .int 0, .ref a9])), (a2, .inr (10, [.ref a10, .ref a3, .ref a11, .ref a12, .ref a13, .int 0, .ref a10, .int 0])), (a3, .inr (2, [.ref a4, .ref a14])), (a4, .inl (cy 2, 65, .inl (fun _ => 0))), (a1, .inl (cy 1, 1, .inr (.inl (fun _ => 0))))] sz) t ∧ f 0 = u) (va_A [(a0, .inr (13, [.ref a5, .ref a2, .ref a6, .int 0, .ref a7, .int 0, .ref a8, .int 0, .ref a9])), (a2, .inr (10, [.ref a10, .ref a3, .ref a11, .ref a12, .ref a13, .int 0, .ref a10, .int 0])), (a3, .inr (2, [.ref a4, .ref a14])), (a4, .inl (cy 2, 65, .inl (fun _ => 0))), (a1, .inl (cy 1, 1, .inr (.inl (fun _ => 0))))] sz)) 1 6 (va_A [(a0, .inr (13, [.ref a5, .ref a2, .ref a6, .int 0, .ref a7, .int 0, .ref a8, .int 0, .ref a9])), (a2, .inr (10, [.ref a10, .ref a3, .ref a11, .ref a12, .ref a13, .int 0, .ref a10, .int 0])), (a3, .inr (2, [.ref a4, .ref a14])), (a4, .inl (cy 2, 65, .inl (fun _ => 0))), (a1, .inl (cy 1, 1, .inr (.inl (fun _ => 0))))] sz) := by
  refine va_MetW (cc := cL_converter) (maxL := 6) (ret := (some .int)) (hh := [(0, 19, 22, 13)]) (by decide) rfl ?_
  intro p e s m args below meth c s₁ B hml hv
  obtain ⟨rfl, hsz, hP, hD0, hE⟩ := hv
  have hx := B.exec
  have hb := B.bytes
  have hr := B.returns
  have hts := atoms_spec (ws := wsL_converter) B.pre
  have hown : s.vm.findClass RL = some m.cls := findClass_of_methodNamed B.named
  have hlocks := B.notSynchronized
  subst hsz
  have hK := hE.1
  have hAm := hE.2.2.1
  have hWm := hE.2.2.2
  have hAO := hWm.2.2.2.1
  have hD := hD0.self (sz := s.heap.size)
  have hAF := frA hD0 hE.2.1
  generalize hAe : va_A [(a0, .inr (13, [.ref a5, .ref a2, .ref a6, .int 0, .ref a7, .int 0, .ref a8, .int 0, .ref a9])), (a2, .inr (10, [.ref a10, .ref a3, .ref a11, .ref a12, .ref a13, .int 0, .ref a10, .int 0])), (a3, .inr (2, [.ref a4, .ref a14])), (a4, .inl (cy 2, 65, .inl (fun _ => 0))), (a1, .inl (cy 1, 1, .inr (.inl (fun _ => 0))))] s.heap.size = A at hD hAF ⊢
  have hA : ∀ q : Nat, s.heap.size ≤ q → A q := fun q h => by rw [← hAe]; exact Or.inr h
  have hS : va_S A s.heap s.heap [] := va_S.rf
  have hl := lv_entry ([.ref a0, .int k0, .int k1, .int k2, .ref a1]) (n := 6) (Nat.le_of_ble_eq_true rfl)
  rw [lg_entry_eq]
  generalize (lg_sl ([.ref a0, .int k0, .int k1, .int k2, .ref a1]) ++ List.replicate (6 - (lg_sl ([.ref a0, .int k0, .int k1, .int k2, .ref a1])).length) Slot.unset).toArray = ls at hl ⊢
  have hl : lv_has ls 6 [(0, .ref a0), (1, .int k0), (2, .int k1), (3, .int k2), (4, .ref a1)] := hl
  have hP : va_P D vwCl [(a0, .inr (13, [.ref a5, .ref a2, .ref a6, .int 0, .ref a7, .int 0, .ref a8, .int 0, .ref a9])), (a2, .inr (10, [.ref a10, .ref a3, .ref a11, .ref a12, .ref a13, .int 0, .ref a10, .int 0])), (a3, .inr (2, [.ref a4, .ref a14])), (a4, .inl (cy 2, 65, .inl (fun _ => 0))), (a1, .inl (cy 1, 1, .inr (.inl (fun _ => 0))))] s.heap := hP
  have z1 : (1 : Int32).toInt = 1 := by decide +kernel
  have z4 : (4 : Int32).toInt = 4 := by decide +kernel
  have z5 : (5 : Int32).toInt = 5 := by decide +kernel
  have z8 : (8 : Int32).toInt = 8 := by decide +kernel
  have z13 : (13 : Int32).toInt = 13 := by decide +kernel
  refine lv_aload hx hb dL_converter_0 (lv_at hl 4 rfl) ?_
  refine lv_iconst (v := 0) hx hb dL_converter_2 (by decide +kernel) ?_
  refine lv_aload_n hx hb dL_converter_3 rfl (lv_at hl 0 rfl) ?_
  refine lv_iload_n hx hb dL_converter_4 rfl (lv_at hl 1 rfl) ?_
  refine lv_iload_n hx hb dL_converter_5 rfl (lv_at hl 2 rfl) ?_
  refine lv_iload_n hx hb dL_converter_6 rfl (lv_at hl 3 rfl) ?_
  have hPc := hP.sub (ws' := [(a0, .inr (13, [.ref a5, .ref a2, .ref a6, .int 0, .ref a7, .int 0, .ref a8, .int 0, .ref a9])), (a2, .inr (10, [.ref a10, .ref a3, .ref a11, .ref a12, .ref a13, .int 0, .ref a10, .int 0])), (a3, .inr (2, [.ref a4, .ref a14])), (a4, .inl (cy 2, 65, .inl (fun _ => 0)))]) [0, 1, 2, 3] rfl
  have hDc := hD.sub (ws' := [(a0, .inr (13, [.ref a5, .ref a2, .ref a6, .int 0, .ref a7, .int 0, .ref a8, .int 0, .ref a9])), (a2, .inr (10, [.ref a10, .ref a3, .ref a11, .ref a12, .ref a13, .int 0, .ref a10, .int 0])), (a3, .inr (2, [.ref a4, .ref a14])), (a4, .inl (cy 2, 65, .inl (fun _ => 0)))]) [0, 1, 2, 3] (by decide) rfl
  have hFc := va_free (wc := [(a0, .inr (13, [.ref a5, .ref a2, .ref a6, .int 0, .ref a7, .int 0, .ref a8, .int 0, .ref a9])), (a2, .inr (10, [.ref a10, .ref a3, .ref a11, .ref a12, .ref a13, .int 0, .ref a10, .int 0])), (a3, .inr (2, [.ref a4, .ref a14])), (a4, .inl (cy 2, 65, .inl (fun _ => 0)))]) hD hS hA [0, 1, 2, 3] rfl
  refine vx_calli (vx_runV (As := [.int k0, .int k1, .int k2]) (rest := [.int 0, .ref a1]) ⟨hx, hb, hml, hown, hts⟩ (C_X11_converter_1 l hfl D cy sz0 sa a0 a2 a3 a4 a5 a6 a7 a8 a9 a10 a11 a12 a13 a14 s.heap.size k0 k1 k2) (cwV 3 hts gL_converter_X11_converter rfl rfl rfl (by decide +kernel) ⟨Nat.le_of_ble_eq_true rfl, Nat.le_of_ble_eq_true rfl⟩) ⟨PcW.blind, va_recv hK hPc (ci := 13) (q0 := 0) rfl rfl, PcW.mk hE hS hAF hPc hDc⟩ rfl rfl hl.1 rfl (lv_room (Nat.le_of_ble_eq_true rfl)) dL_converter_7 ⟨Nat.le_of_ble_eq_true rfl, Nat.le_of_ble_eq_true rfl⟩) hS (fun q _ h => hFc q h) hFc (fun q _ h => hFc q h) (fun E ce q9 u t H1 locs ht hvm hpx hbx hz1 hk1 hS hq9 hv9 hc9 => ?_) (fun r_1 u t H1 locs ht hvm hw hB hz1 hk1 hS => ?_)
  · obtain ⟨rfl, hxr_1⟩ := hbx
    obtain ⟨hP, hD⟩ := va_join (wr := [(a1, .inl (cy 1, 1, .inr (.inl (fun _ => 0))))]) (w1 := []) hP hD [0, 1, 2, 3] [4] rfl rfl (by decide) (by decide) hk1 hFc nilP nilD
    skip
    have hq8 := hq9
    clear hPc hDc hFc hk1 hz1
    skip
    have hP : va_P D vwCl [(a1, .inl (cy 1, 1, .inr (.inl (fun _ => 0))))] H1 := hP
    have hD : va_D A [(a1, .inl (cy 1, 1, .inr (.inl (fun _ => 0))))] := hD
    refine vx_widen (k := 1) (n := 6) (Nat.le_of_ble_eq_true rfl) (Nat.le_of_ble_eq_true rfl) ?_
    refine vx_catch hown [] _ _ ((vx_table B (hts (.codeWith yL_converter cL_converter 6 (some .int) [(0, 19, 22, 13)]) (List.mem_of_getElem? (i := 0) rfl))).trans rfl) (fun z hz => absurd hz List.not_mem_nil) (by decide) (by decide) (hts (.classLink RL 13 "java/lang/IllegalArgumentException") (List.mem_of_getElem? (i := 1) rfl)) (va_Nw.use rfl hWm.2.2.1.2.2.2.1) hq9 hv9 hc9 ?_
    clear hq8 hq9 ht
    generalize H1 = H at hP hS ⊢
    refine lv_astore (lv' := [(5, .ref q9), (0, .ref a0), (1, .int k0), (2, .int k1), (3, .int k2), (4, .ref a1)]) hx hb dL_converter_22 hl (by decide) rfl (fun ls hl => ?_)
    refine lv_iconst (v := 1) hx hb dL_converter_24 (by decide +kernel) ?_
    refine W.widen (k := 1) (n := 6) (Nat.le_of_ble_eq_true rfl) (Nat.le_of_ble_eq_true rfl) ?_
    have hP9 := hP.sub (ws' := [(a1, .inl (cy 1, 1, .inr (.inl (fun _ => 0))))]) [0] rfl
    have hD9 := hD.sub (ws' := [(a1, .inl (cy 1, 1, .inr (.inl (fun _ => 0))))]) [0] (by decide) rfl
    exact W.iret (v := 1) hx hb hr (fun t ht hW => ⟨⟨1, 0, rfl, Or.inl ⟨rfl, rfl, by omega⟩, ⟨(fun _ => 0), ⟨by rw [ht]; exact hP9, hD9⟩, by decide +kernel⟩⟩, hS.F ht⟩) hS.2.2 dL_converter_25
  · obtain ⟨hP, hD⟩ := va_join (wr := [(a1, .inl (cy 1, 1, .inr (.inl (fun _ => 0))))]) (w1 := []) hP hD [0, 1, 2, 3] [4] rfl rfl (by decide) (by decide) hk1 hFc nilP nilD
    clear hPc hDc hFc hk1 hz1
    generalize H1 = H at hP hS ⊢
    have hP : va_P D vwCl [(a1, .inl (cy 1, 1, .inr (.inl (fun _ => 0))))] H := hP
    have hD : va_D A [(a1, .inl (cy 1, 1, .inr (.inl (fun _ => 0))))] := hD
    refine W.widen (k := 1) (n := 6) (Nat.le_of_ble_eq_true rfl) (Nat.le_of_ble_eq_true rfl) ?_
    obtain ⟨hr, hcr_1⟩ := hw
    obtain rfl : r_1 = 0 := hr
    refine lv_if_eq (tgt := 17) hx hb dL_converter_10 (by decide) (fun _ => ?_) (fun c2 => absurd (by decide +kernel) c2)
    refine lv_lconst (v := 0) hx hb dL_converter_17 rfl ?_
    refine va_last hx hb hK hP hD hS 0 1 rfl rfl (by unfold vp_in; decide +kernel) dL_converter_18 (fun H locs hP hD hS => ?_)
    have hP : va_P D vwCl [(a1, .inl (cy 1, 1, .inr (.inl (vp_updL (fun _ => 0) 0 0))))] H := hP
    have hD : va_D A [(a1, .inl (cy 1, 1, .inr (.inl (vp_updL (fun _ => 0) 0 0))))] := hD
    refine lv_goto (tgt := 26) hx hb dL_converter_19 (by decide) ?_
    refine lv_iconst (v := 0) hx hb dL_converter_26 (by decide +kernel) ?_
    refine W.widen (k := 1) (n := 6) (Nat.le_of_ble_eq_true rfl) (Nat.le_of_ble_eq_true rfl) ?_
    have hP9 := hP.sub (ws' := [(a1, .inl (cy 1, 1, .inr (.inl (vp_updL (fun _ => 0) 0 0))))]) [0] rfl
    have hD9 := hD.sub (ws' := [(a1, .inl (cy 1, 1, .inr (.inl (vp_updL (fun _ => 0) 0 0))))]) [0] (by decide) rfl
    exact W.iret (v := 0) hx hb hr (fun t ht hW => ⟨⟨0, 0, rfl, Or.inr (⟨rfl, rfl, by omega⟩), ⟨(vp_updL (fun _ => 0) 0 0), ⟨by rw [ht]; exact hP9, hD9⟩, by decide +kernel⟩⟩, hS.F ht⟩) hS.2.2 dL_converter_27
set_option maxHeartbeats 1000000 in
set_option maxRecDepth 100000 in
theorem C_X11_objectAt_1 (l : Launch) (D : va_G) (cy : Nat → ClassId) (sz0 : Nat) (sa : Nat → Nat) (a0 a1 a2 a3 a4 a5 a6 : Nat) (sz : Nat) (k0 : Int32) : Met l yX11_objectAt wsX11_objectAt ({ frames := 0, cells := 0, slots := 0, locals := 0 }) (PcW D cy sz0 sa [.ref a0, .int k0] [(a0, .inr (13, [.ref a1, .ref a2, .ref a3, .int 0, .ref a4, .int 0, .ref a5, .int 0, .ref a6]))] sz) (va_Qq (fun (r : Option Nat) (u : Unit) => r = none) (fun (u : Unit) (t : State) => BW D [(a0, .inr (13, [.ref a1, .ref a2, .ref a3, .int 0, .ref a4, .int 0, .ref a5, .int 0, .ref a6]))] (va_A [(a0, .inr (13, [.ref a1, .ref a2, .ref a3, .int 0, .ref a4, .int 0, .ref a5, .int 0, .ref a6]))] sz) t) (va_A [(a0, .inr (13, [.ref a1, .ref a2, .ref a3, .int 0, .ref a4, .int 0, .ref a5, .int 0, .ref a6]))] sz)) 0 0 (va_A [(a0, .inr (13, [.ref a1, .ref a2, .ref a3, .int 0, .ref a4, .int 0, .ref a5, .int 0, .ref a6]))] sz) := by
  refine Met.ofW (cc := cX11_objectAt) (maxL := 2) (ret := (some (.object "PhraseDesk$Value"))) (by decide) rfl ?_
  intro p e s m args below meth c s₁ B hml hv
  obtain ⟨rfl, hsz, hP, hD0, hE⟩ := hv
  have hx := B.exec
  have hb := B.bytes
  have hr := B.returns
  have hts := atoms_spec (ws := wsX11_objectAt) B.pre
  have hown : s.vm.findClass RX11 = some m.cls := findClass_of_methodNamed B.named
  have hlocks := B.notSynchronized
  subst hsz
  have hK := hE.1
  have hAm := hE.2.2.1
  have hWm := hE.2.2.2
  have hAO := hWm.2.2.2.1
  have hD := hD0.self (sz := s.heap.size)
  have hAF := frA hD0 hE.2.1
  generalize hAe : va_A [(a0, .inr (13, [.ref a1, .ref a2, .ref a3, .int 0, .ref a4, .int 0, .ref a5, .int 0, .ref a6]))] s.heap.size = A at hD hAF ⊢
  have hA : ∀ q : Nat, s.heap.size ≤ q → A q := fun q h => by rw [← hAe]; exact Or.inr h
  have hS : va_S A s.heap s.heap [] := va_S.rf
  have hl := lv_entry ([.ref a0, .int k0]) (n := 2) (Nat.le_of_ble_eq_true rfl)
  rw [lg_entry_eq]
  generalize (lg_sl ([.ref a0, .int k0]) ++ List.replicate (2 - (lg_sl ([.ref a0, .int k0])).length) Slot.unset).toArray = ls at hl ⊢
  have hl : lv_has ls 2 [(0, .ref a0), (1, .int k0)] := hl
  have hP : va_P D vwCl [(a0, .inr (13, [.ref a1, .ref a2, .ref a3, .int 0, .ref a4, .int 0, .ref a5, .int 0, .ref a6]))] s.heap := hP
  have z0 : (0 : Int32).toInt = 0 := by decide +kernel
  refine lv_iload_n hx hb dX11_objectAt_0 rfl (lv_at hl 1 rfl) ?_
  refine lv_if_lt (tgt := 30) hx hb dX11_objectAt_1 (by decide) (fun c1 => ?_) (fun c1 => ?_)
  · have c1 := z_lt c1
    refine lv_null hx hb dX11_objectAt_30 ?_
    refine W.widen (k := 0) (n := 0) (Nat.le_of_ble_eq_true rfl) (Nat.le_of_ble_eq_true rfl) ?_
    have hP9 := hP.sub (ws' := [(a0, .inr (13, [.ref a1, .ref a2, .ref a3, .int 0, .ref a4, .int 0, .ref a5, .int 0, .ref a6]))]) [0] rfl
    have hD9 := hD.sub (ws' := [(a0, .inr (13, [.ref a1, .ref a2, .ref a3, .int 0, .ref a4, .int 0, .ref a5, .int 0, .ref a6]))]) [0] (by decide) rfl
    exact W.aret (v := .null) hx hb hr (Or.inl ⟨_, rfl⟩) (Or.inl rfl) (fun t ht hW => ⟨⟨none, (), rfl, rfl, ⟨by rw [ht]; exact hP9, hD9⟩⟩, hS.F ht⟩) hS.2.2 dX11_objectAt_31
  · have c1 := z_nlt c1
    refine lv_iload_n hx hb dX11_objectAt_4 rfl (lv_at hl 1 rfl) ?_
    refine lv_aload_n hx hb dX11_objectAt_5 rfl (lv_at hl 0 rfl) ?_
    refine va_get (D := D) (ci := 13) (v := .int 0) (C := RX11) (T := TX11) (N := 9) hx hb hts (fun _ h => List.mem_cons_of_mem _ (List.mem_append_right _ h)) hown hK hP 0 rfl rfl 7 (by decide) (hts (.fieldLink RX11 120 "PhraseDesk" "objectCount" "I") (List.mem_of_getElem? (i := 1) rfl)) (fun _ h9 => h9) rfl dX11_objectAt_6 ?_
    refine lv_icmp_ge (tgt := 30) hx hb dX11_objectAt_9 (by decide) (fun c2 => ?_) (fun c2 => ?_)
    · have c2 := z_le c2
      refine lv_null hx hb dX11_objectAt_30 ?_
      refine W.widen (k := 0) (n := 0) (Nat.le_of_ble_eq_true rfl) (Nat.le_of_ble_eq_true rfl) ?_
      have hP9 := hP.sub (ws' := [(a0, .inr (13, [.ref a1, .ref a2, .ref a3, .int 0, .ref a4, .int 0, .ref a5, .int 0, .ref a6]))]) [0] rfl
      have hD9 := hD.sub (ws' := [(a0, .inr (13, [.ref a1, .ref a2, .ref a3, .int 0, .ref a4, .int 0, .ref a5, .int 0, .ref a6]))]) [0] (by decide) rfl
      exact W.aret (v := .null) hx hb hr (Or.inl ⟨_, rfl⟩) (Or.inl rfl) (fun t ht hW => ⟨⟨none, (), rfl, rfl, ⟨by rw [ht]; exact hP9, hD9⟩⟩, hS.F ht⟩) hS.2.2 dX11_objectAt_31
    · have c2 := z_nle c2
      exfalso
      omega

set_option maxHeartbeats 1000000 in
set_option maxRecDepth 100000 in
theorem C_X11_run_1 (l : Launch) (hfl : l.stackTraces = false) (D : va_G) (cy : Nat → ClassId) (sz0 : Nat) (sa : Nat → Nat) (a0 a1 a2 a3 a4 a5 a6 a7 a8 a9 a10 a11 : Nat) (sz : Nat) (k0 : Int32) (k1 : Int32) : vx_Met l yX11_run wsX11_run ({ frames := 6, cells := 1, slots := 6, locals := 82 }) (PcW D cy sz0 sa [.ref a0, .int k0, .int k1] [(a0, .inr (13, [.ref a2, .ref a1, .ref a3, .int 0, .ref a4, .int 0, .ref a5, .int 0, .ref a6])), (a1, .inr (10, [.ref a7, .ref a8, .ref a9, .ref a10, .ref a11, .int 0, .ref a7, .int 0]))] sz) (va_Qi (fun (r : Int32) (u : Unit) => False) (fun (_ : Unit) (_ : State) => True) (va_A [(a0, .inr (13, [.ref a2, .ref a1, .ref a3, .int 0, .ref a4, .int 0, .ref a5, .int 0, .ref a6])), (a1, .inr (10, [.ref a7, .ref a8, .ref a9, .ref a10, .ref a11, .int 0, .ref a7, .int 0]))] sz)) (vx_X (fun _ : Unit => True) (fun (E : String) (_ : Unit) (_ : State) => E = tIAE ∧ ((k0.toInt < 0 ∧ ¬ k1.toInt = (-1)) ∨ (k0.toInt < 0 ∧ k1.toInt = (-1)) ∨ (0 ≤ k0.toInt ∧ 0 ≤ k0.toInt ∧ ¬ k1.toInt = (-1)) ∨ (0 ≤ k0.toInt ∧ 0 ≤ k0.toInt ∧ k1.toInt = (-1)))) (va_A [(a0, .inr (13, [.ref a2, .ref a1, .ref a3, .int 0, .ref a4, .int 0, .ref a5, .int 0, .ref a6])), (a1, .inr (10, [.ref a7, .ref a8, .ref a9, .ref a10, .ref a11, .int 0, .ref a7, .int 0]))] sz)) 1 6 (va_A [(a0, .inr (13, [.ref a2, .ref a1, .ref a3, .int 0, .ref a4, .int 0, .ref a5, .int 0, .ref a6])), (a1, .inr (10, [.ref a7, .ref a8, .ref a9, .ref a10, .ref a11, .int 0, .ref a7, .int 0]))] sz) := by
  refine vx_ofW (cc := cX11_run) (maxL := 6) (ret := (some .int)) (by decide) rfl ?_
  intro p e s m args below meth c s₁ B hml hout hv
  obtain ⟨rfl, hsz, hP, hD0, hE⟩ := hv
  have hx := B.exec
  have hb := B.bytes
  have hr := B.returns
  have hts := atoms_spec (ws := wsX11_run) B.pre
  have hown : s.vm.findClass RX11 = some m.cls := findClass_of_methodNamed B.named
  have hlocks := B.notSynchronized
  subst hsz
  have hK := hE.1
  have hAm := hE.2.2.1
  have hWm := hE.2.2.2
  have hAO := hWm.2.2.2.1
  have hD := hD0.self (sz := s.heap.size)
  have hAF := frA hD0 hE.2.1
  generalize hAe : va_A [(a0, .inr (13, [.ref a2, .ref a1, .ref a3, .int 0, .ref a4, .int 0, .ref a5, .int 0, .ref a6])), (a1, .inr (10, [.ref a7, .ref a8, .ref a9, .ref a10, .ref a11, .int 0, .ref a7, .int 0]))] s.heap.size = A at hD hAF ⊢
  have hA : ∀ q : Nat, s.heap.size ≤ q → A q := fun q h => by rw [← hAe]; exact Or.inr h
  have hS : va_S A s.heap s.heap [] := va_S.rf
  have hl := lv_entry ([.ref a0, .int k0, .int k1]) (n := 6) (Nat.le_of_ble_eq_true rfl)
  rw [lg_entry_eq]
  generalize (lg_sl ([.ref a0, .int k0, .int k1]) ++ List.replicate (6 - (lg_sl ([.ref a0, .int k0, .int k1])).length) Slot.unset).toArray = ls at hl ⊢
  have hl : lv_has ls 6 [(0, .ref a0), (1, .int k0), (2, .int k1)] := hl
  have hP : va_P D vwCl [(a0, .inr (13, [.ref a2, .ref a1, .ref a3, .int 0, .ref a4, .int 0, .ref a5, .int 0, .ref a6])), (a1, .inr (10, [.ref a7, .ref a8, .ref a9, .ref a10, .ref a11, .int 0, .ref a7, .int 0]))] s.heap := hP
  have zm1 : ((-1) : Int32).toInt = -1 := by decide +kernel
  have z0 : (0 : Int32).toInt = 0 := by decide +kernel
  refine lv_iload_n hx hb dX11_run_0 rfl (lv_at hl 1 rfl) ?_
  refine lv_if_lt (tgt := 30) hx hb dX11_run_1 (by decide) (fun c1 => ?_) (fun c1 => ?_)
  · have c1 := z_lt c1
    refine lv_null hx hb dX11_run_30 ?_
    refine lv_astore_nN (lv' := [(3, .null), (0, .ref a0), (1, .int k0), (2, .int k1)]) hx hb dX11_run_31 rfl hl (by decide) rfl (fun ls hl => ?_)
    refine lv_iload_n hx hb dX11_run_32 rfl (lv_at hl 3 rfl) ?_
    refine lv_iconst (v := (-1)) hx hb dX11_run_33 (by decide +kernel) ?_
    refine lv_icmp_ne (tgt := 47) hx hb dX11_run_34 (by decide) (fun c2 => ?_) (fun c2 => ?_)
    · have c2 := z_ne c2
      refine lv_aload_n hx hb dX11_run_47 rfl (lv_at hl 1 rfl) ?_
      refine lv_iload_n hx hb dX11_run_48 rfl (lv_at hl 3 rfl) ?_
      have hPc := hP.sub (ws' := [(a0, .inr (13, [.ref a2, .ref a1, .ref a3, .int 0, .ref a4, .int 0, .ref a5, .int 0, .ref a6]))]) [0] rfl
      have hDc := hD.sub (ws' := [(a0, .inr (13, [.ref a2, .ref a1, .ref a3, .int 0, .ref a4, .int 0, .ref a5, .int 0, .ref a6]))]) [0] (by decide) rfl
      have hFc := va_free (wc := [(a0, .inr (13, [.ref a2, .ref a1, .ref a3, .int 0, .ref a4, .int 0, .ref a5, .int 0, .ref a6]))]) hD hS hA [0] rfl
      refine va_callq (va_runV (As := [.int k1]) (rest := []) ⟨hx, hb, hml, hown, hts⟩ (C_X11_objectAt_1 l D cy sz0 sa a0 a2 a1 a3 a4 a5 a6 s.heap.size k1) (cwV 1 hts gX11_run_X11_objectAt rfl rfl rfl (by decide +kernel) ⟨Nat.le_of_ble_eq_true rfl, Nat.le_of_ble_eq_true rfl⟩) ⟨PcW.blind, va_recv hK hPc (ci := 13) (q0 := 0) rfl rfl, PcW.mk hE hS hAF hPc hDc⟩ rfl rfl hl.1 rfl (lv_room (Nat.le_of_ble_eq_true rfl)) dX11_run_49 ⟨Nat.le_of_ble_eq_true rfl, Nat.le_of_ble_eq_true rfl⟩) hS (fun q _ h => hFc q h) hFc (fun r_3 u t H1 locs ht hvm hw hB hz1 hk1 hS => ?_)
      obtain ⟨hP1, hD1⟩ := hB
      rw [ht] at hP1
      have hP1 : va_P D vwCl [(a0, .inr (13, [.ref a2, .ref a1, .ref a3, .int 0, .ref a4, .int 0, .ref a5, .int 0, .ref a6]))] H1 := hP1
      obtain ⟨hP, hD⟩ := va_join (wr := [(a1, .inr (10, [.ref a7, .ref a8, .ref a9, .ref a10, .ref a11, .int 0, .ref a7, .int 0]))]) (w1 := [(a0, .inr (13, [.ref a2, .ref a1, .ref a3, .int 0, .ref a4, .int 0, .ref a5, .int 0, .ref a6]))]) hP hD [0] [1] rfl rfl (by decide) (by decide) hk1 hFc hP1 hD1
      clear hP1 hD1 hPc hDc hFc hk1 hz1
      generalize H1 = H at hP hS ⊢
      have hP : va_P D vwCl [(a1, .inr (10, [.ref a7, .ref a8, .ref a9, .ref a10, .ref a11, .int 0, .ref a7, .int 0])), (a0, .inr (13, [.ref a2, .ref a1, .ref a3, .int 0, .ref a4, .int 0, .ref a5, .int 0, .ref a6]))] H := hP
      have hD : va_D A [(a1, .inr (10, [.ref a7, .ref a8, .ref a9, .ref a10, .ref a11, .int 0, .ref a7, .int 0])), (a0, .inr (13, [.ref a2, .ref a1, .ref a3, .int 0, .ref a4, .int 0, .ref a5, .int 0, .ref a6]))] := hD
      refine W.widen (k := 0) (n := 0) (Nat.le_of_ble_eq_true rfl) (Nat.le_of_ble_eq_true rfl) ?_
      obtain rfl : r_3 = none := hw
      refine W.eq (g2 := F0 m 52 ls [.null]) rfl ?_
      refine lv_astoreN (lv' := [(4, .null), (3, .null), (0, .ref a0), (1, .int k0), (2, .int k1)]) hx hb dX11_run_52 hl (by decide) rfl (fun ls hl => ?_)
      refine lv_aload_nN hx hb dX11_run_54 rfl (lv_at hl 1 rfl) ?_
      refine lv_ifnullN (tgt := 63) hx hb dX11_run_55 (by decide) ?_
      exact g_iae hx hb hfl hts hE hAF hown (List.mem_of_getElem? (i := 1) rfl) (List.mem_of_getElem? (i := 2) rfl) (is := 181) (text := "there is no such program or object") (by decide +kernel) (fun _ h => List.mem_cons_of_mem _ (List.mem_append_right _ h)) hS (by rw [hml]; exact hl.1) dX11_run_63 dX11_run_66 dX11_run_67 dX11_run_69 dX11_run_72 hout (by decide) (by decide) (Nat.le_of_ble_eq_true rfl) (Nat.le_of_ble_eq_true rfl) hlocks (fun t h1 h2 h3 => ⟨(), trivial, ⟨rfl, by omega⟩, Nat.le_trans hS.1 h2, fun q h4 h5 => (h3 q (Nat.lt_of_lt_of_le h4 hS.1)).trans (hS.2.1 q h4 h5)⟩) hS.2.2 (Nat.le_of_ble_eq_true rfl) (Nat.le_of_ble_eq_true rfl)
    · have c2 := z_eq c2
      refine lv_aload_n hx hb dX11_run_37 rfl (lv_at hl 1 rfl) ?_
      refine va_get (D := D) (ci := 13) (v := .ref a1) (C := RX11) (T := TX11) (N := 9) hx hb hts (fun _ h => List.mem_cons_of_mem _ (List.mem_append_left _ (List.mem_append_left _ (List.mem_append_left _ (List.mem_append_left _ (List.mem_append_left _ (List.mem_append_left _ (List.mem_append_left _ (List.mem_append_left _ (List.mem_append_left _ (List.mem_append_left _ (List.mem_append_left _ (List.mem_append_left _ (List.mem_append_right _ h)))))))))))))) hown hK hP 0 rfl rfl 1 (by decide) (hts (.fieldLink RX11 19 "PhraseDesk" "runner" "LPhraseDesk$Runner;") (List.mem_of_getElem? (i := 5) rfl)) (fun _ h9 => h9) rfl dX11_run_38 ?_
      refine va_get (D := D) (ci := 10) (v := .ref a7) (C := RX8) (T := TX8) (N := 8) hx hb hts (fun _ h => List.mem_cons_of_mem _ (List.mem_append_left _ (List.mem_append_left _ (List.mem_append_left _ (List.mem_append_left _ (List.mem_append_left _ (List.mem_append_left _ (List.mem_append_left _ (List.mem_append_left _ (List.mem_append_left _ (List.mem_append_left _ (List.mem_append_left _ (List.mem_append_right _ h))))))))))))) hown hK hP 1 rfl rfl 0 (by decide) (hts (.fieldLink RX11 155 "PhraseDesk$Runner" "nothing" "LPhraseDesk$Value;") (List.mem_of_getElem? (i := 6) rfl)) (fun _ h9 => h9) rfl dX11_run_41 ?_
      refine lv_goto (tgt := 52) hx hb dX11_run_44 (by decide) ?_
      refine lv_astore (lv' := [(4, .ref a7), (3, .null), (0, .ref a0), (1, .int k0), (2, .int k1)]) hx hb dX11_run_52 hl (by decide) rfl (fun ls hl => ?_)
      refine lv_aload_nN hx hb dX11_run_54 rfl (lv_at hl 1 rfl) ?_
      refine lv_ifnullN (tgt := 63) hx hb dX11_run_55 (by decide) ?_
      exact g_iae hx hb hfl hts hE hAF hown (List.mem_of_getElem? (i := 1) rfl) (List.mem_of_getElem? (i := 2) rfl) (is := 181) (text := "there is no such program or object") (by decide +kernel) (fun _ h => List.mem_cons_of_mem _ (List.mem_append_right _ h)) hS (by rw [hml]; exact hl.1) dX11_run_63 dX11_run_66 dX11_run_67 dX11_run_69 dX11_run_72 hout (by decide) (by decide) (Nat.le_of_ble_eq_true rfl) (Nat.le_of_ble_eq_true rfl) hlocks (fun t h1 h2 h3 => ⟨(), trivial, ⟨rfl, by omega⟩, Nat.le_trans hS.1 h2, fun q h4 h5 => (h3 q (Nat.lt_of_lt_of_le h4 hS.1)).trans (hS.2.1 q h4 h5)⟩) hS.2.2 (Nat.le_of_ble_eq_true rfl) (Nat.le_of_ble_eq_true rfl)
  · have c1 := z_nlt c1
    refine lv_iload_n hx hb dX11_run_4 rfl (lv_at hl 1 rfl) ?_
    refine lv_aload_n hx hb dX11_run_5 rfl (lv_at hl 0 rfl) ?_
    refine va_get (D := D) (ci := 13) (v := .int 0) (C := RX11) (T := TX11) (N := 9) hx hb hts (fun _ h => List.mem_cons_of_mem _ (List.mem_append_left _ (List.mem_append_left _ (List.mem_append_left _ (List.mem_append_left _ (List.mem_append_left _ (List.mem_append_left _ (List.mem_append_left _ (List.mem_append_left _ (List.mem_append_left _ (List.mem_append_left _ (List.mem_append_left _ (List.mem_append_left _ (List.mem_append_right _ h)))))))))))))) hown hK hP 0 rfl rfl 3 (by decide) (hts (.fieldLink RX11 75 "PhraseDesk" "programCount" "I") (List.mem_of_getElem? (i := 3) rfl)) (fun _ h9 => h9) rfl dX11_run_6 ?_
    refine lv_icmp_ge (tgt := 30) hx hb dX11_run_9 (by decide) (fun c4 => ?_) (fun c4 => ?_)
    · have c4 := z_le c4
      refine lv_null hx hb dX11_run_30 ?_
      refine lv_astore_nN (lv' := [(3, .null), (0, .ref a0), (1, .int k0), (2, .int k1)]) hx hb dX11_run_31 rfl hl (by decide) rfl (fun ls hl => ?_)
      refine lv_iload_n hx hb dX11_run_32 rfl (lv_at hl 3 rfl) ?_
      refine lv_iconst (v := (-1)) hx hb dX11_run_33 (by decide +kernel) ?_
      refine lv_icmp_ne (tgt := 47) hx hb dX11_run_34 (by decide) (fun c5 => ?_) (fun c5 => ?_)
      · have c5 := z_ne c5
        refine lv_aload_n hx hb dX11_run_47 rfl (lv_at hl 1 rfl) ?_
        refine lv_iload_n hx hb dX11_run_48 rfl (lv_at hl 3 rfl) ?_
        have hPc := hP.sub (ws' := [(a0, .inr (13, [.ref a2, .ref a1, .ref a3, .int 0, .ref a4, .int 0, .ref a5, .int 0, .ref a6]))]) [0] rfl
        have hDc := hD.sub (ws' := [(a0, .inr (13, [.ref a2, .ref a1, .ref a3, .int 0, .ref a4, .int 0, .ref a5, .int 0, .ref a6]))]) [0] (by decide) rfl
        have hFc := va_free (wc := [(a0, .inr (13, [.ref a2, .ref a1, .ref a3, .int 0, .ref a4, .int 0, .ref a5, .int 0, .ref a6]))]) hD hS hA [0] rfl
        refine va_callq (va_runV (As := [.int k1]) (rest := []) ⟨hx, hb, hml, hown, hts⟩ (C_X11_objectAt_1 l D cy sz0 sa a0 a2 a1 a3 a4 a5 a6 s.heap.size k1) (cwV 1 hts gX11_run_X11_objectAt rfl rfl rfl (by decide +kernel) ⟨Nat.le_of_ble_eq_true rfl, Nat.le_of_ble_eq_true rfl⟩) ⟨PcW.blind, va_recv hK hPc (ci := 13) (q0 := 0) rfl rfl, PcW.mk hE hS hAF hPc hDc⟩ rfl rfl hl.1 rfl (lv_room (Nat.le_of_ble_eq_true rfl)) dX11_run_49 ⟨Nat.le_of_ble_eq_true rfl, Nat.le_of_ble_eq_true rfl⟩) hS (fun q _ h => hFc q h) hFc (fun r_6 u t H1 locs ht hvm hw hB hz1 hk1 hS => ?_)
        obtain ⟨hP1, hD1⟩ := hB
        rw [ht] at hP1
        have hP1 : va_P D vwCl [(a0, .inr (13, [.ref a2, .ref a1, .ref a3, .int 0, .ref a4, .int 0, .ref a5, .int 0, .ref a6]))] H1 := hP1
        obtain ⟨hP, hD⟩ := va_join (wr := [(a1, .inr (10, [.ref a7, .ref a8, .ref a9, .ref a10, .ref a11, .int 0, .ref a7, .int 0]))]) (w1 := [(a0, .inr (13, [.ref a2, .ref a1, .ref a3, .int 0, .ref a4, .int 0, .ref a5, .int 0, .ref a6]))]) hP hD [0] [1] rfl rfl (by decide) (by decide) hk1 hFc hP1 hD1
        clear hP1 hD1 hPc hDc hFc hk1 hz1
        generalize H1 = H at hP hS ⊢
        have hP : va_P D vwCl [(a1, .inr (10, [.ref a7, .ref a8, .ref a9, .ref a10, .ref a11, .int 0, .ref a7, .int 0])), (a0, .inr (13, [.ref a2, .ref a1, .ref a3, .int 0, .ref a4, .int 0, .ref a5, .int 0, .ref a6]))] H := hP
        have hD : va_D A [(a1, .inr (10, [.ref a7, .ref a8, .ref a9, .ref a10, .ref a11, .int 0, .ref a7, .int 0])), (a0, .inr (13, [.ref a2, .ref a1, .ref a3, .int 0, .ref a4, .int 0, .ref a5, .int 0, .ref a6]))] := hD
        refine W.widen (k := 0) (n := 0) (Nat.le_of_ble_eq_true rfl) (Nat.le_of_ble_eq_true rfl) ?_
        obtain rfl : r_6 = none := hw
        refine W.eq (g2 := F0 m 52 ls [.null]) rfl ?_
        refine lv_astoreN (lv' := [(4, .null), (3, .null), (0, .ref a0), (1, .int k0), (2, .int k1)]) hx hb dX11_run_52 hl (by decide) rfl (fun ls hl => ?_)
        refine lv_aload_nN hx hb dX11_run_54 rfl (lv_at hl 1 rfl) ?_
        refine lv_ifnullN (tgt := 63) hx hb dX11_run_55 (by decide) ?_
        exact g_iae hx hb hfl hts hE hAF hown (List.mem_of_getElem? (i := 1) rfl) (List.mem_of_getElem? (i := 2) rfl) (is := 181) (text := "there is no such program or object") (by decide +kernel) (fun _ h => List.mem_cons_of_mem _ (List.mem_append_right _ h)) hS (by rw [hml]; exact hl.1) dX11_run_63 dX11_run_66 dX11_run_67 dX11_run_69 dX11_run_72 hout (by decide) (by decide) (Nat.le_of_ble_eq_true rfl) (Nat.le_of_ble_eq_true rfl) hlocks (fun t h1 h2 h3 => ⟨(), trivial, ⟨rfl, by omega⟩, Nat.le_trans hS.1 h2, fun q h4 h5 => (h3 q (Nat.lt_of_lt_of_le h4 hS.1)).trans (hS.2.1 q h4 h5)⟩) hS.2.2 (Nat.le_of_ble_eq_true rfl) (Nat.le_of_ble_eq_true rfl)
      · have c5 := z_eq c5
        refine lv_aload_n hx hb dX11_run_37 rfl (lv_at hl 1 rfl) ?_
        refine va_get (D := D) (ci := 13) (v := .ref a1) (C := RX11) (T := TX11) (N := 9) hx hb hts (fun _ h => List.mem_cons_of_mem _ (List.mem_append_left _ (List.mem_append_left _ (List.mem_append_left _ (List.mem_append_left _ (List.mem_append_left _ (List.mem_append_left _ (List.mem_append_left _ (List.mem_append_left _ (List.mem_append_left _ (List.mem_append_left _ (List.mem_append_left _ (List.mem_append_left _ (List.mem_append_right _ h)))))))))))))) hown hK hP 0 rfl rfl 1 (by decide) (hts (.fieldLink RX11 19 "PhraseDesk" "runner" "LPhraseDesk$Runner;") (List.mem_of_getElem? (i := 5) rfl)) (fun _ h9 => h9) rfl dX11_run_38 ?_
        refine va_get (D := D) (ci := 10) (v := .ref a7) (C := RX8) (T := TX8) (N := 8) hx hb hts (fun _ h => List.mem_cons_of_mem _ (List.mem_append_left _ (List.mem_append_left _ (List.mem_append_left _ (List.mem_append_left _ (List.mem_append_left _ (List.mem_append_left _ (List.mem_append_left _ (List.mem_append_left _ (List.mem_append_left _ (List.mem_append_left _ (List.mem_append_left _ (List.mem_append_right _ h))))))))))))) hown hK hP 1 rfl rfl 0 (by decide) (hts (.fieldLink RX11 155 "PhraseDesk$Runner" "nothing" "LPhraseDesk$Value;") (List.mem_of_getElem? (i := 6) rfl)) (fun _ h9 => h9) rfl dX11_run_41 ?_
        refine lv_goto (tgt := 52) hx hb dX11_run_44 (by decide) ?_
        refine lv_astore (lv' := [(4, .ref a7), (3, .null), (0, .ref a0), (1, .int k0), (2, .int k1)]) hx hb dX11_run_52 hl (by decide) rfl (fun ls hl => ?_)
        refine lv_aload_nN hx hb dX11_run_54 rfl (lv_at hl 1 rfl) ?_
        refine lv_ifnullN (tgt := 63) hx hb dX11_run_55 (by decide) ?_
        exact g_iae hx hb hfl hts hE hAF hown (List.mem_of_getElem? (i := 1) rfl) (List.mem_of_getElem? (i := 2) rfl) (is := 181) (text := "there is no such program or object") (by decide +kernel) (fun _ h => List.mem_cons_of_mem _ (List.mem_append_right _ h)) hS (by rw [hml]; exact hl.1) dX11_run_63 dX11_run_66 dX11_run_67 dX11_run_69 dX11_run_72 hout (by decide) (by decide) (Nat.le_of_ble_eq_true rfl) (Nat.le_of_ble_eq_true rfl) hlocks (fun t h1 h2 h3 => ⟨(), trivial, ⟨rfl, by omega⟩, Nat.le_trans hS.1 h2, fun q h4 h5 => (h3 q (Nat.lt_of_lt_of_le h4 hS.1)).trans (hS.2.1 q h4 h5)⟩) hS.2.2 (Nat.le_of_ble_eq_true rfl) (Nat.le_of_ble_eq_true rfl)
    · have c4 := z_nle c4
      exfalso
      omega
set_option maxHeartbeats 1000000 in
set_option maxRecDepth 100000 in
theorem C_L_run_1 (l : Launch) (hfl : l.stackTraces = false) (D : va_G) (cy : Nat → ClassId) (sz0 : Nat) (sa : Nat → Nat) (a0 a1 a2 a3 a4 a5 a6 a7 a8 a9 a10 a11 a12 : Nat) (sz : Nat) (k0 : Int32) (k1 : Int32) : Met l yL_run wsL_run ({ frames := 7, cells := 1, slots := 6, locals := 107 }) (PcW D cy sz0 sa [.ref a0, .int k0, .int k1, .ref a1] [(a0, .inr (13, [.ref a3, .ref a2, .ref a4, .int 0, .ref a5, .int 0, .ref a6, .int 0, .ref a7])), (a2, .inr (10, [.ref a8, .ref a9, .ref a10, .ref a11, .ref a12, .int 0, .ref a8, .int 0]))] sz) (va_Qi (fun (r : Int32) (u : Unit) => r = 1) (fun (_ : Unit) (_ : State) => True) (va_A [(a0, .inr (13, [.ref a3, .ref a2, .ref a4, .int 0, .ref a5, .int 0, .ref a6, .int 0, .ref a7])), (a2, .inr (10, [.ref a8, .ref a9, .ref a10, .ref a11, .ref a12, .int 0, .ref a8, .int 0]))] sz)) 1 6 (va_A [(a0, .inr (13, [.ref a3, .ref a2, .ref a4, .int 0, .ref a5, .int 0, .ref a6, .int 0, .ref a7])), (a2, .inr (10, [.ref a8, .ref a9, .ref a10, .ref a11, .ref a12, .int 0, .ref a8, .int 0]))] sz) := by
  refine va_MetW (cc := cL_run) (maxL := 5) (ret := (some .int)) (hh := [(0, 10, 13, 13)]) (by decide) rfl ?_
  intro p e s m args below meth c s₁ B hml hv
  obtain ⟨rfl, hsz, hP, hD0, hE⟩ := hv
  have hx := B.exec
  have hb := B.bytes
  have hr := B.returns
  have hts := atoms_spec (ws := wsL_run) B.pre
  have hown : s.vm.findClass RL = some m.cls := findClass_of_methodNamed B.named
  have hlocks := B.notSynchronized
  subst hsz
  have hK := hE.1
  have hAm := hE.2.2.1
  have hWm := hE.2.2.2
  have hAO := hWm.2.2.2.1
  have hD := hD0.self (sz := s.heap.size)
  have hAF := frA hD0 hE.2.1
  generalize hAe : va_A [(a0, .inr (13, [.ref a3, .ref a2, .ref a4, .int 0, .ref a5, .int 0, .ref a6, .int 0, .ref a7])), (a2, .inr (10, [.ref a8, .ref a9, .ref a10, .ref a11, .ref a12, .int 0, .ref a8, .int 0]))] s.heap.size = A at hD hAF ⊢
  have hA : ∀ q : Nat, s.heap.size ≤ q → A q := fun q h => by rw [← hAe]; exact Or.inr h
  have hS : va_S A s.heap s.heap [] := va_S.rf
  have hl := lv_entry ([.ref a0, .int k0, .int k1, .ref a1]) (n := 5) (Nat.le_of_ble_eq_true rfl)
  rw [lg_entry_eq]
  generalize (lg_sl ([.ref a0, .int k0, .int k1, .ref a1]) ++ List.replicate (5 - (lg_sl ([.ref a0, .int k0, .int k1, .ref a1])).length) Slot.unset).toArray = ls at hl ⊢
  have hl : lv_has ls 5 [(0, .ref a0), (1, .int k0), (2, .int k1), (3, .ref a1)] := hl
  have hP : va_P D vwCl [(a0, .inr (13, [.ref a3, .ref a2, .ref a4, .int 0, .ref a5, .int 0, .ref a6, .int 0, .ref a7])), (a2, .inr (10, [.ref a8, .ref a9, .ref a10, .ref a11, .ref a12, .int 0, .ref a8, .int 0]))] s.heap := hP
  have zm1 : ((-1) : Int32).toInt = -1 := by decide +kernel
  have z0 : (0 : Int32).toInt = 0 := by decide +kernel
  refine lv_aload_n hx hb dL_run_0 rfl (lv_at hl 3 rfl) ?_
  refine lv_iconst (v := 0) hx hb dL_run_1 (by decide +kernel) ?_
  refine lv_aload_n hx hb dL_run_2 rfl (lv_at hl 0 rfl) ?_
  refine lv_iload_n hx hb dL_run_3 rfl (lv_at hl 1 rfl) ?_
  refine lv_iload_n hx hb dL_run_4 rfl (lv_at hl 2 rfl) ?_
  have hPc := hP.sub (ws' := [(a0, .inr (13, [.ref a3, .ref a2, .ref a4, .int 0, .ref a5, .int 0, .ref a6, .int 0, .ref a7])), (a2, .inr (10, [.ref a8, .ref a9, .ref a10, .ref a11, .ref a12, .int 0, .ref a8, .int 0]))]) [0, 1] rfl
  have hDc := hD.sub (ws' := [(a0, .inr (13, [.ref a3, .ref a2, .ref a4, .int 0, .ref a5, .int 0, .ref a6, .int 0, .ref a7])), (a2, .inr (10, [.ref a8, .ref a9, .ref a10, .ref a11, .ref a12, .int 0, .ref a8, .int 0]))]) [0, 1] (by decide) rfl
  have hFc := va_free (wc := [(a0, .inr (13, [.ref a3, .ref a2, .ref a4, .int 0, .ref a5, .int 0, .ref a6, .int 0, .ref a7])), (a2, .inr (10, [.ref a8, .ref a9, .ref a10, .ref a11, .ref a12, .int 0, .ref a8, .int 0]))]) hD hS hA [0, 1] rfl
  refine vx_calli (vx_runV (As := [.int k0, .int k1]) (rest := [.int 0, .ref a1]) ⟨hx, hb, hml, hown, hts⟩ (C_X11_run_1 l hfl D cy sz0 sa a0 a2 a3 a4 a5 a6 a7 a8 a9 a10 a11 a12 s.heap.size k0 k1) (cwV 2 hts gL_run_X11_run rfl rfl rfl (by decide +kernel) ⟨Nat.le_of_ble_eq_true rfl, Nat.le_of_ble_eq_true rfl⟩) ⟨PcW.blind, va_recv hK hPc (ci := 13) (q0 := 0) rfl rfl, PcW.mk hE hS hAF hPc hDc⟩ rfl rfl hl.1 rfl (lv_room (Nat.le_of_ble_eq_true rfl)) dL_run_5 ⟨Nat.le_of_ble_eq_true rfl, Nat.le_of_ble_eq_true rfl⟩) hS (fun q _ h => hFc q h) hFc (fun q _ h => hFc q h) (fun E ce q9 u t H1 locs ht hvm hpx hbx hz1 hk1 hS hq9 hv9 hc9 => ?_) (fun r_1 u t H1 locs ht hvm hw hB hz1 hk1 hS => ?_)
  · obtain ⟨rfl, hxr_1⟩ := hbx
    obtain ⟨hP, hD⟩ := va_join (wr := []) (w1 := []) hP hD [0, 1] [] rfl rfl (by decide) (by decide) hk1 hFc nilP nilD
    skip
    have hq8 := hq9
    clear hPc hDc hFc hk1 hz1
    skip
    have hP : va_P D vwCl [] H1 := hP
    have hD : va_D A [] := hD
    refine vx_widen (k := 1) (n := 6) (Nat.le_of_ble_eq_true rfl) (Nat.le_of_ble_eq_true rfl) ?_
    refine vx_catch hown [] _ _ ((vx_table B (hts (.codeWith yL_run cL_run 5 (some .int) [(0, 10, 13, 13)]) (List.mem_of_getElem? (i := 0) rfl))).trans rfl) (fun z hz => absurd hz List.not_mem_nil) (by decide) (by decide) (hts (.classLink RL 13 "java/lang/IllegalArgumentException") (List.mem_of_getElem? (i := 1) rfl)) (va_Nw.use rfl hWm.2.2.1.2.2.2.1) hq9 hv9 hc9 ?_
    clear hq8 hq9 ht
    generalize H1 = H at hP hS ⊢
    refine lv_astore (lv' := [(4, .ref q9), (0, .ref a0), (1, .int k0), (2, .int k1), (3, .ref a1)]) hx hb dL_run_13 hl (by decide) rfl (fun ls hl => ?_)
    refine lv_iconst (v := 1) hx hb dL_run_15 (by decide +kernel) ?_
    refine W.widen (k := 1) (n := 6) (Nat.le_of_ble_eq_true rfl) (Nat.le_of_ble_eq_true rfl) ?_
    exact W.iret (v := 1) hx hb hr (fun t ht hW => ⟨⟨1, (), rfl, rfl, trivial⟩, hS.F ht⟩) hS.2.2 dL_run_16
  · obtain ⟨hP, hD⟩ := va_join (wr := []) (w1 := []) hP hD [0, 1] [] rfl rfl (by decide) (by decide) hk1 hFc nilP nilD
    clear hPc hDc hFc hk1 hz1
    generalize H1 = H at hP hS ⊢
    have hP : va_P D vwCl [] H := hP
    have hD : va_D A [] := hD
    refine W.widen (k := 1) (n := 6) (Nat.le_of_ble_eq_true rfl) (Nat.le_of_ble_eq_true rfl) ?_
    rcases hw with 
set_option maxHeartbeats 1000000 in
set_option maxRecDepth 100000 in
theorem C_X11_isName_1 (l : Launch) (D : va_G) (cy : Nat → ClassId) (sz0 : Nat) (sa : Nat → Nat)  (sz : Nat) (k0 : Int32) : Met l yX11_isName wsX11_isName ({ frames := 0, cells := 0, slots := 0, locals := 0 }) (PcW D cy sz0 sa [.int k0] [] sz) (va_Qi (fun (r : Int32) (u : Unit) => (r = 0 ∧ (k0.toInt < 1 ∨ (1 ≤ k0.toInt ∧ 14348906 < k0.toInt))) ∨ (r = 1 ∧ (1 ≤ k0.toInt ∧ k0.toInt ≤ 14348906))) (fun (u : Unit) (t : State) => BW D [] (va_A [] sz) t) (va_A [] sz)) 0 0 (va_A [] sz) := by
  refine Met.ofW (cc := cX11_isName) (maxL := 1) (ret := (some .boolean)) (by decide) rfl ?_
  intro p e s m args below meth c s₁ B hml hv
  obtain ⟨rfl, hsz, hP, hD0, hE⟩ := hv
  have hx := B.exec
  have hb := B.bytes
  have hr := B.returns
  have hts := atoms_spec (ws := wsX11_isName) B.pre
  have hown : s.vm.findClass RX11 = some m.cls := findClass_of_methodNamed B.named
  have hlocks := B.notSynchronized
  subst hsz
  have hK := hE.1
  have hAm := hE.2.2.1
  have hWm := hE.2.2.2
  have hAO := hWm.2.2.2.1
  have hD := hD0.self (sz := s.heap.size)
  have hAF := frA hD0 hE.2.1
  generalize hAe : va_A [] s.heap.size = A at hD hAF ⊢
  have hA : ∀ q : Nat, s.heap.size ≤ q → A q := fun q h => by rw [← hAe]; exact Or.inr h
  have hS : va_S A s.heap s.heap [] := va_S.rf
  have hl := lv_entry ([.int k0]) (n := 1) (Nat.le_of_ble_eq_true rfl)
  rw [lg_entry_eq]
  generalize (lg_sl ([.int k0]) ++ List.replicate (1 - (lg_sl ([.int k0])).length) Slot.unset).toArray = ls at hl ⊢
  have hl : lv_has ls 1 [(0, .int k0)] := hl
  have hP : va_P D vwCl [] s.heap := hP
  have z1 : (1 : Int32).toInt = 1 := by decide +kernel
  have z14348906 : (14348906 : Int32).toInt = 14348906 := by decide +kernel
  refine lv_iload_n hx hb dX11_isName_0 rfl (lv_at hl 0 rfl) ?_
  refine lv_iconst (v := 1) hx hb dX11_isName_1 (by decide +kernel) ?_
  refine lv_icmp_lt (tgt := 15) hx hb dX11_isName_2 (by decide) (fun c1 => ?_) (fun c1 => ?_)
  · have c1 := z_lt c1
    refine lv_iconst (v := 0) hx hb dX11_isName_15 (by decide +kernel) ?_
    refine W.widen (k := 0) (n := 0) (Nat.le_of_ble_eq_true rfl) (Nat.le_of_ble_eq_true rfl) ?_
    have hP9 := hP.sub (ws' := []) [] rfl
    have hD9 := hD.sub (ws' := []) [] (by decide) rfl
    exact W.zret (v := 0) (ty := .boolean) hx hb hr rfl (fun t ht hW => ⟨⟨0, (), rfl, Or.inl ⟨rfl, by omega⟩, ⟨by rw [ht]; exact hP9, hD9⟩⟩, hS.F ht⟩) hS.2.2 dX11_isName_16
  · have c1 := z_nlt c1
    refine lv_iload_n hx hb dX11_isName_5 rfl (lv_at hl 0 rfl) ?_
    refine lv_ldc (v := 14348906) hx hb hown (hts (.constant RX11 236 (14348906)) (List.mem_of_getElem? (i := 1) rfl)) dX11_isName_6 ?_
    refine lv_icmp_gt (tgt := 15) hx hb dX11_isName_8 (by decide) (fun c2 => ?_) (fun c2 => ?_)
    · have c2 := z_lt c2
      refine lv_iconst (v := 0) hx hb dX11_isName_15 (by decide +kernel) ?_
      refine W.widen (k := 0) (n := 0) (Nat.le_of_ble_eq_true rfl) (Nat.le_of_ble_eq_true rfl) ?_
      have hP9 := hP.sub (ws' := []) [] rfl
      have hD9 := hD.sub (ws' := []) [] (by decide) rfl
      exact W.zret (v := 0) (ty := .boolean) hx hb hr rfl (fun t ht hW => ⟨⟨0, (), rfl, Or.inl ⟨rfl, by omega⟩, ⟨by rw [ht]; exact hP9, hD9⟩⟩, hS.F ht⟩) hS.2.2 dX11_isName_16
    · have c2 := z_nlt c2
      refine lv_iconst (v := 1) hx hb dX11_isName_11 (by decide +kernel) ?_
      refine lv_goto (tgt := 16) hx hb dX11_isName_12 (by decide) ?_
      refine W.widen (k := 0) (n := 0) (Nat.le_of_ble_eq_true rfl) (Nat.le_of_ble_eq_true rfl) ?_
      have hP9 := hP.sub (ws' := []) [] rfl
      have hD9 := hD.sub (ws' := []) [] (by decide) rfl
      exact W.zret (v := 1) (ty := .boolean) hx hb hr rfl (fun t ht hW => ⟨⟨1, (), rfl, Or.inr (⟨rfl, by omega⟩), ⟨by rw [ht]; exact hP9, hD9⟩⟩, hS.F ht⟩) hS.2.2 dX11_isName_16

set_option maxHeartbeats 1000000 in
set_option maxRecDepth 100000 in
theorem C_X8_setVariable_1 (l : Launch) (D : va_G) (cy : Nat → ClassId) (sz0 : Nat) (sa : Nat → Nat) (a0 a1 a2 a3 a4 a5 a6 : Nat) (sz : Nat) (k0 : Int32) : Met l yX8_setVariable wsX8_setVariable ({ frames := 0, cells := 0, slots := 0, locals := 0 }) (PcW D cy sz0 sa [.ref a0, .int k0, .ref a1] [(a0, .inr (10, [.ref a4, .ref a5, .ref a6, .ref a2, .ref a3, .int 0, .ref a4, .int 0])), (a2, .inl (cy 0, 12, .inl (fun _ => 0))), (a3, .inl (cy 6, 12, .inr (.inr (.inr (.inr (fun _ => none)))))), (a1, .inr (12, [.int 0, .int 0, .double FP.dconst0, .ref (sa 0), .null]))] sz) (va_Qi (fun (r : Int32) (u : Unit) => r = 1) (fun (u : Unit) (t : State) => BW D [(a0, .inr (10, [.ref a4, .ref a5, .ref a6, .ref a2, .ref a3, .int 1, .ref a4, .int 0])), (a2, .inl (cy 0, 12, .inl (upd (fun _ => 0) 0 k0))), (a3, .inl (cy 6, 12, .inr (.inr (.inr (.inr (va_up (fun _ => none) 0 (some a1))))))), (a1, .inr (12, [.int 0, .int 0, .double FP.dconst0, .ref (sa 0), .null]))] (va_A [(a0, .inr (10, [.ref a4, .ref a5, .ref a6, .ref a2, .ref a3, .int 0, .ref a4, .int 0])), (a2, .inl (cy 0, 12, .inl (fun _ => 0))), (a3, .inl (cy 6, 12, .inr (.inr (.inr (.inr (fun _ => none)))))), (a1, .inr (12, [.int 0, .int 0, .double FP.dconst0, .ref (sa 0), .null]))] sz) t) (va_A [(a0, .inr (10, [.ref a4, .ref a5, .ref a6, .ref a2, .ref a3, .int 0, .ref a4, .int 0])), (a2, .inl (cy 0, 12, .inl (fun _ => 0))), (a3, .inl (cy 6, 12, .inr (.inr (.inr (.inr (fun _ => none)))))), (a1, .inr (12, [.int 0, .int 0, .double FP.dconst0, .ref (sa 0), .null]))] sz)) 0 0 (va_A [(a0, .inr (10, [.ref a4, .ref a5, .ref a6, .ref a2, .ref a3, .int 0, .ref a4, .int 0])), (a2, .inl (cy 0, 12, .inl (fun _ => 0))), (a3, .inl (cy 6, 12, .inr (.inr (.inr (.inr (fun _ => none)))))), (a1, .inr (12, [.int 0, .int 0, .double FP.dconst0, .ref (sa 0), .null]))] sz) := by
  refine Met.ofW (cc := cX8_setVariable) (maxL := 4) (ret := (some .boolean)) (by decide) rfl ?_
  intro p e s m args below meth c s₁ B hml hv
  obtain ⟨rfl, hsz, hP, hD0, hE⟩ := hv
  have hx := B.exec
  have hb := B.bytes
  have hr := B.returns
  have hts := atoms_spec (ws := wsX8_setVariable) B.pre
  have hown : s.vm.findClass RX8 = some m.cls := findClass_of_methodNamed B.named
  have hlocks := B.notSynchronized
  subst hsz
  have hK := hE.1
  have hAm := hE.2.2.1
  have hWm := hE.2.2.2
  have hAO := hWm.2.2.2.1
  have hD := hD0.self (sz := s.heap.size)
  have hAF := frA hD0 hE.2.1
  generalize hAe : va_A [(a0, .inr (10, [.ref a4, .ref a5, .ref a6, .ref a2, .ref a3, .int 0, .ref a4, .int 0])), (a2, .inl (cy 0, 12, .inl (fun _ => 0))), (a3, .inl (cy 6, 12, .inr (.inr (.inr (.inr (fun _ => none)))))), (a1, .inr (12, [.int 0, .int 0, .double FP.dconst0, .ref (sa 0), .null]))] s.heap.size = A at hD hAF ⊢
  have hA : ∀ q : Nat, s.heap.size ≤ q → A q := fun q h => by rw [← hAe]; exact Or.inr h
  have hS : va_S A s.heap s.heap [] := va_S.rf
  have hl := lv_entry ([.ref a0, .int k0, .ref a1]) (n := 4) (Nat.le_of_ble_eq_true rfl)
  rw [lg_entry_eq]
  generalize (lg_sl ([.ref a0, .int k0, .ref a1]) ++ List.replicate (4 - (lg_sl ([.ref a0, .int k0, .ref a1])).length) Slot.unset).toArray = ls at hl ⊢
  have hl : lv_has ls 4 [(0, .ref a0), (1, .int k0), (2, .ref a1)] := hl
  have hP : va_P D vwCl [(a0, .inr (10, [.ref a4, .ref a5, .ref a6, .ref a2, .ref a3, .int 0, .ref a4, .int 0])), (a2, .inl (cy 0, 12, .inl (fun _ => 0))), (a3, .inl (cy 6, 12, .inr (.inr (.inr (.inr (fun _ => none)))))), (a1, .inr (12, [.int 0, .int 0, .double FP.dconst0, .ref (sa 0), .null]))] s.heap := hP
  refine lv_iconst (v := 0) hx hb dX8_setVariable_0 (by decide +kernel) ?_
  refine lv_istore_n (lv' := [(3, .int 0), (0, .ref a0), (1, .int k0), (2, .ref a1)]) hx hb dX8_setVariable_1 rfl hl (by decide) rfl (fun ls hl => ?_)
  refine lv_iload_n hx hb dX8_setVariable_2 rfl (lv_at hl 0 rfl) ?_
  refine lv_aload_n hx hb dX8_setVariable_3 rfl (lv_at hl 1 rfl) ?_
  refine va_get (D := D) (ci := 10) (v := .int 0) (C := RX8) (T := TX8) (N := 8) hx hb hts (fun _ h => List.mem_cons_of_mem _ (List.mem_append_right _ h)) hown hK hP 0 rfl rfl 5 (by decide) (hts (.fieldLink RX8 273 "PhraseDesk$Runner" "variableCount" "I") (List.mem_of_getElem? (i := 1) rfl)) (fun _ h9 => h9) rfl dX8_setVariable_4 ?_
  refine lv_icmp_ge (tgt := 35) hx hb dX8_setVariable_7 (by decide) (fun _ => ?_) (fun c1 => absurd (by decide +kernel) c1)
  refine lv_iload_n hx hb dX8_setVariable_35 rfl (lv_at hl 0 rfl) ?_
  refine lv_aload_n hx hb dX8_setVariable_36 rfl (lv_at hl 1 rfl) ?_
  refine va_get (D := D) (ci := 10) (v := .ref a2) (C := RX8) (T := TX8) (N := 8) hx hb hts (fun _ h => List.mem_cons_of_mem _ (List.mem_append_right _ h)) hown hK hP 0 rfl rfl 3 (by decide) (hts (.fieldLink RX8 35 "PhraseDesk$Runner" "variableNames" "[I") (List.mem_of_getElem? (i := 2) rfl)) (fun _ h9 => h9) rfl dX8_setVariable_37 ?_
  refine va_alen (v := 12) hx hb hK hP 1 0 rfl rfl rfl dX8_setVariable_40 ?_
  refine lv_icmp_ge (tgt := 53) hx hb dX8_setVariable_41 (by decide) (fun c2 => absurd c2 (by decide +kernel)) (fun _ => ?_)
  refine lv_iload_n hx hb dX8_setVariable_44 rfl (lv_at hl 0 rfl) ?_
  refine lv_aload_n hx hb dX8_setVariable_45 rfl (lv_at hl 1 rfl) ?_
  refine va_get (D := D) (ci := 10) (v := .ref a3) (C := RX8) (T := TX8) (N := 8) hx hb hts (fun _ h => List.mem_cons_of_mem _ (List.mem_append_right _ h)) hown hK hP 0 rfl rfl 4 (by decide) (hts (.fieldLink RX8 39 "PhraseDesk$Runner" "variableValues" "[LPhraseDesk$Value;") (List.mem_of_getElem? (i := 3) rfl)) (fun _ h9 => h9) rfl dX8_setVariable_46 ?_
  refine va_alen (v := 12) hx hb hK hP 2 6 rfl rfl rfl dX8_setVariable_49 ?_
  refine lv_icmp_lt (tgt := 55) hx hb dX8_setVariable_50 (by decide) (fun _ => ?_) (fun c3 => absurd (by decide +kernel) c3)
  refine lv_aload_n hx hb dX8_setVariable_55 rfl (lv_at hl 1 rfl) ?_
  refine va_get (D := D) (ci := 10) (v := .ref a2) (C := RX8) (T := TX8) (N := 8) hx hb hts (fun _ h => List.mem_cons_of_mem _ (List.mem_append_right _ h)) hown hK hP 0 rfl rfl 3 (by decide) (hts (.fieldLink RX8 35 "PhraseDesk$Runner" "variableNames" "[I") (List.mem_of_getElem? (i := 2) rfl)) (fun _ h9 => h9) rfl dX8_setVariable_56 ?_
  refine lv_iload_n hx hb dX8_setVariable_59 rfl (lv_at hl 0 rfl) ?_
  refine lv_iload_n hx hb dX8_setVariable_60 rfl (lv_at hl 2 rfl) ?_
  refine va_iast hx hb hK hP hD hS 1 0 rfl rfl (by unfold vp_in; decide +kernel) dX8_setVariable_61 (fun H locs hP hD hS => ?_)
  have hP : va_P D vwCl [(a0, .inr (10, [.ref a4, .ref a5, .ref a6, .ref a2, .ref a3, .int 0, .ref a4, .int 0])), (a2, .inl (cy 0, 12, .inl (upd (fun _ => 0) 0 k0))), (a3, .inl (cy 6, 12, .inr (.inr (.inr (.inr (fun _ => none)))))), (a1, .inr (12, [.int 0, .int 0, .double FP.dconst0, .ref (sa 0), .null]))] H := hP
  have hD : va_D A [(a0, .inr (10, [.ref a4, .ref a5, .ref a6, .ref a2, .ref a3, .int 0, .ref a4, .int 0])), (a2, .inl (cy 0, 12, .inl (upd (fun _ => 0) 0 k0))), (a3, .inl (cy 6, 12, .inr (.inr (.inr (.inr (fun _ => none)))))), (a1, .inr (12, [.int 0, .int 0, .double FP.dconst0, .ref (sa 0), .null]))] := hD
  refine lv_aload_n hx hb dX8_setVariable_62 rfl (lv_at hl 1 rfl) ?_
  refine va_get (D := D) (ci := 10) (v := .ref a3) (C := RX8) (T := TX8) (N := 8) hx hb hts (fun _ h => List.mem_cons_of_mem _ (List.mem_append_right _ h)) hown hK hP 0 rfl rfl 4 (by decide) (hts (.fieldLink RX8 39 "PhraseDesk$Runner" "variableValues" "[LPhraseDesk$Value;") (List.mem_of_getElem? (i := 3) rfl)) (fun _ h9 => h9) rfl dX8_setVariable_63 ?_
  refine lv_iload_n hx hb dX8_setVariable_66 rfl (lv_at hl 0 rfl) ?_
  refine lv_aload_n hx hb dX8_setVariable_67 rfl (lv_at hl 3 rfl) ?_
  refine va_astq (r := (RX10, TX10, 5)) hx hb hK hP hD hS 2 6 3 12 rfl rfl rfl rfl (by unfold vp_in; decide +kernel) dX8_setVariable_68 (fun H locs hP hD hS => ?_)
  have hP : va_P D vwCl [(a0, .inr (10, [.ref a4, .ref a5, .ref a6, .ref a2, .ref a3, .int 0, .ref a4, .int 0])), (a2, .inl (cy 0, 12, .inl (upd (fun _ => 0) 0 k0))), (a3, .inl (cy 6, 12, .inr (.inr (.inr (.inr (va_up (fun _ => none) 0 (some a1))))))), (a1, .inr (12, [.int 0, .int 0, .double FP.dconst0, .ref (sa 0), .null]))] H := hP
  have hD : va_D A [(a0, .inr (10, [.ref a4, .ref a5, .ref a6, .ref a2, .ref a3, .int 0, .ref a4, .int 0])), (a2, .inl (cy 0, 12, .inl (upd (fun _ => 0) 0 k0))), (a3, .inl (cy 6, 12, .inr (.inr (.inr (.inr (va_up (fun _ => none) 0 (some a1))))))), (a1, .inr (12, [.int 0, .int 0, .double FP.dconst0, .ref (sa 0), .null]))] := hD
  refine lv_iload_n hx hb dX8_setVariable_69 rfl (lv_at hl 0 rfl) ?_
  refine lv_aload_n hx hb dX8_setVariable_70 rfl (lv_at hl 1 rfl) ?_
  refine va_get (D := D) (ci := 10) (v := .int 0) (C := RX8) (T := TX8) (N := 8) hx hb hts (fun _ h => List.mem_cons_of_mem _ (List.mem_append_right _ h)) hown hK hP 0 rfl rfl 5 (by decide) (hts (.fieldLink RX8 273 "PhraseDesk$Runner" "variableCount" "I") (List.mem_of_getElem? (i := 1) rfl)) (fun _ h9 => h9) rfl dX8_setVariable_71 ?_
  refine lv_icmp_ne (tgt := 87) hx hb dX8_setVariable_74 (by decide) (fun c4 => absurd (by decide +kernel) c4) (fun _ => ?_)
  refine lv_aload_n hx hb dX8_setVariable_77 rfl (lv_at hl 1 rfl) ?_
  refine lv_dup hx hb dX8_setVariable_78 rfl ?_
  refine va_get (D := D) (ci := 10) (v := .int 0) (C := RX8) (T := TX8) (N := 8) hx hb hts (fun _ h => List.mem_cons_of_mem _ (List.mem_append_right _ h)) hown hK hP 0 rfl rfl 5 (by decide) (hts (.fieldLink RX8 273 "PhraseDesk$Runner" "variableCount" "I") (List.mem_of_getElem? (i := 1) rfl)) (fun _ h9 => h9) rfl dX8_setVariable_79 ?_
  refine lv_iconst (v := 1) hx hb dX8_setVariable_82 (by decide +kernel) ?_
  refine lv_iadd hx hb dX8_setVariable_83 ?_
  refine lv_topi (fun x5 ex5 => ?_)
  obtain rfl : x5 = 1 := ex5.trans (by decide +kernel)
  refine va_put (D := D) (ci := 10) (v := .int 1) (ty := .int) (C := RX8) (T := TX8) (N := 8) hx hb hts (fun _ h => List.mem_cons_of_mem _ (List.mem_append_right _ h)) tyX8 tyX8_ok nmX8 hown hK hP hD hS 0 rfl rfl 5 (by decide) (hts (.fieldLink RX8 273 "PhraseDesk$Runner" "variableCount" "I") (List.mem_of_getElem? (i := 1) rfl)) (fun _ h9 => h9) rfl (by decide +kernel) rfl rfl (Nat.le_of_ble_eq_true rfl) dX8_setVariable_84 (fun H locs hP hD hS => ?_)
  have hP : va_P D vwCl [(a0, .inr (10, [.ref a4, .ref a5, .ref a6, .ref a2, .ref a3, .int 1, .ref a4, .int 0])), (a2, .inl (cy 0, 12, .inl (upd (fun _ => 0) 0 k0))), (a3, .inl (cy 6, 12, .inr (.inr (.inr (.inr (va_up (fun _ => none) 0 (some a1))))))), (a1, .inr (12, [.int 0, .int 0, .double FP.dconst0, .ref (sa 0), .null]))] H := hP
  have hD : va_D A [(a0, .inr (10, [.ref a4, .ref a5, .ref a6, .ref a2, .ref a3, .int 1, .ref a4, .int 0])), (a2, .inl (cy 0, 12, .inl (upd (fun _ => 0) 0 k0))), (a3, .inl (cy 6, 12, .inr (.inr (.inr (.inr (va_up (fun _ => none) 0 (some a1))))))), (a1, .inr (12, [.int 0, .int 0, .double FP.dconst0, .ref (sa 0), .null]))] := hD
  refine lv_iconst (v := 1) hx hb dX8_setVariable_87 (by decide +kernel) ?_
  refine W.widen (k := 0) (n := 0) (Nat.le_of_ble_eq_true rfl) (Nat.le_of_ble_eq_true rfl) ?_
  have hP9 := hP.sub (ws' := [(a0, .inr (10, [.ref a4, .ref a5, .ref a6, .ref a2, .ref a3, .int 1, .ref a4, .int 0])), (a2, .inl (cy 0, 12, .inl (upd (fun _ => 0) 0 k0))), (a3, .inl (cy 6, 12, .inr (.inr (.inr (.inr (va_up (fun _ => none) 0 (some a1))))))), (a1, .inr (12, [.int 0, .int 0, .double FP.dconst0, .ref (sa 0), .null]))]) [0, 1, 2, 3] rfl
  have hD9 := hD.sub (ws' := [(a0, .inr (10, [.ref a4, .ref a5, .ref a6, .ref a2, .ref a3, .int 1, .ref a4, .int 0])), (a2, .inl (cy 0, 12, .inl (upd (fun _ => 0) 0 k0))), (a3, .inl (cy 6, 12, .inr (.inr (.inr (.inr (va_up (fun _ => none) 0 (some a1))))))), (a1, .inr (12, [.int 0, .int 0, .double FP.dconst0, .ref (sa 0), .null]))]) [0, 1, 2, 3] (by decide) rfl
  exact W.zret (v := 1) (ty := .boolean) hx hb hr rfl (fun t ht hW => ⟨⟨1, (), rfl, rfl, ⟨by rw [ht]; exact hP9, hD9⟩⟩, hS.F ht⟩) hS.2.2 dX8_setVariable_88

set_option maxHeartbeats 1000000 in
set_option maxRecDepth 100000 in
theorem C_X11_keep_1 (l : Launch) (hfl : l.stackTraces = false) (D : va_G) (cy : Nat → ClassId) (sz0 : Nat) (sa : Nat → Nat) (a0 a1 a2 a3 a4 a5 a6 a7 a8 a9 a10 a11 : Nat) (sz : Nat) (k0 : Int32) : vx_Met l yX11_keep wsX11_keep ({ frames := 6, cells := 1, slots := 6, locals := 82 }) (PcW D cy sz0 sa [.ref a0, .int k0] [(a0, .inr (13, [.ref a5, .ref a1, .ref a6, .int 0, .ref a7, .int 0, .ref a8, .int 0, .ref a4])), (a1, .inr (10, [.ref a9, .ref a10, .ref a11, .ref a2, .ref a3, .int 0, .ref a9, .int 0])), (a2, .inl (cy 0, 12, .inl (fun _ => 0))), (a3, .inl (cy 6, 12, .inr (.inr (.inr (.inr (fun _ => none)))))), (a4, .inr (12, [.int 0, .int 0, .double FP.dconst0, .ref (sa 0), .null]))] sz) (va_Qi (fun (r : Int32) (u : Unit) => r = 0 ∧ ((1 ≤ k0.toInt ∧ k0.toInt ≤ 14348906))) (fun (_ : Unit) (_ : State) => True) (va_A [(a0, .inr (13, [.ref a5, .ref a1, .ref a6, .int 0, .ref a7, .int 0, .ref a8, .int 0, .ref a4])), (a1, .inr (10, [.ref a9, .ref a10, .ref a11, .ref a2, .ref a3, .int 0, .ref a9, .int 0])), (a2, .inl (cy 0, 12, .inl (fun _ => 0))), (a3, .inl (cy 6, 12, .inr (.inr (.inr (.inr (fun _ => none)))))), (a4, .inr (12, [.int 0, .int 0, .double FP.dconst0, .ref (sa 0), .null]))] sz)) (vx_X (fun _ : Unit => True) (fun (E : String) (_ : Unit) (_ : State) => E = tIAE ∧ (((k0.toInt < 1 ∨ (1 ≤ k0.toInt ∧ 14348906 < k0.toInt))))) (va_A [(a0, .inr (13, [.ref a5, .ref a1, .ref a6, .int 0, .ref a7, .int 0, .ref a8, .int 0, .ref a4])), (a1, .inr (10, [.ref a9, .ref a10, .ref a11, .ref a2, .ref a3, .int 0, .ref a9, .int 0])), (a2, .inl (cy 0, 12, .inl (fun _ => 0))), (a3, .inl (cy 6, 12, .inr (.inr (.inr (.inr (fun _ => none)))))), (a4, .inr (12, [.int 0, .int 0, .double FP.dconst0, .ref (sa 0), .null]))] sz)) 1 6 (va_A [(a0, .inr (13, [.ref a5, .ref a1, .ref a6, .int 0, .ref a7, .int 0, .ref a8, .int 0, .ref a4])), (a1, .inr (10, [.ref a9, .ref a10, .ref a11, .ref a2, .ref a3, .int 0, .ref a9, .int 0])), (a2, .inl (cy 0, 12, .inl (fun _ => 0))), (a3, .inl (cy 6, 12, .inr (.inr (.inr (.inr (fun _ => none)))))), (a4, .inr (12, [.int 0, .int 0, .double FP.dconst0, .ref (sa 0), .null]))] sz) := by
  refine vx_ofW (cc := cX11_keep) (maxL := 2) (ret := (some .int)) (by decide) rfl ?_
  intro p e s m args below meth c s₁ B hml hout hv
  obtain ⟨rfl, hsz, hP, hD0, hE⟩ := hv
  have hx := B.exec
  have hb := B.bytes
  have hr := B.returns
  have hts := atoms_spec (ws := wsX11_keep) B.pre
  have hown : s.vm.findClass RX11 = some m.cls := findClass_of_methodNamed B.named
  have hlocks := B.notSynchronized
  subst hsz
  have hK := hE.1
  have hAm := hE.2.2.1
  have hWm := hE.2.2.2
  have hAO := hWm.2.2.2.1
  have hD := hD0.self (sz := s.heap.size)
  have hAF := frA hD0 hE.2.1
  generalize hAe : va_A [(a0, .inr (13, [.ref a5, .ref a1, .ref a6, .int 0, .ref a7, .int 0, .ref a8, .int 0, .ref a4])), (a1, .inr (10, [.ref a9, .ref a10, .ref a11, .ref a2, .ref a3, .int 0, .ref a9, .int 0])), (a2, .inl (cy 0, 12, .inl (fun _ => 0))), (a3, .inl (cy 6, 12, .inr (.inr (.inr (.inr (fun _ => none)))))), (a4, .inr (12, [.int 0, .int 0, .double FP.dconst0, .ref (sa 0), .null]))] s.heap.size = A at hD hAF ⊢
  have hA : ∀ q : Nat, s.heap.size ≤ q → A q := fun q h => by rw [← hAe]; exact Or.inr h
  have hS : va_S A s.heap s.heap [] := va_S.rf
  have hl := lv_entry ([.ref a0, .int k0]) (n := 2) (Nat.le_of_ble_eq_true rfl)
  rw [lg_entry_eq]
  generalize (lg_sl ([.ref a0, .int k0]) ++ List.replicate (2 - (lg_sl ([.ref a0, .int k0])).length) Slot.unset).toArray = ls at hl ⊢
  have hl : lv_has ls 2 [(0, .ref a0), (1, .int k0)] := hl
  have hP : va_P D vwCl [(a0, .inr (13, [.ref a5, .ref a1, .ref a6, .int 0, .ref a7, .int 0, .ref a8, .int 0, .ref a4])), (a1, .inr (10, [.ref a9, .ref a10, .ref a11, .ref a2, .ref a3, .int 0, .ref a9, .int 0])), (a2, .inl (cy 0, 12, .inl (fun _ => 0))), (a3, .inl (cy 6, 12, .inr (.inr (.inr (.inr (fun _ => none)))))), (a4, .inr (12, [.int 0, .int 0, .double FP.dconst0, .ref (sa 0), .null]))] s.heap := hP
  have z1 : (1 : Int32).toInt = 1 := by decide +kernel
  have z14348906 : (14348906 : Int32).toInt = 14348906 := by decide +kernel
  refine lv_iload_n hx hb dX11_keep_0 rfl (lv_at hl 1 rfl) ?_
  have hPc := hP.sub (ws' := []) [] rfl
  have hDc := hD.sub (ws' := []) [] (by decide) rfl
  have hFc := va_free (wc := []) hD hS hA [] rfl
  refine va_calli (va_runS (As := [.int k0]) (rest := []) ⟨hx, hb, hml, hown, hts⟩ (C_X11_isName_1 l D cy sz0 sa s.heap.size k0) (va_cwS 1 hts gX11_keep_X11_isName rfl rfl rfl (by decide +kernel) ⟨Nat.le_of_ble_eq_true rfl, Nat.le_of_ble_eq_true rfl⟩) ⟨PcW.blind, PcW.mk hE hS hAF hPc hDc⟩ rfl rfl hl.1 rfl (lv_room (Nat.le_of_ble_eq_true rfl)) dX11_keep_1 ⟨Nat.le_of_ble_eq_true rfl, Nat.le_of_ble_eq_true rfl⟩) hS (fun q _ h => hFc q h) hFc (fun r_1 u t H1 locs ht hvm hw hB hz1 hk1 hS => ?_)
  obtain ⟨hP1, hD1⟩ := hB
  rw [ht] at hP1
  have hP1 : va_P D vwCl [] H1 := hP1
  obtain ⟨hP, hD⟩ := va_join (wr := [(a0, .inr (13, [.ref a5, .ref a1, .ref a6, .int 0, .ref a7, .int 0, .ref a8, .int 0, .ref a4])), (a1, .inr (10, [.ref a9, .ref a10, .ref a11, .ref a2, .ref a3, .int 0, .ref a9, .int 0])), (a2, .inl (cy 0, 12, .inl (fun _ => 0))), (a3, .inl (cy 6, 12, .inr (.inr (.inr (.inr (fun _ => none)))))), (a4, .inr (12, [.int 0, .int 0, .double FP.dconst0, .ref (sa 0), .null]))]) (w1 := []) hP hD [] [0, 1, 2, 3, 4] rfl rfl (by decide) (by decide) hk1 hFc hP1 hD1
  clear hP1 hD1 hPc hDc hFc hk1 hz1
  generalize H1 = H at hP hS ⊢
  have hP : va_P D vwCl [(a0, .inr (13, [.ref a5, .ref a1, .ref a6, .int 0, .ref a7, .int 0, .ref a8, .int 0, .ref a4])), (a1, .inr (10, [.ref a9, .ref a10, .ref a11, .ref a2, .ref a3, .int 0, .ref a9, .int 0])), (a2, .inl (cy 0, 12, .inl (fun _ => 0))), (a3, .inl (cy 6, 12, .inr (.inr (.inr (.inr (fun _ => none)))))), (a4, .inr (12, [.int 0, .int 0, .double FP.dconst0, .ref (sa 0), .null]))] H := hP
  have hD : va_D A [(a0, .inr (13, [.ref a5, .ref a1, .ref a6, .int 0, .ref a7, .int 0, .ref a8, .int 0, .ref a4])), (a1, .inr (10, [.ref a9, .ref a10, .ref a11, .ref a2, .ref a3, .int 0, .ref a9, .int 0])), (a2, .inl (cy 0, 12, .inl (fun _ => 0))), (a3, .inl (cy 6, 12, .inr (.inr (.inr (.inr (fun _ => none)))))), (a4, .inr (12, [.int 0, .int 0, .double FP.dconst0, .ref (sa 0), .null]))] := hD
  refine W.widen (k := 0) (n := 0) (Nat.le_of_ble_eq_true rfl) (Nat.le_of_ble_eq_true rfl) ?_
  rcases hw with ⟨hr, hcr_1⟩ | ⟨hr, hcr_1⟩
  · obtain rfl : r_1 = 0 := hr
    refine lv_if_ne (tgt := 17) hx hb dX11_keep_4 (by decide) (fun c2 => absurd (by decide +kernel) c2) (fun _ => ?_)
    exact g_iae hx hb hfl hts hE hAF hown (List.mem_of_getElem? (i := 1) rfl) (List.mem_of_getElem? (i := 2) rfl) (is := 194) (text := "not the code of a name") (by decide +kernel) (fun _ h => List.mem_cons_of_mem _ (List.mem_append_left _ (List.mem_append_right _ h))) hS (by rw [hml]; exact hl.1) dX11_keep_7 dX11_keep_10 dX11_keep_11 dX11_keep_13 dX11_keep_16 hout (by decide) (by decide) (Nat.le_of_ble_eq_true rfl) (Nat.le_of_ble_eq_true rfl) hlocks (fun t h1 h2 h3 => ⟨(), trivial, ⟨rfl, by omega⟩, Nat.le_trans hS.1 h2, fun q h4 h5 => (h3 q (Nat.lt_of_lt_of_le h4 hS.1)).trans (hS.2.1 q h4 h5)⟩) hS.2.2 (Nat.le_of_ble_eq_true rfl) (Nat.le_of_ble_eq_true rfl)
  · obtain rfl : r_1 = 1 := hr
    refine lv_if_ne (tgt := 17) hx hb dX11_keep_4 (by decide) (fun _ => ?_) (fun c3 => absurd c3 (by decide +kernel))
    refine lv_aload_n hx hb dX11_keep_17 rfl (lv_at hl 0 rfl) ?_
    refine va_get (D := D) (ci := 13) (v := .ref a1) (C := RX11) (T := TX11) (N := 9) hx hb hts (fun _ h => List.mem_cons_of_mem _ (List.mem_append_left _ (List.mem_append_left _ (List.mem_append_left _ (List.mem_append_left _ (List.mem_append_right _ h)))))) hown hK hP 0 rfl rfl 1 (by decide) (hts (.fieldLink RX11 19 "PhraseDesk" "runner" "LPhraseDesk$Runner;") (List.mem_of_getElem? (i := 5) rfl)) (fun _ h9 => h9) rfl dX11_keep_18 ?_
    refine lv_iload_n hx hb dX11_keep_21 rfl (lv_at hl 1 rfl) ?_
    refine lv_aload_n hx hb dX11_keep_22 rfl (lv_at hl 0 rfl) ?_
    refine va_get (D := D) (ci := 13) (v := .ref a4) (C := RX11) (T := TX11) (N := 9) hx hb hts (fun _ h => List.mem_cons_of_mem _ (List.mem_append_left _ (List.mem_append_left _ (List.mem_append_left _ (List.mem_append_left _ (List.mem_append_right _ h)))))) hown hK hP 0 rfl rfl 8 (by decide) (hts (.fieldLink RX11 45 "PhraseDesk" "latest" "LPhraseDesk$Value;") (List.mem_of_getElem? (i := 6) rfl)) (fun _ h9 => h9) rfl dX11_keep_23 ?_
    have hPc := hP.sub (ws' := [(a1, .inr (10, [.ref a9, .ref a10, .ref a11, .ref a2, .ref a3, .int 0, .ref a9, .int 0])), (a2, .inl (cy 0, 12, .inl (fun _ => 0))), (a3, .inl (cy 6, 12, .inr (.inr (.inr (.inr (fun _ => none)))))), (a4, .inr (12, [.int 0, .int 0, .double FP.dconst0, .ref (sa 0), .null]))]) [1, 2, 3, 4] rfl
    have hDc := hD.sub (ws' := [(a1, .inr (10, [.ref a9, .ref a10, .ref a11, .ref a2, .ref a3, .int 0, .ref a9, .int 0])), (a2, .inl (cy 0, 12, .inl (fun _ => 0))), (a3, .inl (cy 6, 12, .inr (.inr (.inr (.inr (fun _ => none)))))), (a4, .inr (12, [.int 0, .int 0, .double FP.dconst0, .ref (sa 0), .null]))]) [1, 2, 3, 4] (by decide) rfl
    have hFc := va_free (wc := [(a1, .inr (10, [.ref a9, .ref a10, .ref a11, .ref a2, .ref a3, .int 0, .ref a9, .int 0])), (a2, .inl (cy 0, 12, .inl (fun _ => 0))), (a3, .inl (cy 6, 12, .inr (.inr (.inr (.inr (fun _ => none)))))), (a4, .inr (12, [.int 0, .int 0, .double FP.dconst0, .ref (sa 0), .null]))]) hD hS hA [1, 2, 3, 4] rfl
    refine va_calli (va_runV (As := [.int k0, .ref a4]) (rest := []) ⟨hx, hb, hml, hown, hts⟩ (C_X8_setVariable_1 l D cy sz0 sa a1 a4 a2 a3 a9 a10 a11 H.size k0) (cwV 2 hts gX11_keep_X8_setVariable rfl rfl rfl (by decide +kernel) ⟨Nat.le_of_ble_eq_true rfl, Nat.le_of_ble_eq_true rfl⟩) ⟨PcW.blind, va_recv hK hPc (ci := 10) (q0 := 0) rfl rfl, PcW.mk hE hS hAF hPc hDc⟩ rfl rfl hl.1 rfl (lv_room (Nat.le_of_ble_eq_true rfl)) dX11_keep_26 ⟨Nat.le_of_ble_eq_true rfl, Nat.le_of_ble_eq_true rfl⟩) hS (fun q _ h => hFc q h) hFc (fun r_4 u t H1 locs ht hvm hw hB hz1 hk1 hS => ?_)
    obtain ⟨hP1, hD1⟩ := hB
    rw [ht] at hP1
    have hP1 : va_P D vwCl [(a1, .inr (10, [.ref a9, .ref a10, .ref a11, .ref a2, .ref a3, .int 1, .ref a9, .int 0])), (a2, .inl (cy 0, 12, .inl (upd (fun _ => 0) 0 k0))), (a3, .inl (cy 6, 12, .inr (.inr (.inr (.inr (va_up (fun _ => none) 0 (some a9))))))), (a4, .inr (12, [.int 0, .int 0, .double FP.dconst0, .ref (sa 0), .null]))] H1 := hP1
    obtain ⟨hP, hD⟩ := va_join (wr := [(a0, .inr (13, [.ref a5, .ref a1, .ref a6, .int 0, .ref a7, .int 0, .ref a8, .int 0, .ref a4]))]) (w1 := [(a1, .inr (10, [.ref a9, .ref a10, .ref a11, .ref a2, .ref a3, .int 1, .ref a9, .int 0])), (a2, .inl (cy 0, 12, .inl (upd (fun _ => 0) 0 k0))), (a3, .inl (cy 6, 12, .inr (.inr (.inr (.inr (va_up (fun _ => none) 0 (some a9))))))), (a4, .inr (12, [.int 0, .int 0, .double FP.dconst0, .ref (sa 0), .null]))]) hP hD [1, 2, 3, 4] [0] rfl rfl (by decide) (by decide) hk1 hFc hP1 hD1
    clear hP1 hD1 hPc hDc hFc hk1 hz1
    generalize H1 = H at hP hS ⊢
    have hP : va_P D vwCl [(a0, .inr (13, [.ref a5, .ref a1, .ref a6, .int 0, .ref a7, .int 0, .ref a8, .int 0, .ref a4])), (a1, .inr (10, [.ref a9, .ref a10, .ref a11, .ref a2, .ref a3, .int 1, .ref a9, .int 0])), (a2, .inl (cy 0, 12, .inl (upd (fun _ => 0) 0 k0))), (a3, .inl (cy 6, 12, .inr (.inr (.inr (.inr (va_up (fun _ => none) 0 (some a9))))))), (a4, .inr (12, [.int 0, .int 0, .double FP.dconst0, .ref (sa 0), .null]))] H := hP
    have hD : va_D A [(a0, .inr (13, [.ref a5, .ref a1, .ref a6, .int 0, .ref a7, .int 0, .ref a8, .int 0, .ref a4])), (a1, .inr (10, [.ref a9, .ref a10, .ref a11, .ref a2, .ref a3, .int 1, .ref a9, .int 0])), (a2, .inl (cy 0, 12, .inl (upd (fun _ => 0) 0 k0))), (a3, .inl (cy 6, 12, .inr (.inr (.inr (.inr (va_up (fun _ => none) 0 (some a9))))))), (a4, .inr (12, [.int 0, .int 0, .double FP.dconst0, .ref (sa 0), .null]))] := hD
    refine W.widen (k := 0) (n := 0) (Nat.le_of_ble_eq_true rfl) (Nat.le_of_ble_eq_true rfl) ?_
    obtain rfl : r_4 = 1 := hw
    refine lv_if_ne (tgt := 42) hx hb dX11_keep_29 (by decide) (fun _ => ?_) (fun c5 => absurd c5 (by decide +kernel))
    refine lv_aload_n hx hb dX11_keep_42 rfl (lv_at hl 0 rfl) ?_
    refine va_get (D := D) (ci := 13) (v := .ref a4) (C := RX11) (T := TX11) (N := 9) hx hb hts (fun _ h => List.mem_cons_of_mem _ (List.mem_append_left _ (List.mem_append_left _ (List.mem_append_left _ (List.mem_append_left _ (List.mem_append_right _ h)))))) hown hK hP 0 rfl rfl 8 (by decide) (hts (.fieldLink RX11 45 "PhraseDesk" "latest" "LPhraseDesk$Value;") (List.mem_of_getElem? (i := 6) rfl)) (fun _ h9 => h9) rfl dX11_keep_43 ?_
    refine va_get (D := D) (ci := 12) (v := .int 0) (C := RX10) (T := TX10) (N := 5) hx hb hts (fun _ h => List.mem_cons_of_mem _ (List.mem_append_left _ (List.mem_append_left _ (List.mem_append_left _ (List.mem_append_right _ h))))) hown hK hP 4 rfl rfl 0 (by decide) (hts (.fieldLink RX11 202 "PhraseDesk$Value" "kind" "I") (List.mem_of_getElem? (i := 7) rfl)) (fun _ h9 => h9) rfl dX11_keep_46 ?_
    refine vx_ret ?_
    refine W.widen (k := 1) (n := 6) (Nat.le_of_ble_eq_true rfl) (Nat.le_of_ble_eq_true rfl) ?_
    exact W.iret (v := 0) hx hb hr (fun t ht hW => ⟨⟨0, (), rfl, ⟨rfl, by omega⟩, trivial⟩, hS.F ht⟩) hS.2.2 dX11_keep_49
set_option maxHeartbeats 1000000 in
set_option maxRecDepth 100000 in
theorem C_L_keep_1 (l : Launch) (hfl : l.stackTraces = false) (D : va_G) (cy : Nat → ClassId) (sz0 : Nat) (sa : Nat → Nat) (a0 a1 a2 a3 a4 a5 a6 a7 a8 a9 a10 a11 a12 : Nat) (sz : Nat) (k0 : Int32) : Met l yL_keep wsL_keep ({ frames := 7, cells := 1, slots := 6, locals := 103 }) (PcW D cy sz0 sa [.ref a0, .int k0, .ref a1] [(a0, .inr (13, [.ref a6, .ref a2, .ref a7, .int 0, .ref a8, .int 0, .ref a9, .int 0, .ref a5])), (a2, .inr (10, [.ref a10, .ref a11, .ref a12, .ref a3, .ref a4, .int 0, .ref a10, .int 0])), (a3, .inl (cy 0, 12, .inl (fun _ => 0))), (a4, .inl (cy 6, 12, .inr (.inr (.inr (.inr (fun _ => none)))))), (a5, .inr (12, [.int 0, .int 0, .double FP.dconst0, .ref (sa 0), .null])), (a1, .inl (cy 1, 1, .inr (.inl (fun _ => 0))))] sz) (va_Qi (fun (r : Int32) (u : Int64) => (r = 1 ∧ u = 0 ∧ ((((k0.toInt < 1 ∨ (1 ≤ k0.toInt ∧ 14348906 < k0.toInt)))))) ∨ (r = 0 ∧ u = 0 ∧ (((1 ≤ k0.toInt ∧ k0.toInt ≤ 14348906))))) (fun (u : Int64) (t : State) => ∃ f : Nat → Int64, BW D [(a1, .inl (cy 1, 1, .inr (.inl f)))] (va_A [(a0, .inr (13, [.ref a6, .ref a2, .ref a7, .int 0, .ref a8, .int 0, .ref a9, .int 0, .ref a5])), (a2, .inr (10, [.ref a10, .ref a11, .ref a12, .ref a3, .ref a4, .int 0, .ref a10, .int 0])), (a3, .inl (cy 0, 12, .inl (fun _ => 0))), (a4, .inl (cy 6, 12, .inr (.inr (.inr (.inr (fun _ => none)))))), (a5, .inr (12, [.int 0, .int 0, .double FP.dconst0, .ref (sa 0), .null])), (a1, .inl (cy 1, 1, .inr (.inl (fun _ => 0))))] sz) t ∧ f 0 = u) (va_A [(a0, .inr (13, [.ref a6, .ref a2, .ref a7, .int 0, .ref a8, .int 0, .ref a9, .int 0, .ref a5])), (a2, .inr (10, [.ref a10, .ref a11, .ref a12, .ref a3, .ref a4, .int 0, .ref a10, .int 0])), (a3, .inl (cy 0, 12, .inl (fun _ => 0))), (a4, .inl (cy 6, 12, .inr (.inr (.inr (.inr (fun _ => none)))))), (a5, .inr (12, [.int 0, .int 0, .double FP.dconst0, .ref (sa 0), .null])), (a1, .inl (cy 1, 1, .inr (.inl (fun _ => 0))))] sz)) 1 6 (va_A [(a0, .inr (13, [.ref a6, .ref a2, .ref a7, .int 0, .ref a8, .int 0, .ref a9, .int 0, .ref a5])), (a2, .inr (10, [.ref a10, .ref a11, .ref a12, .ref a3, .ref a4, .int 0, .ref a10, .int 0])), (a3, .inl (cy 0, 12, .inl (fun _ => 0))), (a4, .inl (cy 6, 12, .inr (.inr (.inr (.inr (fun _ => none)))))), (a5, .inr (12, [.int 0, .int 0, .double FP.dconst0, .ref (sa 0), .null])), (a1, .inl (cy 1, 1, .inr (.inl (fun _ => 0))))] sz) := by
  refine va_MetW (cc := cL_keep) (maxL := 4) (ret := (some .int)) (hh := [(0, 9, 12, 13), (0, 9, 15, 15)]) (by decide) rfl ?_
  intro p e s m args below meth c s₁ B hml hv
  obtain ⟨rfl, hsz, hP, hD0, hE⟩ := hv
  have hx := B.exec
  have hb := B.bytes
  have hr := B.returns
  have hts := atoms_spec (ws := wsL_keep) B.pre
  have hown : s.vm.findClass RL = some m.cls := findClass_of_methodNamed B.named
  have hlocks := B.notSynchronized
  subst hsz
  have hK := hE.1
  have hAm := hE.2.2.1
  have hWm := hE.2.2.2
  have hAO := hWm.2.2.2.1
  have hD := hD0.self (sz := s.heap.size)
  have hAF := frA hD0 hE.2.1
  generalize hAe : va_A [(a0, .inr (13, [.ref a6, .ref a2, .ref a7, .int 0, .ref a8, .int 0, .ref a9, .int 0, .ref a5])), (a2, .inr (10, [.ref a10, .ref a11, .ref a12, .ref a3, .ref a4, .int 0, .ref a10, .int 0])), (a3, .inl (cy 0, 12, .inl (fun _ => 0))), (a4, .inl (cy 6, 12, .inr (.inr (.inr (.inr (fun _ => none)))))), (a5, .inr (12, [.int 0, .int 0, .double FP.dconst0, .ref (sa 0), .null])), (a1, .inl (cy 1, 1, .inr (.inl (fun _ => 0))))] s.heap.size = A at hD hAF ⊢
  have hA : ∀ q : Nat, s.heap.size ≤ q → A q := fun q h => by rw [← hAe]; exact Or.inr h
  have hS : va_S A s.heap s.heap [] := va_S.rf
  have hl := lv_entry ([.ref a0, .int k0, .ref a1]) (n := 4) (Nat.le_of_ble_eq_true rfl)
  rw [lg_entry_eq]
  generalize (lg_sl ([.ref a0, .int k0, .ref a1]) ++ List.replicate (4 - (lg_sl ([.ref a0, .int k0, .ref a1])).length) Slot.unset).toArray = ls at hl ⊢
  have hl : lv_has ls 4 [(0, .ref a0), (1, .int k0), (2, .ref a1)] := hl
  have hP : va_P D vwCl [(a0, .inr (13, [.ref a6, .ref a2, .ref a7, .int 0, .ref a8, .int 0, .ref a9, .int 0, .ref a5])), (a2, .inr (10, [.ref a10, .ref a11, .ref a12, .ref a3, .ref a4, .int 0, .ref a10, .int 0])), (a3, .inl (cy 0, 12, .inl (fun _ => 0))), (a4, .inl (cy 6, 12, .inr (.inr (.inr (.inr (fun _ => none)))))), (a5, .inr (12, [.int 0, .int 0, .double FP.dconst0, .ref (sa 0), .null])), (a1, .inl (cy 1, 1, .inr (.inl (fun _ => 0))))] s.heap := hP
  have z1 : (1 : Int32).toInt = 1 := by decide +kernel
  have z14348906 : (14348906 : Int32).toInt = 14348906 := by decide +kernel
  refine lv_aload_n hx hb dL_keep_0 rfl (lv_at hl 2 rfl) ?_
  refine lv_iconst (v := 0) hx hb dL_keep_1 (by decide +kernel) ?_
  refine lv_aload_n hx hb dL_keep_2 rfl (lv_at hl 0 rfl) ?_
  refine lv_iload_n hx hb dL_keep_3 rfl (lv_at hl 1 rfl) ?_
  have hPc := hP.sub (ws' := [(a0, .inr (13, [.ref a6, .ref a2, .ref a7, .int 0, .ref a8, .int 0, .ref a9, .int 0, .ref a5])), (a2, .inr (10, [.ref a10, .ref a11, .ref a12, .ref a3, .ref a4, .int 0, .ref a10, .int 0])), (a3, .inl (cy 0, 12, .inl (fun _ => 0))), (a4, .inl (cy 6, 12, .inr (.inr (.inr (.inr (fun _ => none)))))), (a5, .inr (12, [.int 0, .int 0, .double FP.dconst0, .ref (sa 0), .null]))]) [0, 1, 2, 3, 4] rfl
  have hDc := hD.sub (ws' := [(a0, .inr (13, [.ref a6, .ref a2, .ref a7, .int 0, .ref a8, .int 0, .ref a9, .int 0, .ref a5])), (a2, .inr (10, [.ref a10, .ref a11, .ref a12, .ref a3, .ref a4, .int 0, .ref a10, .int 0])), (a3, .inl (cy 0, 12, .inl (fun _ => 0))), (a4, .inl (cy 6, 12, .inr (.inr (.inr (.inr (fun _ => none)))))), (a5, .inr (12, [.int 0, .int 0, .double FP.dconst0, .ref (sa 0), .null]))]) [0, 1, 2, 3, 4] (by decide) rfl
  have hFc := va_free (wc := [(a0, .inr (13, [.ref a6, .ref a2, .ref a7, .int 0, .ref a8, .int 0, .ref a9, .int 0, .ref a5])), (a2, .inr (10, [.ref a10, .ref a11, .ref a12, .ref a3, .ref a4, .int 0, .ref a10, .int 0])), (a3, .inl (cy 0, 12, .inl (fun _ => 0))), (a4, .inl (cy 6, 12, .inr (.inr (.inr (.inr (fun _ => none)))))), (a5, .inr (12, [.int 0, .int 0, .double FP.dconst0, .ref (sa 0), .null]))]) hD hS hA [0, 1, 2, 3, 4] rfl
  refine vx_calli (vx_runV (As := [.int k0]) (rest := [.int 0, .ref a1]) ⟨hx, hb, hml, hown, hts⟩ (C_X11_keep_1 l hfl D cy sz0 sa a0 a2 a3 a4 a5 a6 a7 a8 a9 a10 a11 a12 s.heap.size k0) (cwV 1 hts gL_keep_X11_keep rfl rfl rfl (by decide +kernel) ⟨Nat.le_of_ble_eq_true rfl, Nat.le_of_ble_eq_true rfl⟩) ⟨PcW.blind, va_recv hK hPc (ci := 13) (q0 := 0) rfl rfl, PcW.mk hE hS hAF hPc hDc⟩ rfl rfl hl.1 rfl (lv_room (Nat.le_of_ble_eq_true rfl)) dL_keep_4 ⟨Nat.le_of_ble_eq_true rfl, Nat.le_of_ble_eq_true rfl⟩) hS (fun q _ h => hFc q h) hFc (fun q _ h => hFc q h) (fun E ce q9 u t H1 locs ht hvm hpx hbx hz1 hk1 hS hq9 hv9 hc9 => ?_) (fun r_1 u t H1 locs ht hvm hw hB hz1 hk1 hS => ?_)
  · obtain ⟨rfl, hxr_1⟩ := hbx
    obtain ⟨hP, hD⟩ := va_join (wr := [(a1, .inl (cy 1, 1, .inr (.inl (fun _ => 0))))]) (w1 := []) hP hD [0, 1, 2, 3, 4] [5] rfl rfl (by decide) (by decide) hk1 hFc nilP nilD
    skip
    have hq8 := hq9
    clear hPc hDc hFc hk1 hz1
    skip
    have hP : va_P D vwCl [(a1, .inl (cy 1, 1, .inr (.inl (fun _ => 0))))] H1 := hP
    have hD : va_D A [(a1, .inl (cy 1, 1, .inr (.inl (fun _ => 0))))] := hD
    refine vx_widen (k := 1) (n := 6) (Nat.le_of_ble_eq_true rfl) (Nat.le_of_ble_eq_true rfl) ?_
    refine vx_catch hown [] _ _ ((vx_table B (hts (.codeWith yL_keep cL_keep 4 (some .int) [(0, 9, 12, 13), (0, 9, 15, 15)]) (List.mem_of_getElem? (i := 0) rfl))).trans rfl) (fun z hz => absurd hz List.not_mem_nil) (by decide) (by decide) (hts (.classLink RL 13 "java/lang/IllegalArgumentException") (List.mem_of_getElem? (i := 1) rfl)) (va_Nw.use rfl hWm.2.2.1.2.2.2.1) hq9 hv9 hc9 ?_
    clear hq8 hq9 ht
    generalize H1 = H at hP hS ⊢
    refine lv_astore_n (lv' := [(3, .ref q9), (0, .ref a0), (1, .int k0), (2, .ref a1)]) hx hb dL_keep_12 rfl hl (by decide) rfl (fun ls hl => ?_)
    refine lv_iconst (v := 1) hx hb dL_keep_13 (by decide +kernel) ?_
    refine W.widen (k := 1) (n := 6) (Nat.le_of_ble_eq_true rfl) (Nat.le_of_ble_eq_true rfl) ?_
    have hP9 := hP.sub (ws' := [(a1, .inl (cy 1, 1, .inr (.inl (fun _ => 0))))]) [0] rfl
    have hD9 := hD.sub (ws' := [(a1, .inl (cy 1, 1, .inr (.inl (fun _ => 0))))]) [0] (by decide) rfl
    exact W.iret (v := 1) hx hb hr (fun t ht hW => ⟨⟨1, 0, rfl, Or.inl ⟨rfl, rfl, by omega⟩, ⟨(fun _ => 0), ⟨by rw [ht]; exact hP9, hD9⟩, by decide +kernel⟩⟩, hS.F ht⟩) hS.2.2 dL_keep_14
  · obtain ⟨hP, hD⟩ := va_join (wr := [(a1, .inl (cy 1, 1, .inr (.inl (fun _ => 0))))]) (w1 := []) hP hD [0, 1, 2, 3, 4] [5] rfl rfl (by decide) (by decide) hk1 hFc nilP nilD
    clear hPc hDc hFc hk1 hz1
    generalize H1 = H at hP hS ⊢
    have hP : va_P D vwCl [(a1, .inl (cy 1, 1, .inr (.inl (fun _ => 0))))] H := hP
    have hD : va_D A [(a1, .inl (cy 1, 1, .inr (.inl (fun _ => 0))))] := hD
    refine W.widen (k := 1) (n := 6) (Nat.le_of_ble_eq_true rfl) (Nat.le_of_ble_eq_true rfl) ?_
    obtain ⟨hr, hcr_1⟩ := hw
    obtain rfl : r_1 = 0 := hr
    refine lv_i2l (v := 0) hx hb dL_keep_7 (by decide +kernel) ?_
    refine va_last hx hb hK hP hD hS 0 1 rfl rfl (by unfold vp_in; decide +kernel) dL_keep_8 (fun H locs hP hD hS => ?_)
    have hP : va_P D vwCl [(a1, .inl (cy 1, 1, .inr (.inl (vp_updL (fun _ => 0) 0 0))))] H := hP
    have hD : va_D A [(a1, .inl (cy 1, 1, .inr (.inl (vp_updL (fun _ => 0) 0 0))))] := hD
    refine lv_goto (tgt := 18) hx hb dL_keep_9 (by decide) ?_
    refine lv_iconst (v := 0) hx hb dL_keep_18 (by decide +kernel) ?_
    refine W.widen (k := 1) (n := 6) (Nat.le_of_ble_eq_true rfl) (Nat.le_of_ble_eq_true rfl) ?_
    have hP9 := hP.sub (ws' := [(a1, .inl (cy 1, 1, .inr (.inl (vp_updL (fun _ => 0) 0 0))))]) [0] rfl
    have hD9 := hD.sub (ws' := [(a1, .inl (cy 1, 1, .inr (.inl (vp_updL (fun _ => 0) 0 0))))]) [0] (by decide) rfl
    exact W.iret (v := 0) hx hb hr (fun t ht hW => ⟨⟨0, 0, rfl, Or.inr (⟨rfl, rfl, by omega⟩), ⟨(vp_updL (fun _ => 0) 0 0), ⟨by rw [ht]; exact hP9, hD9⟩, by decide +kernel⟩⟩, hS.F ht⟩) hS.2.2 dL_keep_19
set_option maxHeartbeats 1000000 in
set_option maxRecDepth 100000 in
theorem C_X11_result_1 (l : Launch) (D : va_G) (cy : Nat → ClassId) (sz0 : Nat) (sa : Nat → Nat) (a0 a1 a2 a3 a4 a5 a6 : Nat) (sz : Nat) (k0 : Int32) : Met l yX11_result wsX11_result ({ frames := 0, cells := 0, slots := 0, locals := 0 }) (PcW D cy sz0 sa [.ref a0, .int k0] [(a0, .inr (13, [.ref a2, .ref a3, .ref a4, .int 0, .ref a5, .int 0, .ref a6, .int 0, .ref a1])), (a1, .inr (12, [.int 0, .int 0, .double FP.dconst0, .ref (sa 0), .null]))] sz) (va_Qi (fun (r : Int32) (u : Unit) => (r = 0 ∧ (k0.toInt = 0 ∨ (¬ k0.toInt = 0 ∧ k0.toInt = 1) ∨ (¬ k0.toInt = 0 ∧ ¬ k0.toInt = 1 ∧ k0.toInt = 2))) ∨ (r = (-1) ∧ (¬ k0.toInt = 0 ∧ ¬ k0.toInt = 1 ∧ ¬ k0.toInt = 2))) (fun (_ : Unit) (_ : State) => True) (va_A [(a0, .inr (13, [.ref a2, .ref a3, .ref a4, .int 0, .ref a5, .int 0, .ref a6, .int 0, .ref a1])), (a1, .inr (12, [.int 0, .int 0, .double FP.dconst0, .ref (sa 0), .null]))] sz)) 0 0 (va_A [(a0, .inr (13, [.ref a2, .ref a3, .ref a4, .int 0, .ref a5, .int 0, .ref a6, .int 0, .ref a1])), (a1, .inr (12, [.int 0, .int 0, .double FP.dconst0, .ref (sa 0), .null]))] sz) := by
  refine Met.ofW (cc := cX11_result) (maxL := 2) (ret := (some .int)) (by decide) rfl ?_
  intro p e s m args below meth c s₁ B hml hv
  obtain ⟨rfl, hsz, hP, hD0, hE⟩ := hv
  have hx := B.exec
  have hb := B.bytes
  have hr := B.returns
  have hts := atoms_spec (ws := wsX11_result) B.pre
  have hown : s.vm.findClass RX11 = some m.cls := findClass_of_methodNamed B.named
  have hlocks := B.notSynchronized
  subst hsz
  have hK := hE.1
  have hAm := hE.2.2.1
  have hWm := hE.2.2.2
  have hAO := hWm.2.2.2.1
  have hD := hD0.self (sz := s.heap.size)
  have hAF := frA hD0 hE.2.1
  generalize hAe : va_A [(a0, .inr (13, [.ref a2, .ref a3, .ref a4, .int 0, .ref a5, .int 0, .ref a6, .int 0, .ref a1])), (a1, .inr (12, [.int 0, .int 0, .double FP.dconst0, .ref (sa 0), .null]))] s.heap.size = A at hD hAF ⊢
  have hA : ∀ q : Nat, s.heap.size ≤ q → A q := fun q h => by rw [← hAe]; exact Or.inr h
  have hS : va_S A s.heap s.heap [] := va_S.rf
  have hl := lv_entry ([.ref a0, .int k0]) (n := 2) (Nat.le_of_ble_eq_true rfl)
  rw [lg_entry_eq]
  generalize (lg_sl ([.ref a0, .int k0]) ++ List.replicate (2 - (lg_sl ([.ref a0, .int k0])).length) Slot.unset).toArray = ls at hl ⊢
  have hl : lv_has ls 2 [(0, .ref a0), (1, .int k0)] := hl
  have hP : va_P D vwCl [(a0, .inr (13, [.ref a2, .ref a3, .ref a4, .int 0, .ref a5, .int 0, .ref a6, .int 0, .ref a1])), (a1, .inr (12, [.int 0, .int 0, .double FP.dconst0, .ref (sa 0), .null]))] s.heap := hP
  have z0 : (0 : Int32).toInt = 0 := by decide +kernel
  have z1 : (1 : Int32).toInt = 1 := by decide +kernel
  have z2 : (2 : Int32).toInt = 2 := by decide +kernel
  refine lv_iload_n hx hb dX11_result_0 rfl (lv_at hl 1 rfl) ?_
  by_cases k1_0 : k0 = 0
  · have tk1_0 := z_eq k1_0
    refine lv_tableIn (off := 27) (tgt := 28) hx hb dX11_result_1 (by rw [k1_0]; decide +kernel) (by rw [k1_0]; decide +kernel) (by rw [k1_0]; decide +kernel) (by decide) ?_
    refine lv_aload_n hx hb dX11_result_28 rfl (lv_at hl 0 rfl) ?_
    refine va_get (D := D) (ci := 13) (v := .ref a1) (C := RX11) (T := TX11) (N := 9) hx hb hts (fun _ h => List.mem_cons_of_mem _ (List.mem_append_left _ (List.mem_append_right _ h))) hown hK hP 0 rfl rfl 8 (by decide) (hts (.fieldLink RX11 45 "PhraseDesk" "latest" "LPhraseDesk$Value;") (List.mem_of_getElem? (i := 1) rfl)) (fun _ h9 => h9) rfl dX11_result_29 ?_
    refine va_get (D := D) (ci := 12) (v := .int 0) (C := RX10) (T := TX10) (N := 5) hx hb hts (fun _ h => List.mem_cons_of_mem _ (List.mem_append_right _ h)) hown hK hP 1 rfl rfl 0 (by decide) (hts (.fieldLink RX11 202 "PhraseDesk$Value" "kind" "I") (List.mem_of_getElem? (i := 2) rfl)) (fun _ h9 => h9) rfl dX11_result_32 ?_
    refine W.widen (k := 0) (n := 0) (Nat.le_of_ble_eq_true rfl) (Nat.le_of_ble_eq_true rfl) ?_
    exact W.iret (v := 0) hx hb hr (fun t ht hW => ⟨⟨0, (), rfl, Or.inl ⟨rfl, by omega⟩, trivial⟩, hS.F ht⟩) hS.2.2 dX11_result_35
  · have k1_0 := z_ne k1_0
    by_cases k1_1 : k0 = 1
    · have tk1_1 := z_eq k1_1
      refine lv_tableIn (off := 35) (tgt := 36) hx hb dX11_result_1 (by rw [k1_1]; decide +kernel) (by rw [k1_1]; decide +kernel) (by rw [k1_1]; decide +kernel) (by decide) ?_
      refine lv_aload_n hx hb dX11_result_36 rfl (lv_at hl 0 rfl) ?_
      refine va_get (D := D) (ci := 13) (v := .ref a1) (C := RX11) (T := TX11) (N := 9) hx hb hts (fun _ h => List.mem_cons_of_mem _ (List.mem_append_left _ (List.mem_append_right _ h))) hown hK hP 0 rfl rfl 8 (by decide) (hts (.fieldLink RX11 45 "PhraseDesk" "latest" "LPhraseDesk$Value;") (List.mem_of_getElem? (i := 1) rfl)) (fun _ h9 => h9) rfl dX11_result_37 ?_
      refine va_get (D := D) (ci := 12) (v := .int 0) (C := RX10) (T := TX10) (N := 5) hx hb hts (fun _ h => List.mem_cons_of_mem _ (List.mem_append_right _ h)) hown hK hP 1 rfl rfl 1 (by decide) (hts (.fieldLink RX11 205 "PhraseDesk$Value" "number" "I") (List.mem_of_getElem? (i := 3) rfl)) (fun _ h9 => h9) rfl dX11_result_40 ?_
      refine W.widen (k := 0) (n := 0) (Nat.le_of_ble_eq_true rfl) (Nat.le_of_ble_eq_true rfl) ?_
      exact W.iret (v := 0) hx hb hr (fun t ht hW => ⟨⟨0, (), rfl, Or.inl ⟨rfl, by omega⟩, trivial⟩, hS.F ht⟩) hS.2.2 dX11_result_43
    · have k1_1 := z_ne k1_1
      by_cases k1_2 : k0 = 2
      · have tk1_2 := z_eq k1_2
        refine lv_tableIn (off := 43) (tgt := 44) hx hb dX11_result_1 (by rw [k1_2]; decide +kernel) (by rw [k1_2]; decide +kernel) (by rw [k1_2]; decide +kernel) (by decide) ?_
        refine lv_aload_n hx hb dX11_result_44 rfl (lv_at hl 0 rfl) ?_
        refine va_get (D := D) (ci := 13) (v := .ref a1) (C := RX11) (T := TX11) (N := 9) hx hb hts (fun _ h => List.mem_cons_of_mem _ (List.mem_append_left _ (List.mem_append_right _ h))) hown hK hP 0 rfl rfl 8 (by decide) (hts (.fieldLink RX11 45 "PhraseDesk" "latest" "LPhraseDesk$Value;") (List.mem_of_getElem? (i := 1) rfl)) (fun _ h9 => h9) rfl dX11_result_45 ?_
        refine va_get (D := D) (ci := 12) (v := .int 0) (C := RX10) (T := TX10) (N := 5) hx hb hts (fun _ h => List.mem_cons_of_mem _ (List.mem_append_right _ h)) hown hK hP 1 rfl rfl 0 (by decide) (hts (.fieldLink RX11 202 "PhraseDesk$Value" "kind" "I") (List.mem_of_getElem? (i := 2) rfl)) (fun _ h9 => h9) rfl dX11_result_48 ?_
        refine lv_iconst (v := 3) hx hb dX11_result_51 (by decide +kernel) ?_
        refine lv_icmp_ne (tgt := 70) hx hb dX11_result_52 (by decide) (fun _ => ?_) (fun c2 => absurd c2 (by decide +kernel))
        refine lv_iconst (v := 0) hx hb dX11_result_70 (by decide +kernel) ?_
        refine W.widen (k := 0) (n := 0) (Nat.le_of_ble_eq_true rfl) (Nat.le_of_ble_eq_true rfl) ?_
        exact W.iret (v := 0) hx hb hr (fun t ht hW => ⟨⟨0, (), rfl, Or.inl ⟨rfl, by omega⟩, trivial⟩, hS.F ht⟩) hS.2.2 dX11_result_71
      · have k1_2 := z_ne k1_2
        refine lv_tableOut (tgt := 72) hx hb dX11_result_1 (by omega) (by decide) ?_
        refine lv_iconst (v := (-1)) hx hb dX11_result_72 (by decide +kernel) ?_
        refine W.widen (k := 0) (n := 0) (Nat.le_of_ble_eq_true rfl) (Nat.le_of_ble_eq_true rfl) ?_
        exact W.iret (v := (-1)) hx hb hr (fun t ht hW => ⟨⟨(-1), (), rfl, Or.inr (⟨rfl, by omega⟩), trivial⟩, hS.F ht⟩) hS.2.2 dX11_result_73
set_option maxHeartbeats 1000000 in
set_option maxRecDepth 100000 in
theorem C_J0_coder_7d493_1 (l : Launch) (D : va_G) (cy : Nat → ClassId) (sz0 : Nat) (sa : Nat → Nat)  (sz : Nat)  : Met l yJ0_coder_7d493 wsJ0_coder_7d493 ({ frames := 0, cells := 0, slots := 0, locals := 0 }) (PcW D cy sz0 sa [.ref (sa 0)] [] sz) (va_Qi (fun (r : Int32) (u : Unit) => r = 0) (fun (u : Unit) (t : State) => BW D [] (va_A [] sz) t) (va_A [] sz)) 0 0 (va_A [] sz) := by
  refine Met.ofW (cc := cJ0_coder_7d493) (maxL := 1) (ret := (some .byte)) (by decide) rfl ?_
  intro p e s m args below meth c s₁ B hml hv
  obtain ⟨rfl, hsz, hP, hD0, hE⟩ := hv
  have hx := B.exec
  have hb := B.bytes
  have hr := B.returns
  have hts := atoms_spec (ws := wsJ0_coder_7d493) B.pre
  have hown : s.vm.findClass RJ0 = some m.cls := findClass_of_methodNamed B.named
  have hlocks := B.notSynchronized
  subst hsz
  have hK := hE.1
  have hAm := hE.2.2.1
  have hWm := hE.2.2.2
  have hAO := hWm.2.2.2.1
  have hD := hD0.self (sz := s.heap.size)
  have hAF := frA hD0 hE.2.1
  generalize hAe : va_A [] s.heap.size = A at hD hAF ⊢
  have hA : ∀ q : Nat, s.heap.size ≤ q → A q := fun q h => by rw [← hAe]; exact Or.inr h
  have hS : va_S A s.heap s.heap [] := va_S.rf
  have hEm := (hAm.2.2.2.narrow hAF).1 0 (by decide)
  have hl := lv_entry ([.ref (sa 0)]) (n := 1) (Nat.le_of_ble_eq_true rfl)
  rw [lg_entry_eq]
  generalize (lg_sl ([.ref (sa 0)]) ++ List.replicate (1 - (lg_sl ([.ref (sa 0)])).length) Slot.unset).toArray = ls at hl ⊢
  have hl : lv_has ls 1 [(0, .ref (sa 0))] := hl
  have hP : va_P D vwCl [] s.heap := hP
  refine va_gets (C := "java/lang/String") (n := "COMPACT_STRINGS") (d := "Z") (A := A) (v := .int 1) hx hb (hAm.1.narrow hAF) hS hown (hts (.fieldLink RJ0 38 "java/lang/String" "COMPACT_STRINGS" "Z") (List.mem_of_getElem? (i := 1) rfl)) (fun _ h9 => h9) dJ0_coder_7d493_0 ?_
  refine lv_if_eq (tgt := 13) hx hb dJ0_coder_7d493_3 (by decide) (fun c1 => absurd c1 (by decide +kernel)) (fun _ => ?_)
  refine lv_aload_n hx hb dJ0_coder_7d493_6 rfl (lv_at hl 0 rfl) ?_
  refine vk_getf (v := .int 0) hx hb (hEm.2.1) hS hown (hts (.fieldLink RJ0 15 "java/lang/String" "coder" "B") (List.mem_of_getElem? (i := 2) rfl)) (fun _ h9 => h9) dJ0_coder_7d493_7 ?_
  refine lv_goto (tgt := 14) hx hb dJ0_coder_7d493_10 (by decide) ?_
  refine W.widen (k := 0) (n := 0) (Nat.le_of_ble_eq_true rfl) (Nat.le_of_ble_eq_true rfl) ?_
  have hP9 := hP.sub (ws' := []) [] rfl
  have hD9 := hD.sub (ws' := []) [] (by decide) rfl
  exact W.zret (v := 0) (ty := .byte) hx hb hr rfl (fun t ht hW => ⟨⟨0, (), rfl, rfl, ⟨by rw [ht]; exact hP9, hD9⟩⟩, hS.F ht⟩) hS.2.2 dJ0_coder_7d493_14

set_option maxHeartbeats 1000000 in
set_option maxRecDepth 100000 in
theorem C_J0_length_8abf5_1 (l : Launch) (D : va_G) (cy : Nat → ClassId) (sz0 : Nat) (sa : Nat → Nat)  (sz : Nat)  : Met l yJ0_length_8abf5 wsJ0_length_8abf5 ({ frames := 1, cells := 0, slots := 0, locals := 20 }) (PcW D cy sz0 sa [.ref (sa 0)] [] sz) (va_Qi (fun (r : Int32) (u : Unit) => r = 0) (fun (u : Unit) (t : State) => BW D [] (va_A [] sz) t) (va_A [] sz)) 0 0 (va_A [] sz) := by
  refine Met.ofW (cc := cJ0_length_8abf5) (maxL := 1) (ret := (some .int)) (by decide) rfl ?_
  intro p e s m args below meth c s₁ B hml hv
  obtain ⟨rfl, hsz, hP, hD0, hE⟩ := hv
  have hx := B.exec
  have hb := B.bytes
  have hr := B.returns
  have hts := atoms_spec (ws := wsJ0_length_8abf5) B.pre
  have hown : s.vm.findClass RJ0 = some m.cls := findClass_of_methodNamed B.named
  have hlocks := B.notSynchronized
  subst hsz
  have hK := hE.1
  have hAm := hE.2.2.1
  have hWm := hE.2.2.2
  have hAO := hWm.2.2.2.1
  have hD := hD0.self (sz := s.heap.size)
  have hAF := frA hD0 hE.2.1
  generalize hAe : va_A [] s.heap.size = A at hD hAF ⊢
  have hA : ∀ q : Nat, s.heap.size ≤ q → A q := fun q h => by rw [← hAe]; exact Or.inr h
  have hS : va_S A s.heap s.heap [] := va_S.rf
  have hEm := (hAm.2.2.2.narrow hAF).1 0 (by decide)
  have hl := lv_entry ([.ref (sa 0)]) (n := 1) (Nat.le_of_ble_eq_true rfl)
  rw [lg_entry_eq]
  generalize (lg_sl ([.ref (sa 0)]) ++ List.replicate (1 - (lg_sl ([.ref (sa 0)])).length) Slot.unset).toArray = ls at hl ⊢
  have hl : lv_has ls 1 [(0, .ref (sa 0))] := hl
  have hP : va_P D vwCl [] s.heap := hP
  refine lv_aload_n hx hb dJ0_length_8abf5_0 rfl (lv_at hl 0 rfl) ?_
  refine vk_getf (v := .ref (sa 1)) hx hb (hEm.2.2.1) hS hown (hts (.fieldLink RJ0 9 "java/lang/String" "value" "[B") (List.mem_of_getElem? (i := 1) rfl)) (fun _ h9 => h9) dJ0_length_8abf5_1 ?_
  refine va_tlen (v := 0) hx hb hEm.2.2.2 hS rfl dJ0_length_8abf5_4 ?_
  refine lv_aload_n hx hb dJ0_length_8abf5_5 rfl (lv_at hl 0 rfl) ?_
  have hPc := hP.sub (ws' := []) [] rfl
  have hDc := hD.sub (ws' := []) [] (by decide) rfl
  have hFc := va_free (wc := []) hD hS hA [] rfl
  refine va_calli (va_runV (As := []) (rest := [.int 0]) ⟨hx, hb, hml, hown, hts⟩ (C_J0_coder_7d493_1 l D cy sz0 sa s.heap.size) (cwV 0 hts gJ0_length_8abf5_J0_coder_7d493 rfl rfl rfl (by decide +kernel) ⟨Nat.le_of_ble_eq_true rfl, Nat.le_of_ble_eq_true rfl⟩) ⟨PcW.blind, vk_recv (i := 0) (hAm.2.2.2.narrow hAF) (by decide) hS, PcW.mk hE hS hAF hPc hDc⟩ rfl rfl hl.1 rfl (lv_room (Nat.le_of_ble_eq_true rfl)) dJ0_length_8abf5_6 ⟨Nat.le_of_ble_eq_true rfl, Nat.le_of_ble_eq_true rfl⟩) hS (fun q _ h => hFc q h) hFc (fun r_1 u t H1 locs ht hvm hw hB hz1 hk1 hS => ?_)
  obtain ⟨hP1, hD1⟩ := hB
  rw [ht] at hP1
  have hP1 : va_P D vwCl [] H1 := hP1
  obtain ⟨hP, hD⟩ := va_join (wr := []) (w1 := []) hP hD [] [] rfl rfl (by decide) (by decide) hk1 hFc hP1 hD1
  clear hP1 hD1 hPc hDc hFc hk1 hz1
  generalize H1 = H at hP hS ⊢
  have hP : va_P D vwCl [] H := hP
  have hD : va_D A [] := hD
  refine W.widen (k := 0) (n := 0) (Nat.le_of_ble_eq_true rfl) (Nat.le_of_ble_eq_true rfl) ?_
  obtain rfl : r_1 = 0 := hw
  refine lv_ishr hx hb dJ0_length_8abf5_9 ?_
  refine lv_topi (fun x2 ex2 => ?_)
  obtain rfl : x2 = 0 := ex2.trans (by decide +kernel)
  refine W.widen (k := 0) (n := 0) (Nat.le_of_ble_eq_true rfl) (Nat.le_of_ble_eq_true rfl) ?_
  have hP9 := hP.sub (ws' := []) [] rfl
  have hD9 := hD.sub (ws' := []) [] (by decide) rfl
  exact W.iret (v := 0) hx hb hr (fun t ht hW => ⟨⟨0, (), rfl, rfl, ⟨by rw [ht]; exact hP9, hD9⟩⟩, hS.F ht⟩) hS.2.2 dJ0_length_8abf5_10

set_option maxHeartbeats 1000000 in
set_option maxRecDepth 100000 in
theorem C_X11_text_1 (l : Launch) (D : va_G) (cy : Nat → ClassId) (sz0 : Nat) (sa : Nat → Nat) (a0 a1 a2 a3 a4 a5 a6 : Nat) (sz : Nat) (k0 : Int32) : Met l yX11_text wsX11_text ({ frames := 2, cells := 0, slots := 0, locals := 40 }) (PcW D cy sz0 sa [.ref a0, .int k0] [(a0, .inr (13, [.ref a2, .ref a3, .ref a4, .int 0, .ref a5, .int 0, .ref a6, .int 0, .ref a1])), (a1, .inr (12, [.int 0, .int 0, .double FP.dconst0, .ref (sa 0), .null]))] sz) (va_Qi (fun (r : Int32) (u : Unit) => r = (-1)) (fun (_ : Unit) (_ : State) => True) (va_A [(a0, .inr (13, [.ref a2, .ref a3, .ref a4, .int 0, .ref a5, .int 0, .ref a6, .int 0, .ref a1])), (a1, .inr (12, [.int 0, .int 0, .double FP.dconst0, .ref (sa 0), .null]))] sz)) 0 0 (va_A [(a0, .inr (13, [.ref a2, .ref a3, .ref a4, .int 0, .ref a5, .int 0, .ref a6, .int 0, .ref a1])), (a1, .inr (12, [.int 0, .int 0, .double FP.dconst0, .ref (sa 0), .null]))] sz) := by
  refine Met.ofW (cc := cX11_text) (maxL := 2) (ret := (some .int)) (by decide) rfl ?_
  intro p e s m args below meth c s₁ B hml hv
  obtain ⟨rfl, hsz, hP, hD0, hE⟩ := hv
  have hx := B.exec
  have hb := B.bytes
  have hr := B.returns
  have hts := atoms_spec (ws := wsX11_text) B.pre
  have hown : s.vm.findClass RX11 = some m.cls := findClass_of_methodNamed B.named
  have hlocks := B.notSynchronized
  subst hsz
  have hK := hE.1
  have hAm := hE.2.2.1
  have hWm := hE.2.2.2
  have hAO := hWm.2.2.2.1
  have hD := hD0.self (sz := s.heap.size)
  have hAF := frA hD0 hE.2.1
  generalize hAe : va_A [(a0, .inr (13, [.ref a2, .ref a3, .ref a4, .int 0, .ref a5, .int 0, .ref a6, .int 0, .ref a1])), (a1, .inr (12, [.int 0, .int 0, .double FP.dconst0, .ref (sa 0), .null]))] s.heap.size = A at hD hAF ⊢
  have hA : ∀ q : Nat, s.heap.size ≤ q → A q := fun q h => by rw [← hAe]; exact Or.inr h
  have hS : va_S A s.heap s.heap [] := va_S.rf
  have hl := lv_entry ([.ref a0, .int k0]) (n := 2) (Nat.le_of_ble_eq_true rfl)
  rw [lg_entry_eq]
  generalize (lg_sl ([.ref a0, .int k0]) ++ List.replicate (2 - (lg_sl ([.ref a0, .int k0])).length) Slot.unset).toArray = ls at hl ⊢
  have hl : lv_has ls 2 [(0, .ref a0), (1, .int k0)] := hl
  have hP : va_P D vwCl [(a0, .inr (13, [.ref a2, .ref a3, .ref a4, .int 0, .ref a5, .int 0, .ref a6, .int 0, .ref a1])), (a1, .inr (12, [.int 0, .int 0, .double FP.dconst0, .ref (sa 0), .null]))] s.heap := hP
  have z0 : (0 : Int32).toInt = 0 := by decide +kernel
  refine lv_iload_n hx hb dX11_text_0 rfl (lv_at hl 1 rfl) ?_
  refine lv_if_lt (tgt := 32) hx hb dX11_text_1 (by decide) (fun c1 => ?_) (fun c1 => ?_)
  · have c1 := z_lt c1
    refine lv_iconst (v := (-1)) hx hb dX11_text_32 (by decide +kernel) ?_
    refine W.widen (k := 0) (n := 0) (Nat.le_of_ble_eq_true rfl) (Nat.le_of_ble_eq_true rfl) ?_
    exact W.iret (v := (-1)) hx hb hr (fun t ht hW => ⟨⟨(-1), (), rfl, rfl, trivial⟩, hS.F ht⟩) hS.2.2 dX11_text_33
  · have c1 := z_nlt c1
    refine lv_iload_n hx hb dX11_text_4 rfl (lv_at hl 1 rfl) ?_
    refine lv_aload_n hx hb dX11_text_5 rfl (lv_at hl 0 rfl) ?_
    refine va_get (D := D) (ci := 13) (v := .ref a1) (C := RX11) (T := TX11) (N := 9) hx hb hts (fun _ h => List.mem_cons_of_mem _ (List.mem_append_left _ (List.mem_append_left _ (List.mem_append_right _ h)))) hown hK hP 0 rfl rfl 8 (by decide) (hts (.fieldLink RX11 45 "PhraseDesk" "latest" "LPhraseDesk$Value;") (List.mem_of_getElem? (i := 1) rfl)) (fun _ h9 => h9) rfl dX11_text_6 ?_
    refine va_get (D := D) (ci := 12) (v := .ref (sa 0)) (C := RX10) (T := TX10) (N := 5) hx hb hts (fun _ h => List.mem_cons_of_mem _ (List.mem_append_left _ (List.mem_append_right _ h))) hown hK hP 1 rfl rfl 3 (by decide) (hts (.fieldLink RX11 214 "PhraseDesk$Value" "chars" "Ljava/lang/String;") (List.mem_of_getElem? (i := 2) rfl)) (fun _ h9 => h9) rfl dX11_text_9 ?_
    have hPc := hP.sub (ws' := []) [] rfl
    have hDc := hD.sub (ws' := []) [] (by decide) rfl
    have hFc := va_free (wc := []) hD hS hA [] rfl
    refine va_calli (va_runV (As := []) (rest := [.int k0]) ⟨hx, hb, hml, hown, hts⟩ (C_J0_length_8abf5_1 l D cy sz0 sa s.heap.size) (cwV 0 hts gX11_text_J0_length_8abf5 rfl rfl rfl (by decide +kernel) ⟨Nat.le_of_ble_eq_true rfl, Nat.le_of_ble_eq_true rfl⟩) ⟨PcW.blind, vk_recv (i := 0) (hAm.2.2.2.narrow hAF) (by decide) hS, PcW.mk hE hS hAF hPc hDc⟩ rfl rfl hl.1 rfl (lv_room (Nat.le_of_ble_eq_true rfl)) dX11_text_12 ⟨Nat.le_of_ble_eq_true rfl, Nat.le_of_ble_eq_true rfl⟩) hS (fun q _ h => hFc q h) hFc (fun r_2 u t H1 locs ht hvm hw hB hz1 hk1 hS => ?_)
    obtain ⟨hP1, hD1⟩ := hB
    rw [ht] at hP1
    have hP1 : va_P D vwCl [] H1 := hP1
    obtain ⟨hP, hD⟩ := va_join (wr := [(a0, .inr (13, [.ref a2, .ref a3, .ref a4, .int 0, .ref a5, .int 0, .ref a6, .int 0, .ref a1])), (a1, .inr (12, [.int 0, .int 0, .double FP.dconst0, .ref (sa 0), .null]))]) (w1 := []) hP hD [] [0, 1] rfl rfl (by decide) (by decide) hk1 hFc hP1 hD1
    clear hP1 hD1 hPc hDc hFc hk1 hz1
    generalize H1 = H at hP hS ⊢
    have hP : va_P D vwCl [(a0, .inr (13, [.ref a2, .ref a3, .ref a4, .int 0, .ref a5, .int 0, .ref a6, .int 0, .ref a1])), (a1, .inr (12, [.int 0, .int 0, .double FP.dconst0, .ref (sa 0), .null]))] H := hP
    have hD : va_D A [(a0, .inr (13, [.ref a2, .ref a3, .ref a4, .int 0, .ref a5, .int 0, .ref a6, .int 0, .ref a1])), (a1, .inr (12, [.int 0, .int 0, .double FP.dconst0, .ref (sa 0), .null]))] := hD
    refine W.widen (k := 0) (n := 0) (Nat.le_of_ble_eq_true rfl) (Nat.le_of_ble_eq_true rfl) ?_
    obtain rfl : r_2 = 0 := hw
    refine lv_icmp_ge (tgt := 32) hx hb dX11_text_15 (by decide) (fun c3 => ?_) (fun c3 => ?_)
    · have c3 := z_le c3
      refine lv_iconst (v := (-1)) hx hb dX11_text_32 (by decide +kernel) ?_
      refine W.widen (k := 0) (n := 0) (Nat.le_of_ble_eq_true rfl) (Nat.le_of_ble_eq_true rfl) ?_
      exact W.iret (v := (-1)) hx hb hr (fun t ht hW => ⟨⟨(-1), (), rfl, rfl, trivial⟩, hS.F ht⟩) hS.2.2 dX11_text_33
    · have c3 := z_nle c3
      exfalso
      omega
set_option maxHeartbeats 1000000 in
set_option maxRecDepth 100000 in
theorem C_X11_put_1 (l : Launch) (hfl : l.stackTraces = false) (D : va_G) (cy : Nat → ClassId) (sz0 : Nat) (sa : Nat → Nat) (a0 a1 a2 a3 a4 a5 a6 : Nat) (sz : Nat) (k0 : Int32) (k1 : Int32) : vx_Met l yX11_put wsX11_put ({ frames := 6, cells := 1, slots := 6, locals := 82 }) (PcW D cy sz0 sa [.ref a0, .int k0, .int k1] [(a0, .inr (13, [.ref a1, .ref a2, .ref a3, .int 0, .ref a4, .int 0, .ref a5, .int 0, .ref a6]))] sz) (va_Qi (fun (r : Int32) (u : Unit) => False) (fun (_ : Unit) (_ : State) => True) (va_A [(a0, .inr (13, [.ref a1, .ref a2, .ref a3, .int 0, .ref a4, .int 0, .ref a5, .int 0, .ref a6]))] sz)) (vx_X (fun _ : Unit => True) (fun (E : String) (_ : Unit) (_ : State) => E = tIAE ∧ (True)) (va_A [(a0, .inr (13, [.ref a1, .ref a2, .ref a3, .int 0, .ref a4, .int 0, .ref a5, .int 0, .ref a6]))] sz)) 1 6 (va_A [(a0, .inr (13, [.ref a1, .ref a2, .ref a3, .int 0, .ref a4, .int 0, .ref a5, .int 0, .ref a6]))] sz) := by
  refine vx_ofW (cc := cX11_put) (maxL := 4) (ret := (some .int)) (by decide) rfl ?_
  intro p e s m args below meth c s₁ B hml hout hv
  obtain ⟨rfl, hsz, hP, hD0, hE⟩ := hv
  have hx := B.exec
  have hb := B.bytes
  have hr := B.returns
  have hts := atoms_spec (ws := wsX11_put) B.pre
  have hown : s.vm.findClass RX11 = some m.cls := findClass_of_methodNamed B.named
  have hlocks := B.notSynchronized
  subst hsz
  have hK := hE.1
  have hAm := hE.2.2.1
  have hWm := hE.2.2.2
  have hAO := hWm.2.2.2.1
  have hD := hD0.self (sz := s.heap.size)
  have hAF := frA hD0 hE.2.1
  generalize hAe : va_A [(a0, .inr (13, [.ref a1, .ref a2, .ref a3, .int 0, .ref a4, .int 0, .ref a5, .int 0, .ref a6]))] s.heap.size = A at hD hAF ⊢
  have hA : ∀ q : Nat, s.heap.size ≤ q → A q := fun q h => by rw [← hAe]; exact Or.inr h
  have hS : va_S A s.heap s.heap [] := va_S.rf
  have hl := lv_entry ([.ref a0, .int k0, .int k1]) (n := 4) (Nat.le_of_ble_eq_true rfl)
  rw [lg_entry_eq]
  generalize (lg_sl ([.ref a0, .int k0, .int k1]) ++ List.replicate (4 - (lg_sl ([.ref a0, .int k0, .int k1])).length) Slot.unset).toArray = ls at hl ⊢
  have hl : lv_has ls 4 [(0, .ref a0), (1, .int k0), (2, .int k1)] := hl
  have hP : va_P D vwCl [(a0, .inr (13, [.ref a1, .ref a2, .ref a3, .int 0, .ref a4, .int 0, .ref a5, .int 0, .ref a6]))] s.heap := hP
  refine lv_aload_n hx hb dX11_put_0 rfl (lv_at hl 0 rfl) ?_
  refine lv_iload_n hx hb dX11_put_1 rfl (lv_at hl 1 rfl) ?_
  have hPc := hP.sub (ws' := [(a0, .inr (13, [.ref a1, .ref a2, .ref a3, .int 0, .ref a4, .int 0, .ref a5, .int 0, .ref a6]))]) [0] rfl
  have hDc := hD.sub (ws' := [(a0, .inr (13, [.ref a1, .ref a2, .ref a3, .int 0, .ref a4, .int 0, .ref a5, .int 0, .ref a6]))]) [0] (by decide) rfl
  have hFc := va_free (wc := [(a0, .inr (13, [.ref a1, .ref a2, .ref a3, .int 0, .ref a4, .int 0, .ref a5, .int 0, .ref a6]))]) hD hS hA [0] rfl
  refine va_callq (va_runV (As := [.int k0]) (rest := []) ⟨hx, hb, hml, hown, hts⟩ (C_X11_objectAt_1 l D cy sz0 sa a0 a1 a2 a3 a4 a5 a6 s.heap.size k0) (cwV 1 hts gX11_put_X11_objectAt rfl rfl rfl (by decide +kernel) ⟨Nat.le_of_ble_eq_true rfl, Nat.le_of_ble_eq_true rfl⟩) ⟨PcW.blind, va_recv hK hPc (ci := 13) (q0 := 0) rfl rfl, PcW.mk hE hS hAF hPc hDc⟩ rfl rfl hl.1 rfl (lv_room (Nat.le_of_ble_eq_true rfl)) dX11_put_2 ⟨Nat.le_of_ble_eq_true rfl, Nat.le_of_ble_eq_true rfl⟩) hS (fun q _ h => hFc q h) hFc (fun r_1 u t H1 locs ht hvm hw hB hz1 hk1 hS => ?_)
  obtain ⟨hP1, hD1⟩ := hB
  rw [ht] at hP1
  have hP1 : va_P D vwCl [(a0, .inr (13, [.ref a1, .ref a2, .ref a3, .int 0, .ref a4, .int 0, .ref a5, .int 0, .ref a6]))] H1 := hP1
  obtain ⟨hP, hD⟩ := va_join (wr := []) (w1 := [(a0, .inr (13, [.ref a1, .ref a2, .ref a3, .int 0, .ref a4, .int 0, .ref a5, .int 0, .ref a6]))]) hP hD [0] [] rfl rfl (by decide) (by decide) hk1 hFc hP1 hD1
  clear hP1 hD1 hPc hDc hFc hk1 hz1
  generalize H1 = H at hP hS ⊢
  have hP : va_P D vwCl [(a0, .inr (13, [.ref a1, .ref a2, .ref a3, .int 0, .ref a4, .int 0, .ref a5, .int 0, .ref a6]))] H := hP
  have hD : va_D A [(a0, .inr (13, [.ref a1, .ref a2, .ref a3, .int 0, .ref a4, .int 0, .ref a5, .int 0, .ref a6]))] := hD
  refine W.widen (k := 0) (n := 0) (Nat.le_of_ble_eq_true rfl) (Nat.le_of_ble_eq_true rfl) ?_
  obtain rfl : r_1 = none := hw
  refine W.eq (g2 := F0 m 5 ls [.null]) rfl ?_
  refine lv_astore_nN (lv' := [(3, .null), (0, .ref a0), (1, .int k0), (2, .int k1)]) hx hb dX11_put_5 rfl hl (by decide) rfl (fun ls hl => ?_)
  refine lv_aload_nN hx hb dX11_put_6 rfl (lv_at hl 0 rfl) ?_
  refine lv_ifnonnullN hx hb dX11_put_7 ?_
  exact g_iae hx hb hfl hts hE hAF hown (List.mem_of_getElem? (i := 1) rfl) (List.mem_of_getElem? (i := 2) rfl) (is := 227) (text := "there is no such object") (by decide +kernel) (fun _ h => List.mem_cons_of_mem _ (List.mem_append_right _ h)) hS (by rw [hml]; exact hl.1) dX11_put_10 dX11_put_13 dX11_put_14 dX11_put_16 dX11_put_19 hout (by decide) (by decide) (Nat.le_of_ble_eq_true rfl) (Nat.le_of_ble_eq_true rfl) hlocks (fun t h1 h2 h3 => ⟨(), trivial, ⟨rfl, by simp⟩, Nat.le_trans hS.1 h2, fun q h4 h5 => (h3 q (Nat.lt_of_lt_of_le h4 hS.1)).trans (hS.2.1 q h4 h5)⟩) hS.2.2 (Nat.le_of_ble_eq_true rfl) (Nat.le_of_ble_eq_true rfl)
set_option maxHeartbeats 1000000 in
set_option maxRecDepth 100000 in
theorem C_L_put_1 (l : Launch) (hfl : l.stackTraces = false) (D : va_G) (cy : Nat → ClassId) (sz0 : Nat) (sa : Nat → Nat) (a0 a1 a2 a3 a4 a5 a6 a7 : Nat) (sz : Nat) (k0 : Int32) (k1 : Int32) : Met l yL_put wsL_put ({ frames := 7, cells := 1, slots := 6, locals := 105 }) (PcW D cy sz0 sa [.ref a0, .int k0, .int k1, .ref a1] [(a0, .inr (13, [.ref a2, .ref a3, .ref a4, .int 0, .ref a5, .int 0, .ref a6, .int 0, .ref a7]))] sz) (va_Qi (fun (r : Int32) (u : Unit) => r = 1) (fun (_ : Unit) (_ : State) => True) (va_A [(a0, .inr (13, [.ref a2, .ref a3, .ref a4, .int 0, .ref a5, .int 0, .ref a6, .int 0, .ref a7]))] sz)) 1 6 (va_A [(a0, .inr (13, [.ref a2, .ref a3, .ref a4, .int 0, .ref a5, .int 0, .ref a6, .int 0, .ref a7]))] sz) := by
  refine va_MetW (cc := cL_put) (maxL := 5) (ret := (some .int)) (hh := [(0, 10, 13, 13)]) (by decide) rfl ?_
  intro p e s m args below meth c s₁ B hml hv
  obtain ⟨rfl, hsz, hP, hD0, hE⟩ := hv
  have hx := B.exec
  have hb := B.bytes
  have hr := B.returns
  have hts := atoms_spec (ws := wsL_put) B.pre
  have hown : s.vm.findClass RL = some m.cls := findClass_of_methodNamed B.named
  have hlocks := B.notSynchronized
  subst hsz
  have hK := hE.1
  have hAm := hE.2.2.1
  have hWm := hE.2.2.2
  have hAO := hWm.2.2.2.1
  have hD := hD0.self (sz := s.heap.size)
  have hAF := frA hD0 hE.2.1
  generalize hAe : va_A [(a0, .inr (13, [.ref a2, .ref a3, .ref a4, .int 0, .ref a5, .int 0, .ref a6, .int 0, .ref a7]))] s.heap.size = A at hD hAF ⊢
  have hA : ∀ q : Nat, s.heap.size ≤ q → A q := fun q h => by rw [← hAe]; exact Or.inr h
  have hS : va_S A s.heap s.heap [] := va_S.rf
  have hl := lv_entry ([.ref a0, .int k0, .int k1, .ref a1]) (n := 5) (Nat.le_of_ble_eq_true rfl)
  rw [lg_entry_eq]
  generalize (lg_sl ([.ref a0, .int k0, .int k1, .ref a1]) ++ List.replicate (5 - (lg_sl ([.ref a0, .int k0, .int k1, .ref a1])).length) Slot.unset).toArray = ls at hl ⊢
  have hl : lv_has ls 5 [(0, .ref a0), (1, .int k0), (2, .int k1), (3, .ref a1)] := hl
  have hP : va_P D vwCl [(a0, .inr (13, [.ref a2, .ref a3, .ref a4, .int 0, .ref a5, .int 0, .ref a6, .int 0, .ref a7]))] s.heap := hP
  refine lv_aload_n hx hb dL_put_0 rfl (lv_at hl 3 rfl) ?_
  refine lv_iconst (v := 0) hx hb dL_put_1 (by decide +kernel) ?_
  refine lv_aload_n hx hb dL_put_2 rfl (lv_at hl 0 rfl) ?_
  refine lv_iload_n hx hb dL_put_3 rfl (lv_at hl 1 rfl) ?_
  refine lv_iload_n hx hb dL_put_4 rfl (lv_at hl 2 rfl) ?_
  have hPc := hP.sub (ws' := [(a0, .inr (13, [.ref a2, .ref a3, .ref a4, .int 0, .ref a5, .int 0, .ref a6, .int 0, .ref a7]))]) [0] rfl
  have hDc := hD.sub (ws' := [(a0, .inr (13, [.ref a2, .ref a3, .ref a4, .int 0, .ref a5, .int 0, .ref a6, .int 0, .ref a7]))]) [0] (by decide) rfl
  have hFc := va_free (wc := [(a0, .inr (13, [.ref a2, .ref a3, .ref a4, .int 0, .ref a5, .int 0, .ref a6, .int 0, .ref a7]))]) hD hS hA [0] rfl
  refine vx_calli (vx_runV (As := [.int k0, .int k1]) (rest := [.int 0, .ref a1]) ⟨hx, hb, hml, hown, hts⟩ (C_X11_put_1 l hfl D cy sz0 sa a0 a2 a3 a4 a5 a6 a7 s.heap.size k0 k1) (cwV 2 hts gL_put_X11_put rfl rfl rfl (by decide +kernel) ⟨Nat.le_of_ble_eq_true rfl, Nat.le_of_ble_eq_true rfl⟩) ⟨PcW.blind, va_recv hK hPc (ci := 13) (q0 := 0) rfl rfl, PcW.mk hE hS hAF hPc hDc⟩ rfl rfl hl.1 rfl (lv_room (Nat.le_of_ble_eq_true rfl)) dL_put_5 ⟨Nat.le_of_ble_eq_true rfl, Nat.le_of_ble_eq_true rfl⟩) hS (fun q _ h => hFc q h) hFc (fun q _ h => hFc q h) (fun E ce q9 u t H1 locs ht hvm hpx hbx hz1 hk1 hS hq9 hv9 hc9 => ?_) (fun r_1 u t H1 locs ht hvm hw hB hz1 hk1 hS => ?_)
  · obtain ⟨rfl, hxr_1⟩ := hbx
    obtain ⟨hP, hD⟩ := va_join (wr := []) (w1 := []) hP hD [0] [] rfl rfl (by decide) (by decide) hk1 hFc nilP nilD
    skip
    have hq8 := hq9
    clear hPc hDc hFc hk1 hz1
    skip
    have hP : va_P D vwCl [] H1 := hP
    have hD : va_D A [] := hD
    refine vx_widen (k := 1) (n := 6) (Nat.le_of_ble_eq_true rfl) (Nat.le_of_ble_eq_true rfl) ?_
    refine vx_catch hown [] _ _ ((vx_table B (hts (.codeWith yL_put cL_put 5 (some .int) [(0, 10, 13, 13)]) (List.mem_of_getElem? (i := 0) rfl))).trans rfl) (fun z hz => absurd hz List.not_mem_nil) (by decide) (by decide) (hts (.classLink RL 13 "java/lang/IllegalArgumentException") (List.mem_of_getElem? (i := 1) rfl)) (va_Nw.use rfl hWm.2.2.1.2.2.2.1) hq9 hv9 hc9 ?_
    clear hq8 hq9 ht
    generalize H1 = H at hP hS ⊢
    refine lv_astore (lv' := [(4, .ref q9), (0, .ref a0), (1, .int k0), (2, .int k1), (3, .ref a1)]) hx hb dL_put_13 hl (by decide) rfl (fun ls hl => ?_)
    refine lv_iconst (v := 1) hx hb dL_put_15 (by decide +kernel) ?_
    refine W.widen (k := 1) (n := 6) (Nat.le_of_ble_eq_true rfl) (Nat.le_of_ble_eq_true rfl) ?_
    exact W.iret (v := 1) hx hb hr (fun t ht hW => ⟨⟨1, (), rfl, rfl, trivial⟩, hS.F ht⟩) hS.2.2 dL_put_16
  · obtain ⟨hP, hD⟩ := va_join (wr := []) (w1 := []) hP hD [0] [] rfl rfl (by decide) (by decide) hk1 hFc nilP nilD
    clear hPc hDc hFc hk1 hz1
    generalize H1 = H at hP hS ⊢
    have hP : va_P D vwCl [] H := hP
    have hD : va_D A [] := hD
    refine W.widen (k := 1) (n := 6) (Nat.le_of_ble_eq_true rfl) (Nat.le_of_ble_eq_true rfl) ?_
    rcases hw with 
set_option maxHeartbeats 1000000 in
set_option maxRecDepth 100000 in
theorem C_X11_about_1 (l : Launch) (D : va_G) (cy : Nat → ClassId) (sz0 : Nat) (sa : Nat → Nat) (a0 a1 a2 a3 a4 a5 a6 a7 a8 a9 a10 a11 a12 a13 a14 a15 a16 a17 a18 : Nat) (sz : Nat) (k0 : Int32) : Met l yX11_about wsX11_about ({ frames := 0, cells := 0, slots := 0, locals := 0 }) (PcW D cy sz0 sa [.ref a0, .int k0] [(a0, .inr (13, [.ref a1, .ref a3, .ref a4, .int 0, .ref a5, .int 0, .ref a6, .int 0, .ref a7])), (a1, .inr (8, [.ref a2, .int 0, .int 0, .int 0])), (a2, .inr (6, [.ref a8, .int 0, .ref a9, .ref a10, .ref a11, .ref a12, .int 0, .ref a13])), (a3, .inr (10, [.ref a14, .ref a15, .ref a16, .ref a17, .ref a18, .int 0, .ref a14, .int 0]))] sz) (va_Qi (fun (r : Int32) (u : Unit) => (r = 0 ∧ (k0.toInt = 0 ∨ (¬ k0.toInt = 0 ∧ k0.toInt = 1) ∨ (¬ k0.toInt = 0 ∧ ¬ k0.toInt = 1 ∧ k0.toInt = 2) ∨ (¬ k0.toInt = 0 ∧ ¬ k0.toInt = 1 ∧ ¬ k0.toInt = 2 ∧ k0.toInt = 3) ∨ (¬ k0.toInt = 0 ∧ ¬ k0.toInt = 1 ∧ ¬ k0.toInt = 2 ∧ ¬ k0.toInt = 3 ∧ k0.toInt = 4))) ∨ (r = (-1) ∧ (¬ k0.toInt = 0 ∧ ¬ k0.toInt = 1 ∧ ¬ k0.toInt = 2 ∧ ¬ k0.toInt = 3 ∧ ¬ k0.toInt = 4))) (fun (_ : Unit) (_ : State) => True) (va_A [(a0, .inr (13, [.ref a1, .ref a3, .ref a4, .int 0, .ref a5, .int 0, .ref a6, .int 0, .ref a7])), (a1, .inr (8, [.ref a2, .int 0, .int 0, .int 0])), (a2, .inr (6, [.ref a8, .int 0, .ref a9, .ref a10, .ref a11, .ref a12, .int 0, .ref a13])), (a3, .inr (10, [.ref a14, .ref a15, .ref a16, .ref a17, .ref a18, .int 0, .ref a14, .int 0]))] sz)) 0 0 (va_A [(a0, .inr (13, [.ref a1, .ref a3, .ref a4, .int 0, .ref a5, .int 0, .ref a6, .int 0, .ref a7])), (a1, .inr (8, [.ref a2, .int 0, .int 0, .int 0])), (a2, .inr (6, [.ref a8, .int 0, .ref a9, .ref a10, .ref a11, .ref a12, .int 0, .ref a13])), (a3, .inr (10, [.ref a14, .ref a15, .ref a16, .ref a17, .ref a18, .int 0, .ref a14, .int 0]))] sz) := by
  refine Met.ofW (cc := cX11_about) (maxL := 2) (ret := (some .int)) (by decide) rfl ?_
  intro p e s m args below meth c s₁ B hml hv
  obtain ⟨rfl, hsz, hP, hD0, hE⟩ := hv
  have hx := B.exec
  have hb := B.bytes
  have hr := B.returns
  have hts := atoms_spec (ws := wsX11_about) B.pre
  have hown : s.vm.findClass RX11 = some m.cls := findClass_of_methodNamed B.named
  have hlocks := B.notSynchronized
  subst hsz
  have hK := hE.1
  have hAm := hE.2.2.1
  have hWm := hE.2.2.2
  have hAO := hWm.2.2.2.1
  have hD := hD0.self (sz := s.heap.size)
  have hAF := frA hD0 hE.2.1
  generalize hAe : va_A [(a0, .inr (13, [.ref a1, .ref a3, .ref a4, .int 0, .ref a5, .int 0, .ref a6, .int 0, .ref a7])), (a1, .inr (8, [.ref a2, .int 0, .int 0, .int 0])), (a2, .inr (6, [.ref a8, .int 0, .ref a9, .ref a10, .ref a11, .ref a12, .int 0, .ref a13])), (a3, .inr (10, [.ref a14, .ref a15, .ref a16, .ref a17, .ref a18, .int 0, .ref a14, .int 0]))] s.heap.size = A at hD hAF ⊢
  have hA : ∀ q : Nat, s.heap.size ≤ q → A q := fun q h => by rw [← hAe]; exact Or.inr h
  have hS : va_S A s.heap s.heap [] := va_S.rf
  have hl := lv_entry ([.ref a0, .int k0]) (n := 2) (Nat.le_of_ble_eq_true rfl)
  rw [lg_entry_eq]
  generalize (lg_sl ([.ref a0, .int k0]) ++ List.replicate (2 - (lg_sl ([.ref a0, .int k0])).length) Slot.unset).toArray = ls at hl ⊢
  have hl : lv_has ls 2 [(0, .ref a0), (1, .int k0)] := hl
  have hP : va_P D vwCl [(a0, .inr (13, [.ref a1, .ref a3, .ref a4, .int 0, .ref a5, .int 0, .ref a6, .int 0, .ref a7])), (a1, .inr (8, [.ref a2, .int 0, .int 0, .int 0])), (a2, .inr (6, [.ref a8, .int 0, .ref a9, .ref a10, .ref a11, .ref a12, .int 0, .ref a13])), (a3, .inr (10, [.ref a14, .ref a15, .ref a16, .ref a17, .ref a18, .int 0, .ref a14, .int 0]))] s.heap := hP
  have z0 : (0 : Int32).toInt = 0 := by decide +kernel
  have z1 : (1 : Int32).toInt = 1 := by decide +kernel
  have z2 : (2 : Int32).toInt = 2 := by decide +kernel
  have z3 : (3 : Int32).toInt = 3 := by decide +kernel
  have z4 : (4 : Int32).toInt = 4 := by decide +kernel
  refine lv_iload_n hx hb dX11_about_0 rfl (lv_at hl 1 rfl) ?_
  by_cases k1_0 : k0 = 0
  · have tk1_0 := z_eq k1_0
    refine lv_tableIn (off := 35) (tgt := 36) hx hb dX11_about_1 (by rw [k1_0]; decide +kernel) (by rw [k1_0]; decide +kernel) (by rw [k1_0]; decide +kernel) (by decide) ?_
    refine lv_aload_n hx hb dX11_about_36 rfl (lv_at hl 0 rfl) ?_
    refine va_get (D := D) (ci := 13) (v := .ref a1) (C := RX11) (T := TX11) (N := 9) hx hb hts (fun _ h => List.mem_cons_of_mem _ (List.mem_append_left _ (List.mem_append_left _ (List.mem_append_left _ (List.mem_append_right _ h))))) hown hK hP 0 rfl rfl 0 (by decide) (hts (.fieldLink RX11 10 "PhraseDesk" "parser" "LPhraseDesk$Parser;") (List.mem_of_getElem? (i := 1) rfl)) (fun _ h9 => h9) rfl dX11_about_37 ?_
    refine va_get (D := D) (ci := 8) (v := .ref a2) (C := RX6) (T := TX6) (N := 4) hx hb hts (fun _ h => List.mem_cons_of_mem _ (List.mem_append_left _ (List.mem_append_left _ (List.mem_append_right _ h)))) hown hK hP 1 rfl rfl 0 (by decide) (hts (.fieldLink RX11 56 "PhraseDesk$Parser" "lexer" "LPhraseDesk$Lexer;") (List.mem_of_getElem? (i := 2) rfl)) (fun _ h9 => h9) rfl dX11_about_40 ?_
    refine va_get (D := D) (ci := 6) (v := .int 0) (C := RX4) (T := TX4) (N := 8) hx hb hts (fun _ h => List.mem_cons_of_mem _ (List.mem_append_left _ (List.mem_append_right _ h))) hown hK hP 2 rfl rfl 1 (by decide) (hts (.fieldLink RX11 60 "PhraseDesk$Lexer" "length" "I") (List.mem_of_getElem? (i := 3) rfl)) (fun _ h9 => h9) rfl dX11_about_43 ?_
    refine W.widen (k := 0) (n := 0) (Nat.le_of_ble_eq_true rfl) (Nat.le_of_ble_eq_true rfl) ?_
    exact W.iret (v := 0) hx hb hr (fun t ht hW => ⟨⟨0, (), rfl, Or.inl ⟨rfl, by omega⟩, trivial⟩, hS.F ht⟩) hS.2.2 dX11_about_46
  · have k1_0 := z_ne k1_0
    by_cases k1_1 : k0 = 1
    · have tk1_1 := z_eq k1_1
      refine lv_tableIn (off := 46) (tgt := 47) hx hb dX11_about_1 (by rw [k1_1]; decide +kernel) (by rw [k1_1]; decide +kernel) (by rw [k1_1]; decide +kernel) (by decide) ?_
      refine lv_aload_n hx hb dX11_about_47 rfl (lv_at hl 0 rfl) ?_
      refine va_get (D := D) (ci := 13) (v := .int 0) (C := RX11) (T := TX11) (N := 9) hx hb hts (fun _ h => List.mem_cons_of_mem _ (List.mem_append_left _ (List.mem_append_left _ (List.mem_append_left _ (List.mem_append_right _ h))))) hown hK hP 0 rfl rfl 3 (by decide) (hts (.fieldLink RX11 75 "PhraseDesk" "programCount" "I") (List.mem_of_getElem? (i := 4) rfl)) (fun _ h9 => h9) rfl dX11_about_48 ?_
      refine W.widen (k := 0) (n := 0) (Nat.le_of_ble_eq_true rfl) (Nat.le_of_ble_eq_true rfl) ?_
      exact W.iret (v := 0) hx hb hr (fun t ht hW => ⟨⟨0, (), rfl, Or.inl ⟨rfl, by omega⟩, trivial⟩, hS.F ht⟩) hS.2.2 dX11_about_51
    · have k1_1 := z_ne k1_1
      by_cases k1_2 : k0 = 2
      · have tk1_2 := z_eq k1_2
        refine lv_tableIn (off := 51) (tgt := 52) hx hb dX11_about_1 (by rw [k1_2]; decide +kernel) (by rw [k1_2]; decide +kernel) (by rw [k1_2]; decide +kernel) (by decide) ?_
        refine lv_aload_n hx hb dX11_about_52 rfl (lv_at hl 0 rfl) ?_
        refine va_get (D := D) (ci := 13) (v := .int 0) (C := RX11) (T := TX11) (N := 9) hx hb hts (fun _ h => List.mem_cons_of_mem _ (List.mem_append_left _ (List.mem_append_left _ (List.mem_append_left _ (List.mem_append_right _ h))))) hown hK hP 0 rfl rfl 5 (by decide) (hts (.fieldLink RX11 96 "PhraseDesk" "familyCount" "I") (List.mem_of_getElem? (i := 5) rfl)) (fun _ h9 => h9) rfl dX11_about_53 ?_
        refine W.widen (k := 0) (n := 0) (Nat.le_of_ble_eq_true rfl) (Nat.le_of_ble_eq_true rfl) ?_
        exact W.iret (v := 0) hx hb hr (fun t ht hW => ⟨⟨0, (), rfl, Or.inl ⟨rfl, by omega⟩, trivial⟩, hS.F ht⟩) hS.2.2 dX11_about_56
      · have k1_2 := z_ne k1_2
        by_cases k1_3 : k0 = 3
        · have tk1_3 := z_eq k1_3
          refine lv_tableIn (off := 56) (tgt := 57) hx hb dX11_about_1 (by rw [k1_3]; decide +kernel) (by rw [k1_3]; decide +kernel) (by rw [k1_3]; decide +kernel) (by decide) ?_
          refine lv_aload_n hx hb dX11_about_57 rfl (lv_at hl 0 rfl) ?_
          refine va_get (D := D) (ci := 13) (v := .int 0) (C := RX11) (T := TX11) (N := 9) hx hb hts (fun _ h => List.mem_cons_of_mem _ (List.mem_append_left _ (List.mem_append_left _ (List.mem_append_left _ (List.mem_append_right _ h))))) hown hK hP 0 rfl rfl 7 (by decide) (hts (.fieldLink RX11 120 "PhraseDesk" "objectCount" "I") (List.mem_of_getElem? (i := 6) rfl)) (fun _ h9 => h9) rfl dX11_about_58 ?_
          refine W.widen (k := 0) (n := 0) (Nat.le_of_ble_eq_true rfl) (Nat.le_of_ble_eq_true rfl) ?_
          exact W.iret (v := 0) hx hb hr (fun t ht hW => ⟨⟨0, (), rfl, Or.inl ⟨rfl, by omega⟩, trivial⟩, hS.F ht⟩) hS.2.2 dX11_about_61
        · have k1_3 := z_ne k1_3
          by_cases k1_4 : k0 = 4
          · have tk1_4 := z_eq k1_4
            refine lv_tableIn (off := 61) (tgt := 62) hx hb dX11_about_1 (by rw [k1_4]; decide +kernel) (by rw [k1_4]; decide +kernel) (by rw [k1_4]; decide +kernel) (by decide) ?_
            refine lv_aload_n hx hb dX11_about_62 rfl (lv_at hl 0 rfl) ?_
            refine va_get (D := D) (ci := 13) (v := .ref a3) (C := RX11) (T := TX11) (N := 9) hx hb hts (fun _ h => List.mem_cons_of_mem _ (List.mem_append_left _ (List.mem_append_left _ (List.mem_append_left _ (List.mem_append_right _ h))))) hown hK hP 0 rfl rfl 1 (by decide) (hts (.fieldLink RX11 19 "PhraseDesk" "runner" "LPhraseDesk$Runner;") (List.mem_of_getElem? (i := 7) rfl)) (fun _ h9 => h9) rfl dX11_about_63 ?_
            refine va_get (D := D) (ci := 10) (v := .int 0) (C := RX8) (T := TX8) (N := 8) hx hb hts (fun _ h => List.mem_cons_of_mem _ (List.mem_append_right _ h)) hown hK hP 3 rfl rfl 5 (by decide) (hts (.fieldLink RX11 233 "PhraseDesk$Runner" "variableCount" "I") (List.mem_of_getElem? (i := 8) rfl)) (fun _ h9 => h9) rfl dX11_about_66 ?_
            refine W.widen (k := 0) (n := 0) (Nat.le_of_ble_eq_true rfl) (Nat.le_of_ble_eq_true rfl) ?_
            exact W.iret (v := 0) hx hb hr (fun t ht hW => ⟨⟨0, (), rfl, Or.inl ⟨rfl, by omega⟩, trivial⟩, hS.F ht⟩) hS.2.2 dX11_about_69
          · have k1_4 := z_ne k1_4
            refine lv_tableOut (tgt := 70) hx hb dX11_about_1 (by omega) (by decide) ?_
            refine lv_iconst (v := (-1)) hx hb dX11_about_70 (by decide +kernel) ?_
            refine W.widen (k := 0) (n := 0) (Nat.le_of_ble_eq_true rfl) (Nat.le_of_ble_eq_true rfl) ?_
            exact W.iret (v := (-1)) hx hb hr (fun t ht hW => ⟨⟨(-1), (), rfl, Or.inr (⟨rfl, by omega⟩), trivial⟩, hS.F ht⟩) hS.2.2 dX11_about_71
