def wqX12_thrown0 : List Cond := [.code yX12_thrown cX12_thrown 1 (some .int), .fieldLink RX12 127 "PhraseDeskModel" "threw" "I"]
def wqX12_thrown : List Cond := wqX12_thrown0 ++ wsX120
theorem C_thrown (l : Launch) (D : va_G) (cy : Nat → ClassId) (sz0 : Nat) (sa : Nat → Nat) (a0 : Nat) (sz : Nat) (k0 : Int32) (fs : List Value) : Met l yX12_thrown wqX12_thrown ({ frames := 0, cells := 0, slots := 0, locals := 0 }) (PcW D cy sz0 sa [.ref a0] [(a0, .inr (14, .int k0 :: fs))] sz) (va_Qi (fun (r : Int32) (u : Unit) => r = k0) (fun (u : Unit) (t : State) => BW D [(a0, .inr (14, .int k0 :: fs))] (va_A [(a0, .inr (14, .int k0 :: fs))] sz) t) (va_A [(a0, .inr (14, .int k0 :: fs))] sz)) 0 0 (va_A [(a0, .inr (14, .int k0 :: fs))] sz) := by
  refine Met.ofW (cc := cX12_thrown) (maxL := 1) (ret := (some .int)) (by decide) rfl ?_
  intro p e s m args below meth c s₁ B hml hv
  obtain ⟨rfl, hsz, hP, hD0, hE⟩ := hv
  have hx := B.exec
  have hb := B.bytes
  have hr := B.returns
  have hts := atoms_spec (ws := wqX12_thrown) B.pre
  have hown : s.vm.findClass RX12 = some m.cls := findClass_of_methodNamed B.named
  have hlocks := B.notSynchronized
  subst hsz
  have hK := hE.1
  have hD := hD0.self (sz := s.heap.size)
  generalize hAe : va_A [(a0, .inr (14, .int k0 :: fs))] s.heap.size = A at hD ⊢
  have hS : va_S A s.heap s.heap [] := va_S.rf
  have hl := lv_entry ([.ref a0]) (n := 1) (Nat.le_of_ble_eq_true rfl)
  rw [lg_entry_eq]
  generalize (lg_sl ([.ref a0]) ++ List.replicate (1 - (lg_sl ([.ref a0])).length) Slot.unset).toArray = ls at hl ⊢
  have hl : lv_has ls 1 [(0, .ref a0)] := hl
  refine lv_aload_n hx hb dX12_thrown_0 rfl (lv_at hl 0 rfl) ?_
  refine va_get (D := D) (ci := 14) (v := .int k0) (C := RX12) (T := TX12) (N := 60) hx hb hts (fun _ h => List.mem_append_right _ h) hown hK hP 0 rfl rfl 0 (by decide) (hts (.fieldLink RX12 127 "PhraseDeskModel" "threw" "I") (List.mem_of_getElem? (i := 1) rfl)) (fun _ h9 => h9) rfl dX12_thrown_1 ?_
  exact W.iret (v := k0) hx hb hr (fun t ht hW => ⟨⟨k0, (), rfl, rfl, by rw [ht]; exact hP, hD⟩, hS.F ht⟩) hS.2.2 dX12_thrown_4
