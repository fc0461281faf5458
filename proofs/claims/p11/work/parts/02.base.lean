/-! ===== the words of the states: array classes, what nobody writes, a method's start and end ===== -/
def TY (cy : Nat → ClassId) : List (ClassId × FieldType) := [(cy 0, .int), (cy 1, .long), (cy 2, .boolean), (cy 3, .double), (cy 4, .char), (cy 5, .byte), (cy 6, .object "PhraseDesk$Value"), (cy 7, .object "PhraseDesk$Node"), (cy 8, .object "PhraseDesk$Family"), (cy 9, .object "PhraseDesk$Routine"), (cy 10, .object "PhraseDesk$Field")]
def Fr (sz0 : Nat) : Nat → Prop := fun q => sz0 ≤ q
def tIAE : String := "java/lang/IllegalArgumentException"
def tISE : String := "java/lang/IllegalStateException"
def tSup : List String := ["java/lang/RuntimeException", "java/lang/Exception"]
def TXT : List (Nat × String) := [(51, "no character 32 .. 126"), (68, "the text has 40 characters"), (78, "there are 40 programs"), (94, "the parent is no class"), (99, "there are 5 classes"), (111, "no such class, name or type"), (123, "the class can't get this field"), (133, "no such class, name, type or action"), (138, "the class has 6 methods"), (149, "there is no such class"), (151, "there are 30 objects"), (165, "no converter goes from and to such types"), (181, "there is no such program or object"), (194, "not the code of a name"), (200, "there are 12 other variables"), (227, "there is no such object")]
def thrB (X : String) : List Cond := [.declares (Bundle.initS "java/lang/RuntimeException"), .declares (Bundle.initS "java/lang/Exception"), .declares (Bundle.initS "java/lang/Throwable"), .castable X X]
/-- what the tables say that isn't among a method's words -/
def Wm (sa : Nat → Nat) (U : State) : Prop :=
  (∀ q ∈ TXT, vk_R RX11 q.1 q.2 (sa q.1) U) ∧ vk_R RX10 30 "" (sa 0) U ∧ (va_Nw (.declares (Bundle.initS "java/lang/RuntimeException")) U ∧ va_Nw (.declares (Bundle.initS "java/lang/Exception")) U ∧ va_Nw (.declares (Bundle.initS "java/lang/Throwable")) U ∧ va_Nw (.castable tIAE tIAE) U ∧ va_Nw (.castable tISE tISE) U) ∧
  (va_AO "PhraseDesk$Value" U ∧ va_AO "PhraseDesk$Node" U ∧ va_AO "PhraseDesk$Family" U ∧ va_AO "PhraseDesk$Routine" U ∧ va_AO "PhraseDesk$Field" U) ∧ va_Nc tISE tIAE U
theorem Wm.warm {sa : Nat → Nat} {s U : State} (hW : s.WarmedH U.vm) (h : Wm sa s) : Wm sa U := by
  obtain ⟨h1, h2, ⟨d1, d2, d3, d4, d5⟩, ⟨a1, a2, a3, a4, a5⟩, h5⟩ := h
  exact ⟨fun q hq => (h1 q hq).warm hW, h2.warm hW, ⟨va_Nw.warmD hW d1, va_Nw.warmD hW d2, va_Nw.warmD hW d3, va_Nw.warmC hW d4, va_Nw.warmC hW d5⟩, ⟨va_AO.moved hW.alike a1, va_AO.moved hW.alike a2, va_AO.moved hW.alike a3, va_AO.moved hW.alike a4, va_AO.moved hW.alike a5⟩, va_Nc.moved hW.alike h5⟩
theorem Wm.same {sa : Nat → Nat} {u U : State} (hv : U.vm = u.vm) (h : Wm sa u) : Wm sa U := by
  obtain ⟨h1, h2, ⟨d1, d2, d3, d4, d5⟩, ⟨a1, a2, a3, a4, a5⟩, h5⟩ := h
  have hal : u.vm.Alike U.vm := by rw [hv]; exact Vm.Alike.refl u.vm
  exact ⟨fun q hq => (h1 q hq).same hv, h2.same hv, ⟨va_Nw.same rfl hv.symm d1, va_Nw.same rfl hv.symm d2, va_Nw.same rfl hv.symm d3, va_Nw.same rfl hv.symm d4, va_Nw.same rfl hv.symm d5⟩, ⟨va_AO.moved hal a1, va_AO.moved hal a2, va_AO.moved hal a3, va_AO.moved hal a4, va_AO.moved hal a5⟩, va_Nc.moved hal h5⟩
/-- what lies in the heap and nobody writes -/
def Am (sz0 : Nat) (sa : Nat → Nat) (U : State) (H : Heap) : Prop :=
  va_Z "java/lang/String" "COMPACT_STRINGS" "Z" (.int 1) (Fr sz0) U H ∧ vx_Zq Bundle.tN "UNASSIGNED_STACK" Bundle.steD (Fr sz0) U H ∧ vx_Zq Bundle.tN "SUPPRESSED_SENTINEL" Bundle.listD (Fr sz0) U H ∧ vk_S 1 [0] [[]] (fun _ => sa 0) (fun _ => sa 1) (Fr sz0) U H
theorem Am.kept {sz0 : Nat} {sa : Nat → Nat} {U : State} {H H1 : Heap} (h : Am sz0 sa U H) (hq : ∀ a : Nat, a < H.size → ¬ Fr sz0 a → H1[a]? = H[a]?) : Am sz0 sa U H1 := ⟨h.1.kept hq, h.2.1.kept hq, h.2.2.1.kept hq, h.2.2.2.kept hq⟩
theorem Am.moved {sz0 : Nat} {sa : Nat → Nat} {u U : State} {H : Heap} (hvm : u.vm.Alike U.vm) (h : Am sz0 sa u H) : Am sz0 sa U H := ⟨h.1.moved hvm, h.2.1.moved hvm, h.2.2.1.moved hvm, h.2.2.2.moved hvm⟩
def En (D : va_G) (cy : Nat → ClassId) (sz0 : Nat) (sa : Nat → Nat) (U : State) : Prop := va_K D vwCl (TY cy) U ∧ sz0 ≤ U.heap.size ∧ Am sz0 sa U U.heap ∧ Wm sa U
/-- a method's start: the world ws, and what is always there -/
def PcW (D : va_G) (cy : Nat → ClassId) (sz0 : Nat) (sa : Nat → Nat) (av : List Value) (ws : va_W) (sz : Nat) : Array Value → State → Prop := va_Pc av (fun U => U.heap.size = sz ∧ va_P D vwCl ws U.heap ∧ va_D (Fr sz0) ws ∧ En D cy sz0 sa U)
/-- .. and the world behind it -/
def BW (D : va_G) (ws : va_W) (A : Nat → Prop) (t : State) : Prop := va_P D vwCl ws t.heap ∧ va_D A ws
theorem PcW.blind {D : va_G} {cy : Nat → ClassId} {sz0 : Nat} {sa : Nat → Nat} {av : List Value} {ws : va_W} {sz : Nat} : FrameBlind (PcW D cy sz0 sa av ws sz) := fun a U g mk q => by
  obtain ⟨q0, q1, q2, q3, q4, q5, q6, q7⟩ := q
  exact ⟨q0, q1, q2, q3, va_K.moved (u := U) (U := U.calling g mk a) (Vm.Alike.refl U.vm) q4, q5, Am.moved (u := U) (U := U.calling g mk a) (Vm.Alike.refl U.vm) q6, Wm.same (u := U) (U := U.calling g mk a) rfl q7⟩
theorem PcW.mk {D : va_G} {cy : Nat → ClassId} {sz0 : Nat} {sa : Nat → Nat} {av : List Value} {ws : va_W} {s : State} {H : Heap} {A : Nat → Prop} {locs : List Loc} (hE : En D cy sz0 sa s) (hS : va_S A s.heap H locs) (hAF : ∀ q, A q → Fr sz0 q) (hP : va_P D vwCl ws H) (hD : va_D A ws) :
    ∀ U : State, U.heap = H → s.WarmedH U.vm → PcW D cy sz0 sa av ws H.size av.toArray U := fun U hU hW => by
  refine ⟨rfl, by rw [hU], by rw [hU]; exact hP, hD.weaken (fun _ q _ h => hAF q.1 h), va_K.moved hW.alike hE.1, by rw [hU]; exact Nat.le_trans hE.2.1 hS.1, ?_, Wm.warm hW hE.2.2.2⟩
  rw [hU]
  exact (hE.2.2.1.kept (fun a h1 h2 => hS.2.1 a h1 (fun h => h2 (hAF a h)))).moved hW.alike
theorem frA {sz0 sz : Nat} {ws : va_W} (hD : va_D (Fr sz0) ws) (hz : sz0 ≤ sz) : ∀ q, va_A ws sz q → Fr sz0 q := by
  intro q h
  rcases h with ⟨k, e, h⟩ | h
  · exact hD.2 k (q, e) h
  · exact Nat.le_trans hz h
theorem va_RA_inj {U : State} {a b : ClassId} {ty : FieldType} (h1 : va_RA U a ty) (h2 : va_RA U b ty) : a = b := by
  cases ty with
  | object C =>
    obtain ⟨_, _, _, _, _, e1⟩ := h1
    obtain ⟨_, _, _, _, _, e2⟩ := h2
    exact Option.some.inj (e1.symm.trans e2)
  | _ =>
    have e1 : U.vm.findClass _ = some a := h1
    have e2 : U.vm.findClass _ = some b := h2
    exact Option.some.inj (e1.symm.trans e2)
theorem za_0 (n : Nat) : ∀ cA : ClassId, vp_cell cA (n, .inl (fun _ => 0)) = arrV cA n (fun _ => defaultValue .int) := fun _ => rfl
theorem za_1 (n : Nat) : ∀ cA : ClassId, vp_cell cA (n, .inr (.inl (fun _ => 0))) = arrV cA n (fun _ => defaultValue .long) := fun _ => rfl
theorem za_2 (n : Nat) : ∀ cA : ClassId, vp_cell cA (n, .inl (fun _ => 0)) = arrV cA n (fun _ => defaultValue .boolean) := fun _ => rfl
theorem za_3 (n : Nat) : ∀ cA : ClassId, vp_cell cA (n, .inr (.inr (.inr (.inl (fun _ => 0))))) = arrV cA n (fun _ => defaultValue .double) := fun _ => rfl
theorem za_4 (n : Nat) : ∀ cA : ClassId, vp_cell cA (n, .inl (fun _ => 0)) = arrV cA n (fun _ => defaultValue .char) := fun _ => rfl
theorem za_5 (n : Nat) : ∀ cA : ClassId, vp_cell cA (n, .inl (fun _ => 0)) = arrV cA n (fun _ => defaultValue .byte) := fun _ => rfl
section GA
variable {p : Program} {l : Launch} {e : Env} {R : Room} {s : State} {m : MethodId} {args : Array Value} {below : List Frame} {meth : Method} {c : Code} {H : Heap} {locs : List Loc} {cells slots : Nat} {Q : State → Prop}
variable {cc : ByteArray} {pc : Nat} {ls : Array Slot} {rest : List Value} {A : Nat → Prop} {H0 : Heap} {D : va_G} {cl : List vw_C} {ws : va_W} {tys : List (ClassId × FieldType)}
theorem g_newa (hexec : p.tables.exec = Jvm.exec) (hb : c.code = cc) {atype : ArrayType} (harr : (Cond.arrayClass (newarray.typeOf atype)).before args s = true) {ty : FieldType} (hty : newarray.typeOf atype = ty) (hK : va_K D cl tys s) (hP : va_P D cl ws H) (hD : va_D A ws) (hS : va_S A H0 H locs) (hA : ∀ q, H0.size ≤ q → A q)
    (t0 : Nat) {cA0 : ClassId} (ht : tys[t0]? = some (cA0, ty)) {n : Int32} {N' : Nat} {a0 : vp_A} (ha : ∀ cA : ClassId, vp_cell cA a0 = arrV cA N' (fun _ => defaultValue ty)) (hn : ¬ n < 0) (hN : n.toNatClampNeg = N') (hbytes : N' * componentBytes ty ≤ 536870912) (hcells : cells + 1 ≤ R.cells) (hslots : slots + N' ≤ R.slots) (hdg : decode cc pc = .ok (.newarray atype, 2))
    (kk : ∀ (q : Nat) (H1 : Heap), va_P D cl (ws ++ [(q, .inl (cA0, a0))]) H1 → va_D A (ws ++ [(q, .inl (cA0, a0))]) → va_S A H0 H1 locs →
      W p l e R s m args below meth c H1 locs (cells + 1) (slots + N') Q (F0 m (pc + 2) ls (.ref q :: rest))) : W p l e R s m args below meth c H locs cells slots Q (F0 m pc ls (.int n :: rest)) := by
  refine va_newa hexec hb harr hty hK hP hD hS hA ha hn hN hbytes hcells hslots hdg (fun q cA H1 hK1 hP1 hD1 hS1 => ?_)
  have h1 : va_RA s cA0 ty := (hK.2 t0 _ ht).2
  have h2 : va_RA s cA ty := (hK1.2 tys.length (cA, ty) (by rw [List.getElem?_append_right (Nat.le_refl _)]; simp)).2
  cases va_RA_inj h1 h2
  exact kk q H1 hP1 hD1 hS1
theorem g_newq (hexec : p.tables.exec = Jvm.exec) (hb : c.code = cc) {own C : String} {index : Nat} (hown : s.vm.findClass own = some m.cls) (hclink : (Cond.classLink own index C).before args s = true) (hover : va_AO C s) (hK : va_K D cl tys s) (hP : va_P D cl ws H) (hD : va_D A ws) (hS : va_S A H0 H locs) (hA : ∀ q, H0.size ≤ q → A q)
    (t0 : Nat) {cA0 : ClassId} (ht : tys[t0]? = some (cA0, .object C)) {n : Int32} {N' : Nat} (hn : ¬ n < 0) (hN : n.toNatClampNeg = N') (hbytes : N' * 4 ≤ 536870912) (hcells : cells + 1 ≤ R.cells) (hslots : slots + N' ≤ R.slots) (hdg : decode cc pc = .ok (.anewarray index, 3))
    (kk : ∀ (q : Nat) (H1 : Heap), va_P D cl (ws ++ [(q, .inl (cA0, N', .inr (.inr (.inr (.inr (fun _ => none))))))]) H1 → va_D A (ws ++ [(q, .inl (cA0, N', .inr (.inr (.inr (.inr (fun _ => none))))))]) → va_S A H0 H1 locs →
      W p l e R s m args below meth c H1 locs (cells + 1) (slots + N') Q (F0 m (pc + 3) ls (.ref q :: rest))) : W p l e R s m args below meth c H locs cells slots Q (F0 m pc ls (.int n :: rest)) := by
  refine va_newq hexec hb hown hclink hover hK hP hD hS hA hn hN hbytes hcells hslots hdg (fun q cA H1 hK1 hP1 hD1 hS1 => ?_)
  have h1 : va_RA s cA0 (.object C) := (hK.2 t0 _ ht).2
  have h2 : va_RA s cA (.object C) := (hK1.2 tys.length (cA, .object C) (by rw [List.getElem?_append_right (Nat.le_refl _)]; simp)).2
  cases va_RA_inj h1 h2
  exact kk q H1 hP1 hD1 hS1
end GA
theorem z_lt {x y : Int32} (h : x < y) : x.toInt < y.toInt := Int32.lt_iff_toInt_lt.mp h
theorem z_le {x y : Int32} (h : x ≤ y) : x.toInt ≤ y.toInt := Int32.le_iff_toInt_le.mp h
theorem z_nlt {x y : Int32} (h : ¬ x < y) : y.toInt ≤ x.toInt := Int.not_lt.mp (fun q => h (Int32.lt_iff_toInt_lt.mpr q))
theorem z_nle {x y : Int32} (h : ¬ x ≤ y) : y.toInt < x.toInt := Int.not_le.mp (fun q => h (Int32.le_iff_toInt_le.mpr q))
theorem z_eq {x y : Int32} (h : x = y) : x.toInt = y.toInt := by rw [h]
theorem z_ne {x y : Int32} (h : ¬ x = y) : ¬ x.toInt = y.toInt := fun q => h (Int32.toInt_inj.mp q)
theorem thr_no (ic : Nat) : ∀ w ∈ (vx_atS RX11 53 tIAE tSup).filter (fun w => !goodWord w), w ∈ thrB tIAE := by decide +kernel
/-- 'throw new IllegalArgumentException(text)' in a method of PhraseDesk -/
theorem g_iae {p : Program} {l : Launch} {e : Env} {R : Room} {s : State} {m : MethodId} {args : Array Value} {below : List Frame} {meth : Method} {c : Code} {H : Heap} {locs : List Loc} {cells slots : Nat} {Qc : Array Value → State → Outcome → State → Prop} {XC : String → State → State → Prop} {free : Addr → Prop} {mc ms : Nat} {rest : List Value} {ls : Array Slot}
    {cc : ByteArray} {pc : Nat} (hexec : p.tables.exec = Jvm.exec) (hb : c.code = cc) (hl : l.stackTraces = false) {Ts : List Cond} (hts : ∀ w ∈ Ts, w.before args s = true) {text : String} {is : Nat} {D : va_G} {cy : Nat → ClassId} {sz0 : Nat} {sa : Nat → Nat} {A : Nat → Prop} (hE : En D cy sz0 sa s) (hAF : ∀ q, A q → Fr sz0 q)
    (hown : s.vm.findClass RX11 = some m.cls) (hk : Cond.classLink RX11 49 tIAE ∈ Ts) (hini : Cond.initialized tIAE ∈ Ts) (htx : (is, text) ∈ TXT) (hgd : ∀ w ∈ (vx_atS RX11 53 tIAE tSup).filter goodWord, w ∈ Ts) (hS : va_S A s.heap H locs) (hsize : ls.size = c.maxLocals)
    (d0 : decode cc pc = .ok (.new 49, 3)) (d3 : decode cc (pc + 3) = .ok (.dup, 1)) (d4 : decode cc (pc + 4) = .ok (.ldc is, 2)) (d6 : decode cc (pc + 6) = .ok (.invokespecial 53, 3)) (d9 : decode cc (pc + 9) = .ok (.athrow, 1))
    (hout : ∀ x ∈ c.exceptionTable.toList, False) (hRf : 5 < R.frames) (hRl : (rest.map fun v => v.category).sum + 82 ≤ R.locals) (hRc : cells + 1 ≤ R.cells) (hRs : slots + 6 ≤ R.slots) (hlocks : meth.locks = false)
    (hx : ∀ t : State, s.vm.Alike t.vm → H.size ≤ t.heap.size → (∀ q : Nat, q < H.size → t.heap[q]? = H[q]?) → XC tIAE s t) (hf : ∀ z ∈ locs, free z.base) (hc : cells + 1 ≤ mc) (hs : slots + 6 ≤ ms) :
    W p l e R s m args below meth c H locs cells slots (vx_MQ below Qc XC args s mc ms free) (F0 m pc ls rest) := by
  have hU : vx_Zq Bundle.tN "UNASSIGNED_STACK" Bundle.steD A s s.heap := hE.2.2.1.2.1.narrow hAF
  have hN : vx_Zq Bundle.tN "SUPPRESSED_SENTINEL" Bundle.listD A s s.heap := hE.2.2.1.2.2.1.narrow hAF
  have hstr : vk_R RX11 is text (sa is) s := hE.2.2.2.1 _ htx
  obtain ⟨b1, b2, b3, b4, -⟩ := hE.2.2.2.2.2.1
  have hat : ∀ w ∈ vx_atS RX11 53 tIAE tSup, w.before args s = true := vx_hat (fun w h => hts w (hgd w h)) (thr_no 0) (vx_c (va_Nw.use rfl b1) (vx_c (va_Nw.use rfl b2) (vx_c (va_Nw.use rfl b3) (vx_c (va_Nw.use rfl b4) vx_n))))
  exact vx_throwS hexec hb hl hown (by decide +kernel) (by decide +kernel) (hts _ hk) (hts _ hini) hstr hat (by decide +kernel) hU hN hS hsize d0 d3 d4 d6 d9 (fun x hx => absurd (hout x hx) id) (by simpa [tSup] using hRf) (by simpa [tSup] using hRl) hRc hRs hlocks hx hf hc hs
theorem z_add {x y : Int32} (h1 : -2147483648 ≤ x.toInt + y.toInt) (h2 : x.toInt + y.toInt < 2147483648) : (x + y).toInt = x.toInt + y.toInt := Jvm.Kit.i32_add (by omega) (by omega)
theorem z_sub {x y : Int32} (h1 : -2147483648 ≤ x.toInt - y.toInt) (h2 : x.toInt - y.toInt < 2147483648) : (x - y).toInt = x.toInt - y.toInt := by
  rw [Int32.toInt_sub, Int.bmod_eq_of_le (by omega) (by omega)]
theorem z_mulc (c : Int) {x y : Int32} (hc : x.toInt = c) (h1 : -2147483648 ≤ c * y.toInt) (h2 : c * y.toInt < 2147483648) : (x * y).toInt = c * y.toInt := by
  rw [Int32.toInt_mul, hc, Int.bmod_eq_of_le (by omega) (by omega)]
theorem nilP {D : va_G} {cl : List vw_C} {H : Heap} : va_P D cl [] H := fun k q h => by simp at h
theorem nilD {A : Nat → Prop} : va_D A [] := ⟨fun i j p q h => by simp at h, fun k q h => by simp at h⟩
