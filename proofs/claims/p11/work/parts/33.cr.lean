/-! ===== the class: what a method may count on ===== -/
def KC (sa : Nat → Nat) (c : Nat) : Prop := c = sa 0 ∨ c = sa 400 ∨ c = sa 401 ∨ c = sa 402
def KI (i : Nat) : Prop := i = 0 ∨ i = 400 ∨ i = 401 ∨ i = 402
/-- the constant texts' bytes -/
def kcI (i : Nat) : List Int32 := if i = 400 then [116, 114, 117, 101] else if i = 401 then [102, 97, 108, 115, 101] else if i = 402 then [110, 117, 108, 108] else []
/-- more of what lies in the heap and nobody writes: constant texts, two tables, a formatter -/
def Xn (sz0 : Nat) (sa : Nat → Nat) (U : State) (H : Heap) : Prop :=
  (∀ i, KI i → sa (1000 + 2 * sa i) = (kcI i).length ∧ vk_S 1 [(kcI i).length] [kcI i] (fun _ => sa i) (fun _ => sa (1001 + 2 * sa i)) (Fr sz0) U H) ∧
  (∃ f : Nat → Int32, (∀ j, fits .byte (.int (f j)) = true) ∧ (∀ j, j < 100 → (f j).toInt = 48 + ((j % 10 : Nat) : Int)) ∧ va_Z "java/lang/Integer" "DigitOnes" "[B" (.ref (sa 420)) (Fr sz0) U H ∧ va_T .byte (sa 420) 100 (fun j => .int (f j)) (Fr sz0) U H) ∧
  (∃ f : Nat → Int32, (∀ j, fits .byte (.int (f j)) = true) ∧ (∀ j, j < 100 → (f j).toInt = 48 + ((j / 10 : Nat) : Int)) ∧ va_Z "java/lang/Integer" "DigitTens" "[B" (.ref (sa 421)) (Fr sz0) U H ∧ va_T .byte (sa 421) 100 (fun j => .int (f j)) (Fr sz0) U H) ∧
  vx_Zq "jdk/internal/util/Preconditions" "SIOOBE_FORMATTER" "Ljava/util/function/BiFunction;" (Fr sz0) U H
theorem fit_getD {l : List Int32} (h : ∀ x ∈ l, fits .byte (.int x) = true) (j : Nat) : fits .byte (.int (l.getD j 0)) = true := by
  rw [List.getD_eq_getElem?_getD]
  by_cases q : j < l.length
  · rw [List.getElem?_eq_getElem q]; exact h _ (List.getElem_mem q)
  · rw [List.getElem?_eq_none (by omega)]; show fits .byte (.int 0) = true; decide
theorem kcI_ok {i : Nat} (h : KI i) : (kcI i).length ≤ 8 ∧ ∀ j, fits .byte (.int ((kcI i).getD j 0)) = true := by
  rcases h with rfl | rfl | rfl | rfl
  · exact ⟨by decide, fun j => fit_getD (by decide) j⟩
  · exact ⟨by decide, fun j => fit_getD (by decide) j⟩
  · exact ⟨by decide, fun j => fit_getD (by decide) j⟩
  · exact ⟨by decide, fun j => fit_getD (by decide) j⟩
theorem KC.ix {sa : Nat → Nat} {c : Nat} (h : KC sa c) : ∃ i, KI i ∧ c = sa i := by
  rcases h with h | h | h | h
  · exact ⟨0, Or.inl rfl, h⟩
  · exact ⟨400, Or.inr (Or.inl rfl), h⟩
  · exact ⟨401, Or.inr (Or.inr (Or.inl rfl)), h⟩
  · exact ⟨402, Or.inr (Or.inr (Or.inr rfl)), h⟩
theorem KI.kc {sa : Nat → Nat} {i : Nat} (h : KI i) : KC sa (sa i) := by
  rcases h with rfl | rfl | rfl | rfl
  · exact Or.inl rfl
  · exact Or.inr (Or.inl rfl)
  · exact Or.inr (Or.inr (Or.inl rfl))
  · exact Or.inr (Or.inr (Or.inr rfl))
def Xw (sa : Nat → Nat) (U : State) : Prop := vk_R RX0 82 "true" (sa 400) U ∧ vk_R RX0 90 "false" (sa 401) U ∧ vk_R RX0 112 "null" (sa 402) U ∧ va_Nw (.castable RJ0 RJ0) U ∧ va_Nw (.castable "[B" "java/lang/Cloneable") U ∧ va_Nw (.methodLinkNest RX11 187 yX8_eval RX11) U ∧ va_Nw (.methodLinkNest RX11 229 yX8_setField RX11) U
theorem Xn.kept {sz0 : Nat} {sa : Nat → Nat} {U : State} {H H1 : Heap} (h : Xn sz0 sa U H) (hq : ∀ a : Nat, a < H.size → ¬ Fr sz0 a → H1[a]? = H[a]?) : Xn sz0 sa U H1 := by
  obtain ⟨h1, ⟨f, f1, f0, f2, f3⟩, ⟨g, g1, g0, g2, g3⟩, h4⟩ := h
  exact ⟨fun i hi => ⟨(h1 i hi).1, (h1 i hi).2.kept hq⟩, ⟨f, f1, f0, f2.kept hq, f3.kept hq⟩, ⟨g, g1, g0, g2.kept hq, g3.kept hq⟩, h4.kept hq⟩
theorem Xn.moved {sz0 : Nat} {sa : Nat → Nat} {u U : State} {H : Heap} (hvm : u.vm.Alike U.vm) (h : Xn sz0 sa u H) : Xn sz0 sa U H := by
  obtain ⟨h1, ⟨f, f1, f0, f2, f3⟩, ⟨g, g1, g0, g2, g3⟩, h4⟩ := h
  exact ⟨fun i hi => ⟨(h1 i hi).1, (h1 i hi).2.moved hvm⟩, ⟨f, f1, f0, f2.moved hvm, f3.moved hvm⟩, ⟨g, g1, g0, g2.moved hvm, g3.moved hvm⟩, h4.moved hvm⟩
theorem Xw.warm {sa : Nat → Nat} {s U : State} (hW : s.WarmedH U.vm) (h : Xw sa s) : Xw sa U := ⟨h.1.warm hW, h.2.1.warm hW, h.2.2.1.warm hW, va_Nw.warmC hW h.2.2.2.1, va_Nw.warmC hW h.2.2.2.2.1, va_Nw.warmM hW h.2.2.2.2.2.1, va_Nw.warmM hW h.2.2.2.2.2.2⟩
theorem Xw.same {sa : Nat → Nat} {u U : State} (hv : U.vm = u.vm) (h : Xw sa u) : Xw sa U := ⟨h.1.same hv, h.2.1.same hv, h.2.2.1.same hv, va_Nw.same rfl hv.symm h.2.2.2.1, va_Nw.same rfl hv.symm h.2.2.2.2.1, va_Nw.same rfl hv.symm h.2.2.2.2.2.1, va_Nw.same rfl hv.symm h.2.2.2.2.2.2⟩
section CB
variable {p : Program} {l : Launch} {e : Env} {R : Room} {s : State} {m : MethodId} {args : Array Value} {below : List Frame} {meth : Method} {c : Code} {H : Heap} {locs : List Loc} {cells slots : Nat} {Q : State → Prop}
variable {cc : ByteArray} {pc : Nat} {ls : Array Slot} {rest : List Value} {A : Nat → Prop} {D : va_G} {cy : Nat → ClassId} {sz0 : Nat} {sa : Nat → Nat} {ad : Nat → Nat} {κ : KS} {maxL : Nat} {ret : Option FieldType} {own nm : String}

def CC (p : Program) (s : State) (m : MethodId) (args : Array Value) (meth : Method) (c : Code) (cc : ByteArray) (maxL : Nat) (ret : Option FieldType) (own nm : String) (D : va_G) (cy : Nat → ClassId) (sz0 : Nat) (sa : Nat → Nat) (A : Nat → Prop) : Prop :=
  p.tables.exec = Jvm.exec ∧ c.code = cc ∧ c.maxLocals = maxL ∧ meth.sig.returnType = ret ∧ s.vm.findClass own = some m.cls ∧ (∀ w ∈ GWc, w.before args s = true) ∧ meth.locks = false ∧ En D cy sz0 sa s ∧ Xn sz0 sa s s.heap ∧ Xw sa s ∧ (∀ q, A q → Fr sz0 q) ∧ (∀ q : Nat, s.heap.size ≤ q → A q) ∧ meth.name = nm
theorem CC.x (C : CC p s m args meth c cc maxL ret own nm D cy sz0 sa A) : p.tables.exec = Jvm.exec := C.1
theorem CC.b (C : CC p s m args meth c cc maxL ret own nm D cy sz0 sa A) : c.code = cc := C.2.1
theorem CC.ml (C : CC p s m args meth c cc maxL ret own nm D cy sz0 sa A) : c.maxLocals = maxL := C.2.2.1
theorem CC.r (C : CC p s m args meth c cc maxL ret own nm D cy sz0 sa A) : meth.sig.returnType = ret := C.2.2.2.1
theorem CC.o (C : CC p s m args meth c cc maxL ret own nm D cy sz0 sa A) : s.vm.findClass own = some m.cls := C.2.2.2.2.1
theorem CC.w (C : CC p s m args meth c cc maxL ret own nm D cy sz0 sa A) : ∀ w ∈ GWc, w.before args s = true := C.2.2.2.2.2.1
theorem CC.k (C : CC p s m args meth c cc maxL ret own nm D cy sz0 sa A) : meth.locks = false := C.2.2.2.2.2.2.1
theorem CC.en (C : CC p s m args meth c cc maxL ret own nm D cy sz0 sa A) : En D cy sz0 sa s := C.2.2.2.2.2.2.2.1
theorem CC.K (C : CC p s m args meth c cc maxL ret own nm D cy sz0 sa A) : va_K D vwCl (TY cy) s := C.en.1
theorem CC.n (C : CC p s m args meth c cc maxL ret own nm D cy sz0 sa A) : Xn sz0 sa s s.heap := C.2.2.2.2.2.2.2.2.1
theorem CC.t (C : CC p s m args meth c cc maxL ret own nm D cy sz0 sa A) : Xw sa s := C.2.2.2.2.2.2.2.2.2.1
theorem CC.f (C : CC p s m args meth c cc maxL ret own nm D cy sz0 sa A) : ∀ q, A q → Fr sz0 q := C.2.2.2.2.2.2.2.2.2.2.1
theorem CC.a (C : CC p s m args meth c cc maxL ret own nm D cy sz0 sa A) : ∀ q : Nat, s.heap.size ≤ q → A q := C.2.2.2.2.2.2.2.2.2.2.2.1
theorem CC.ny (C : CC p s m args meth c cc maxL ret own nm D cy sz0 sa A) : meth.name = nm := C.2.2.2.2.2.2.2.2.2.2.2.2
def PcC (D : va_G) (cy : Nat → ClassId) (ad : Nat → Nat) (A : Nat → Prop) (sz0 : Nat) (sa : Nat → Nat) (av : List Value) (κ : KS) (sz sl : Nat) : Array Value → State → Prop := va_Pc av (fun U => U.heap.size = sz ∧ SLT U.heap = sl ∧ CH D cy ad A κ U.heap ∧ En D cy sz0 sa U ∧ Xn sz0 sa U U.heap ∧ Xw sa U)
theorem PcC.blind {av : List Value} {sz sl : Nat} : FrameBlind (PcC D cy ad A sz0 sa av κ sz sl) := fun a U g mk q => by
  obtain ⟨q0, q1, q2, q3, ⟨q4, q5, q6, q7⟩, q8, q9⟩ := q
  exact ⟨q0, q1, q2, q3, ⟨va_K.moved (u := U) (U := U.calling g mk a) (Vm.Alike.refl U.vm) q4, q5, Am.moved (u := U) (U := U.calling g mk a) (Vm.Alike.refl U.vm) q6, Wm.same (u := U) (U := U.calling g mk a) rfl q7⟩, Xn.moved (u := U) (U := U.calling g mk a) (Vm.Alike.refl U.vm) q8, Xw.same (u := U) (U := U.calling g mk a) rfl q9⟩
theorem PcC.mk {av : List Value} (C : CC p s m args meth c cc maxL ret own nm D cy sz0 sa A) (hS : va_S A s.heap H locs) (hP : CH D cy ad A κ H) : ∀ U : State, U.heap = H → s.WarmedH U.vm → PcC D cy ad A sz0 sa av κ H.size (SLT H) av.toArray U := fun U hU hW => by
  have hE := C.en
  have hk : ∀ a : Nat, a < s.heap.size → ¬ Fr sz0 a → H[a]? = s.heap[a]? := fun a h1 h2 => hS.2.1 a h1 (fun h => h2 (C.f a h))
  refine ⟨rfl, by rw [hU], by rw [hU], by rw [hU]; exact hP, ⟨va_K.moved hW.alike hE.1, by rw [hU]; exact Nat.le_trans hE.2.1 hS.1, ?_, Wm.warm hW hE.2.2.2⟩, ?_, C.t.warm hW⟩
  · rw [hU]
    exact (hE.2.2.1.kept hk).moved hW.alike
  · rw [hU]
    exact (C.n.kept hk).moved hW.alike
/-- a method's contract out of its walk -/
theorem CM_of {y : MethodName} {rm : Room} {Qc : Array Value → State → Outcome → State → Prop} {av : List Value} {sz sl mc ms : Nat} {loc0 : List (Nat × Value)} (hy : plainName y.cls = true) (hyc : y.cls = own) (hyn : y.name = nm) (hloc : lv_args 0 av = loc0) (hle : (lg_sl av).length ≤ maxL) (hAF : ∀ q, A q → Fr sz0 q) (hA : ∀ q : Nat, sz ≤ q → A q)
    (hWk : ∀ (p : Program) (e : Env) (s : State) (m : MethodId) (below : List Frame) (meth : Method) (c : Code) (ls : Array Slot), s.heap.size = sz → SLT s.heap = sl → CC p s m av.toArray meth c cc maxL ret own nm D cy sz0 sa A → CH D cy ad A κ s.heap → va_S A s.heap s.heap [] → lv_has ls maxL loc0 → W p l e (headSpec (Cond.code y cc maxL ret :: GWc) rm).room s m av.toArray below meth c s.heap [] 0 0 (MQ below Qc av.toArray s mc ms A) (F0 m 0 ls [])) :
    Met l y (Cond.code y cc maxL ret :: GWc) rm (PcC D cy ad A sz0 sa av κ sz sl) Qc mc ms A := by
  refine Met.ofW (cc := cc) (maxL := maxL) (ret := ret) hy rfl ?_
  intro p e s m args below meth c s₁ B hml hv
  obtain ⟨rfl, hsz, hsl, hP, hE, hn, ht⟩ := hv
  have hts := atoms_spec (ws := Cond.code y cc maxL ret :: GWc) B.pre
  have hown : s.vm.findClass own = some m.cls := hyc ▸ findClass_of_methodNamed B.named
  have hl := lv_entry av (n := maxL) hle
  rw [lg_entry_eq]
  rw [hloc] at hl
  exact hWk p e s m below meth c _ hsz hsl ⟨B.exec, B.bytes, hml, B.returns, hown, fun w h => hts w (List.mem_cons_of_mem _ h), B.notSynchronized, hE, hn, ht, hAF, fun q h => hA q (by rw [← hsz]; exact h), ((name_of_methodNamed B.named B.method).1).trans hyn⟩ hP va_S.rf hl
abbrev Bx (D : va_G) (cy : Nat → ClassId) (ad : Nat → Nat) (A : Nat → Prop) (sz sl : Nat) (κ : KS) (g1 g2 : Nat) (t : State) : Prop := CH D cy ad A κ t.heap ∧ t.heap.size ≤ sz + g1 ∧ SLT t.heap ≤ sl + g2
/-- a receiver's class: of a single object, of one of the pool -/
theorem CH.recvS (hP : CH D cy ad A κ H) (hK : va_K D vwCl (TY cy) s) {k a ci : Nat} {q : vw_C} {fs : List Value} (hk : (MWc cy ad κ)[k]? = some (a, .inr (ci, fs))) (hc : vwCl[ci]? = some q) : ∃ cell : Cell, H[a]? = some cell ∧ cell.vm.isStatics = false ∧ s.vm.findClass q.1 = some cell.cls := by
  obtain ⟨L, h1, -, -⟩ := hP
  exact va_recv hK h1 hc (WL_s hk)
theorem CH.recvP (hP : CH D cy ad A κ H) (hK : va_K D vwCl (TY cy) s) {a t ci : Nat} {q : vw_C} {fs : List Value} (ht : oT κ.2.2.2.2 a % 20 = t) (h0 : ¬ t = 0) (he : cofT cy κ.2.2.2.2 a t = .inr (ci, fs)) (hc : vwCl[ci]? = some q) : ∃ cell : Cell, H[a]? = some cell ∧ cell.vm.isStatics = false ∧ s.vm.findClass q.1 = some cell.cls := by
  obtain ⟨L, h1, -, h3⟩ := hP
  obtain ⟨k, hk⟩ := WL_in (cy := cy) (ad := ad) (κ := κ) ((h3 a).mpr (fun h => h0 (by rw [← ht, h])))
  have hk2 := WL_at hk ht
  rw [he] at hk2
  exact va_recv hK h1 hc hk2
abbrev cRun (own : String) (y : MethodName) (idx n : Nat) (bytes : ByteArray) (maxL2 : Nat) (ret2 : Option FieldType) : Prop := Cond.methodLink own idx y ∈ GWc ∧ Cond.code y bytes maxL2 ret2 ∈ GWc ∧ (y.cls ≠ "java/lang/invoke/MethodHandle" ∧ y.cls ≠ "java/lang/invoke/VarHandle" ∧ (parseMethodDescriptor y.desc).map (fun d => d.parameters.length) = some n)
theorem c_callVv {S : Type} {post : S → Prop} {f : S → KS} {g1 g2 : S → Nat} (C : CC p s m args meth c cc maxL ret own nm D cy sz0 sa A) (hP : CH D cy ad A κ H) (hS : va_S A s.heap H locs) (hl : ls.size = maxL) {y : MethodName} {C2 : String} {bytes : ByteArray} {maxL2 : Nat} {ret2 : Option FieldType} {fr lo n idx b mc ms : Nat} {As st : List Value}
    (hM : Met l y (Cond.code y bytes maxL2 ret2 :: GWc) ({ frames := fr, cells := mc, slots := ms, locals := lo }) (PcC D cy ad A sz0 sa (.ref b :: As) κ H.size (SLT H)) (va_Qv post (fun u t => Bx D cy ad A H.size (SLT H) (f u) (g1 u) (g2 u) t) A) mc ms A) (hw : cRun own y idx n bytes maxL2 ret2) (hw2 : Cond.instanceMethod y ∈ GWc ∧ Cond.selects C2 y y ∈ GWc ∧ Cond.initialized C2 ∈ GWc) (hC2 : C2 = y.cls) (hrv : ∃ cell : Cell, H[b]? = some cell ∧ cell.vm.isStatics = false ∧ s.vm.findClass C2 = some cell.cls) (hn : As.length = n) (hst : st = As.reverse ++ .ref b :: rest) (hW : 2 * (F0 m pc ls st).monitorRoom + (rest.map fun v => v.category).sum ≤ 8) (hR : fr + 1 ≤ R.frames ∧ 8 + (maxL2 + 11) + lo ≤ R.locals) (hcR : cells + mc ≤ R.cells ∧ slots + ms ≤ R.slots) (hdg : decode cc pc = .ok (.invokevirtual idx, 3))
    (kk : ∀ (u : S) (H1 : Heap) (locs1 : List Loc), post u → CH D cy ad A (f u) H1 → va_S A s.heap H1 locs1 → W p l e R s m args below meth c H1 locs1 (cells + g1 u) (slots + g2 u) Q (F0 m (pc + 3) ls (rest))) : W p l e R s m args below meth c H locs cells slots Q (F0 m pc ls st) := by
  have hm : ∀ w ∈ (Cond.code y bytes maxL2 ret2 :: GWc), w ∈ GWc := fun w h => by
    rcases List.mem_cons.mp h with h | h
    · subst h; exact hw.2.1
    · exact h
  refine W.know (fun hk1 hk2 => ?_)
  have hG : GoodIn GWc (wsV own idx C2 y (Cond.code y bytes maxL2 ret2 :: GWc)) := GWc_in (fun w h => by
    unfold wsV at h
    rcases List.mem_append.mp h with h | h
    · simp only [List.mem_cons, List.not_mem_nil, or_false] at h
      rcases h with rfl | rfl | rfl | rfl
      · exact hw.1
      · exact hw2.1
      · exact hw2.2.1
      · exact hw2.2.2
    · exact hm w h)
  refine va_callv (va_runV (g := F0 m pc ls st) (As := As) (rest := rest) ⟨C.x, C.b, C.ml, C.o, C.w⟩ hM (cwV n C.w hG rfl rfl rfl ⟨hC2.symm, hw.2.2⟩ hR) ⟨PcC.blind, hrv, PcC.mk C hS hP⟩ rfl hn hl hst hW hdg hcR) hS (fun q _ h => h) (fun q h => h) (fun u t H1 locs1 ht hvm hw5 hB hz1 hk1 hS1 => ?_)
  obtain ⟨b1, b2, b3⟩ := hB
  rw [ht] at b1 b2 b3
  exact W.tight (by omega) (by omega) (kk u H1 locs1 hw5 b1 hS1)
theorem c_callSv {S : Type} {post : S → Prop} {f : S → KS} {g1 g2 : S → Nat} (C : CC p s m args meth c cc maxL ret own nm D cy sz0 sa A) (hP : CH D cy ad A κ H) (hS : va_S A s.heap H locs) (hl : ls.size = maxL) {y : MethodName} {C2 : String} {bytes : ByteArray} {maxL2 : Nat} {ret2 : Option FieldType} {fr lo n idx b mc ms : Nat} {As st : List Value}
    (hM : Met l y (Cond.code y bytes maxL2 ret2 :: GWc) ({ frames := fr, cells := mc, slots := ms, locals := lo }) (PcC D cy ad A sz0 sa As κ H.size (SLT H)) (va_Qv post (fun u t => Bx D cy ad A H.size (SLT H) (f u) (g1 u) (g2 u) t) A) mc ms A) (hw : cRun own y idx n bytes maxL2 ret2) (hw2 : Cond.static y ∈ GWc ∧ Cond.initialized y.cls ∈ GWc) (hn : As.length = n) (hst : st = As.reverse ++ rest) (hW : 2 * (F0 m pc ls st).monitorRoom + (rest.map fun v => v.category).sum ≤ 8) (hR : fr + 1 ≤ R.frames ∧ 8 + (maxL2 + 11) + lo ≤ R.locals) (hcR : cells + mc ≤ R.cells ∧ slots + ms ≤ R.slots) (hdg : decode cc pc = .ok (.invokestatic idx, 3))
    (kk : ∀ (u : S) (H1 : Heap) (locs1 : List Loc), post u → CH D cy ad A (f u) H1 → va_S A s.heap H1 locs1 → W p l e R s m args below meth c H1 locs1 (cells + g1 u) (slots + g2 u) Q (F0 m (pc + 3) ls (rest))) : W p l e R s m args below meth c H locs cells slots Q (F0 m pc ls st) := by
  have hm : ∀ w ∈ (Cond.code y bytes maxL2 ret2 :: GWc), w ∈ GWc := fun w h => by
    rcases List.mem_cons.mp h with h | h
    · subst h; exact hw.2.1
    · exact h
  refine W.know (fun hk1 hk2 => ?_)
  have hG : GoodIn GWc (va_wsS own idx y (Cond.code y bytes maxL2 ret2 :: GWc)) := GWc_in (fun w h => by
    unfold va_wsS at h
    rcases List.mem_append.mp h with h | h
    · simp only [List.mem_cons, List.not_mem_nil, or_false] at h
      rcases h with rfl | rfl | rfl
      · exact hw.1
      · exact hw2.1
      · exact hw2.2
    · exact hm w h)
  refine va_callv (va_runS (g := F0 m pc ls st) (As := As) (rest := rest) ⟨C.x, C.b, C.ml, C.o, C.w⟩ hM (va_cwS n C.w hG rfl rfl rfl hw.2.2 hR) ⟨PcC.blind, PcC.mk C hS hP⟩ rfl hn hl hst hW hdg hcR) hS (fun q _ h => h) (fun q h => h) (fun u t H1 locs1 ht hvm hw5 hB hz1 hk1 hS1 => ?_)
  obtain ⟨b1, b2, b3⟩ := hB
  rw [ht] at b1 b2 b3
  exact W.tight (by omega) (by omega) (kk u H1 locs1 hw5 b1 hS1)
theorem c_callIv {S : Type} {post : S → Prop} {f : S → KS} {g1 g2 : S → Nat} (C : CC p s m args meth c cc maxL ret own nm D cy sz0 sa A) (hP : CH D cy ad A κ H) (hS : va_S A s.heap H locs) (hl : ls.size = maxL) {y : MethodName} {C2 : String} {bytes : ByteArray} {maxL2 : Nat} {fr lo n idx b mc ms : Nat} {As st : List Value}
    (hM : Met l y (Cond.code y bytes maxL2 none :: GWc) ({ frames := fr, cells := mc, slots := ms, locals := lo }) (PcC D cy ad A sz0 sa (.ref b :: As) κ H.size (SLT H)) (va_Qv post (fun u t => Bx D cy ad A H.size (SLT H) (f u) (g1 u) (g2 u) t) A) mc ms A) (hw : cRun own y idx n bytes maxL2 none) (hw2 : Cond.instanceMethod y ∈ GWc ∧ Cond.initialized y.cls ∈ GWc) (hyn : y.name = "<init>") (hn : As.length = n) (hst : st = As.reverse ++ .ref b :: rest) (hW : 2 * (F0 m pc ls st).monitorRoom + (rest.map fun v => v.category).sum ≤ 8) (hR : fr + 1 ≤ R.frames ∧ 8 + (maxL2 + 11) + lo ≤ R.locals) (hcR : cells + mc ≤ R.cells ∧ slots + ms ≤ R.slots) (hdg : decode cc pc = .ok (.invokespecial idx, 3))
    (kk : ∀ (u : S) (H1 : Heap) (locs1 : List Loc), post u → CH D cy ad A (f u) H1 → va_S A s.heap H1 locs1 → W p l e R s m args below meth c H1 locs1 (cells + g1 u) (slots + g2 u) Q (F0 m (pc + 3) ls (rest))) : W p l e R s m args below meth c H locs cells slots Q (F0 m pc ls st) := by
  have hm : ∀ w ∈ (Cond.code y bytes maxL2 none :: GWc), w ∈ GWc := fun w h => by
    rcases List.mem_cons.mp h with h | h
    · subst h; exact hw.2.1
    · exact h
  refine W.know (fun hk1 hk2 => ?_)
  have hG : GoodIn GWc (Cond.code y bytes maxL2 none :: GWc) := GWc_in hm
  refine va_callv (va_runI (g := F0 m pc ls st) (As := As) (rest := rest) ⟨C.x, C.b, C.ml, C.o, C.w⟩ hM (cwI n C.w hG rfl rfl rfl (C.w _ hw2.2) (C.w _ hw.1) (C.w _ hw2.1) hyn hw.2.2 hR) ⟨PcC.blind, PcC.mk C hS hP⟩ rfl hn hl hst hW hdg hcR) hS (fun q _ h => h) (fun q h => h) (fun u t H1 locs1 ht hvm hw5 hB hz1 hk1 hS1 => ?_)
  obtain ⟨b1, b2, b3⟩ := hB
  rw [ht] at b1 b2 b3
  exact W.tight (by omega) (by omega) (kk u H1 locs1 hw5 b1 hS1)
theorem c_callVi {S : Type} {post : Int32 → S → Prop} {f : S → KS} {g1 g2 : S → Nat} (C : CC p s m args meth c cc maxL ret own nm D cy sz0 sa A) (hP : CH D cy ad A κ H) (hS : va_S A s.heap H locs) (hl : ls.size = maxL) {y : MethodName} {C2 : String} {bytes : ByteArray} {maxL2 : Nat} {ret2 : Option FieldType} {fr lo n idx b mc ms : Nat} {As st : List Value}
    (hM : Met l y (Cond.code y bytes maxL2 ret2 :: GWc) ({ frames := fr, cells := mc, slots := ms, locals := lo }) (PcC D cy ad A sz0 sa (.ref b :: As) κ H.size (SLT H)) (va_Qi post (fun u t => Bx D cy ad A H.size (SLT H) (f u) (g1 u) (g2 u) t) A) mc ms A) (hw : cRun own y idx n bytes maxL2 ret2) (hw2 : Cond.instanceMethod y ∈ GWc ∧ Cond.selects C2 y y ∈ GWc ∧ Cond.initialized C2 ∈ GWc) (hC2 : C2 = y.cls) (hrv : ∃ cell : Cell, H[b]? = some cell ∧ cell.vm.isStatics = false ∧ s.vm.findClass C2 = some cell.cls) (hn : As.length = n) (hst : st = As.reverse ++ .ref b :: rest) (hW : 2 * (F0 m pc ls st).monitorRoom + (rest.map fun v => v.category).sum ≤ 8) (hR : fr + 1 ≤ R.frames ∧ 8 + (maxL2 + 11) + lo ≤ R.locals) (hcR : cells + mc ≤ R.cells ∧ slots + ms ≤ R.slots) (hdg : decode cc pc = .ok (.invokevirtual idx, 3))
    (kk : ∀ (r : Int32) (u : S) (H1 : Heap) (locs1 : List Loc), post r u → CH D cy ad A (f u) H1 → va_S A s.heap H1 locs1 → W p l e R s m args below meth c H1 locs1 (cells + g1 u) (slots + g2 u) Q (F0 m (pc + 3) ls (.int r :: rest))) : W p l e R s m args below meth c H locs cells slots Q (F0 m pc ls st) := by
  have hm : ∀ w ∈ (Cond.code y bytes maxL2 ret2 :: GWc), w ∈ GWc := fun w h => by
    rcases List.mem_cons.mp h with h | h
    · subst h; exact hw.2.1
    · exact h
  refine W.know (fun hk1 hk2 => ?_)
  have hG : GoodIn GWc (wsV own idx C2 y (Cond.code y bytes maxL2 ret2 :: GWc)) := GWc_in (fun w h => by
    unfold wsV at h
    rcases List.mem_append.mp h with h | h
    · simp only [List.mem_cons, List.not_mem_nil, or_false] at h
      rcases h with rfl | rfl | rfl | rfl
      · exact hw.1
      · exact hw2.1
      · exact hw2.2.1
      · exact hw2.2.2
    · exact hm w h)
  refine va_calli (va_runV (g := F0 m pc ls st) (As := As) (rest := rest) ⟨C.x, C.b, C.ml, C.o, C.w⟩ hM (cwV n C.w hG rfl rfl rfl ⟨hC2.symm, hw.2.2⟩ hR) ⟨PcC.blind, hrv, PcC.mk C hS hP⟩ rfl hn hl hst hW hdg hcR) hS (fun q _ h => h) (fun q h => h) (fun r u t H1 locs1 ht hvm hw5 hB hz1 hk1 hS1 => ?_)
  obtain ⟨b1, b2, b3⟩ := hB
  rw [ht] at b1 b2 b3
  exact W.tight (by omega) (by omega) (kk r u H1 locs1 hw5 b1 hS1)
theorem c_callSi {S : Type} {post : Int32 → S → Prop} {f : S → KS} {g1 g2 : S → Nat} (C : CC p s m args meth c cc maxL ret own nm D cy sz0 sa A) (hP : CH D cy ad A κ H) (hS : va_S A s.heap H locs) (hl : ls.size = maxL) {y : MethodName} {C2 : String} {bytes : ByteArray} {maxL2 : Nat} {ret2 : Option FieldType} {fr lo n idx b mc ms : Nat} {As st : List Value}
    (hM : Met l y (Cond.code y bytes maxL2 ret2 :: GWc) ({ frames := fr, cells := mc, slots := ms, locals := lo }) (PcC D cy ad A sz0 sa As κ H.size (SLT H)) (va_Qi post (fun u t => Bx D cy ad A H.size (SLT H) (f u) (g1 u) (g2 u) t) A) mc ms A) (hw : cRun own y idx n bytes maxL2 ret2) (hw2 : Cond.static y ∈ GWc ∧ Cond.initialized y.cls ∈ GWc) (hn : As.length = n) (hst : st = As.reverse ++ rest) (hW : 2 * (F0 m pc ls st).monitorRoom + (rest.map fun v => v.category).sum ≤ 8) (hR : fr + 1 ≤ R.frames ∧ 8 + (maxL2 + 11) + lo ≤ R.locals) (hcR : cells + mc ≤ R.cells ∧ slots + ms ≤ R.slots) (hdg : decode cc pc = .ok (.invokestatic idx, 3))
    (kk : ∀ (r : Int32) (u : S) (H1 : Heap) (locs1 : List Loc), post r u → CH D cy ad A (f u) H1 → va_S A s.heap H1 locs1 → W p l e R s m args below meth c H1 locs1 (cells + g1 u) (slots + g2 u) Q (F0 m (pc + 3) ls (.int r :: rest))) : W p l e R s m args below meth c H locs cells slots Q (F0 m pc ls st) := by
  have hm : ∀ w ∈ (Cond.code y bytes maxL2 ret2 :: GWc), w ∈ GWc := fun w h => by
    rcases List.mem_cons.mp h with h | h
    · subst h; exact hw.2.1
    · exact h
  refine W.know (fun hk1 hk2 => ?_)
  have hG : GoodIn GWc (va_wsS own idx y (Cond.code y bytes maxL2 ret2 :: GWc)) := GWc_in (fun w h => by
    unfold va_wsS at h
    rcases List.mem_append.mp h with h | h
    · simp only [List.mem_cons, List.not_mem_nil, or_false] at h
      rcases h with rfl | rfl | rfl
      · exact hw.1
      · exact hw2.1
      · exact hw2.2
    · exact hm w h)
  refine va_calli (va_runS (g := F0 m pc ls st) (As := As) (rest := rest) ⟨C.x, C.b, C.ml, C.o, C.w⟩ hM (va_cwS n C.w hG rfl rfl rfl hw.2.2 hR) ⟨PcC.blind, PcC.mk C hS hP⟩ rfl hn hl hst hW hdg hcR) hS (fun q _ h => h) (fun q h => h) (fun r u t H1 locs1 ht hvm hw5 hB hz1 hk1 hS1 => ?_)
  obtain ⟨b1, b2, b3⟩ := hB
  rw [ht] at b1 b2 b3
  exact W.tight (by omega) (by omega) (kk r u H1 locs1 hw5 b1 hS1)
theorem c_callVd {S : Type} {post : UInt64 → S → Prop} {f : S → KS} {g1 g2 : S → Nat} (C : CC p s m args meth c cc maxL ret own nm D cy sz0 sa A) (hP : CH D cy ad A κ H) (hS : va_S A s.heap H locs) (hl : ls.size = maxL) {y : MethodName} {C2 : String} {bytes : ByteArray} {maxL2 : Nat} {ret2 : Option FieldType} {fr lo n idx b mc ms : Nat} {As st : List Value}
    (hM : Met l y (Cond.code y bytes maxL2 ret2 :: GWc) ({ frames := fr, cells := mc, slots := ms, locals := lo }) (PcC D cy ad A sz0 sa (.ref b :: As) κ H.size (SLT H)) (va_Qd post (fun u t => Bx D cy ad A H.size (SLT H) (f u) (g1 u) (g2 u) t) A) mc ms A) (hw : cRun own y idx n bytes maxL2 ret2) (hw2 : Cond.instanceMethod y ∈ GWc ∧ Cond.selects C2 y y ∈ GWc ∧ Cond.initialized C2 ∈ GWc) (hC2 : C2 = y.cls) (hrv : ∃ cell : Cell, H[b]? = some cell ∧ cell.vm.isStatics = false ∧ s.vm.findClass C2 = some cell.cls) (hn : As.length = n) (hst : st = As.reverse ++ .ref b :: rest) (hW : 2 * (F0 m pc ls st).monitorRoom + (rest.map fun v => v.category).sum ≤ 8) (hR : fr + 1 ≤ R.frames ∧ 8 + (maxL2 + 11) + lo ≤ R.locals) (hcR : cells + mc ≤ R.cells ∧ slots + ms ≤ R.slots) (hdg : decode cc pc = .ok (.invokevirtual idx, 3))
    (kk : ∀ (r : UInt64) (u : S) (H1 : Heap) (locs1 : List Loc), post r u → CH D cy ad A (f u) H1 → va_S A s.heap H1 locs1 → W p l e R s m args below meth c H1 locs1 (cells + g1 u) (slots + g2 u) Q (F0 m (pc + 3) ls (.double r :: rest))) : W p l e R s m args below meth c H locs cells slots Q (F0 m pc ls st) := by
  have hm : ∀ w ∈ (Cond.code y bytes maxL2 ret2 :: GWc), w ∈ GWc := fun w h => by
    rcases List.mem_cons.mp h with h | h
    · subst h; exact hw.2.1
    · exact h
  refine W.know (fun hk1 hk2 => ?_)
  have hG : GoodIn GWc (wsV own idx C2 y (Cond.code y bytes maxL2 ret2 :: GWc)) := GWc_in (fun w h => by
    unfold wsV at h
    rcases List.mem_append.mp h with h | h
    · simp only [List.mem_cons, List.not_mem_nil, or_false] at h
      rcases h with rfl | rfl | rfl | rfl
      · exact hw.1
      · exact hw2.1
      · exact hw2.2.1
      · exact hw2.2.2
    · exact hm w h)
  refine va_calld (va_runV (g := F0 m pc ls st) (As := As) (rest := rest) ⟨C.x, C.b, C.ml, C.o, C.w⟩ hM (cwV n C.w hG rfl rfl rfl ⟨hC2.symm, hw.2.2⟩ hR) ⟨PcC.blind, hrv, PcC.mk C hS hP⟩ rfl hn hl hst hW hdg hcR) hS (fun q _ h => h) (fun q h => h) (fun r u t H1 locs1 ht hvm hw5 hB hz1 hk1 hS1 => ?_)
  obtain ⟨b1, b2, b3⟩ := hB
  rw [ht] at b1 b2 b3
  exact W.tight (by omega) (by omega) (kk r u H1 locs1 hw5 b1 hS1)
theorem c_callSd {S : Type} {post : UInt64 → S → Prop} {f : S → KS} {g1 g2 : S → Nat} (C : CC p s m args meth c cc maxL ret own nm D cy sz0 sa A) (hP : CH D cy ad A κ H) (hS : va_S A s.heap H locs) (hl : ls.size = maxL) {y : MethodName} {C2 : String} {bytes : ByteArray} {maxL2 : Nat} {ret2 : Option FieldType} {fr lo n idx b mc ms : Nat} {As st : List Value}
    (hM : Met l y (Cond.code y bytes maxL2 ret2 :: GWc) ({ frames := fr, cells := mc, slots := ms, locals := lo }) (PcC D cy ad A sz0 sa As κ H.size (SLT H)) (va_Qd post (fun u t => Bx D cy ad A H.size (SLT H) (f u) (g1 u) (g2 u) t) A) mc ms A) (hw : cRun own y idx n bytes maxL2 ret2) (hw2 : Cond.static y ∈ GWc ∧ Cond.initialized y.cls ∈ GWc) (hn : As.length = n) (hst : st = As.reverse ++ rest) (hW : 2 * (F0 m pc ls st).monitorRoom + (rest.map fun v => v.category).sum ≤ 8) (hR : fr + 1 ≤ R.frames ∧ 8 + (maxL2 + 11) + lo ≤ R.locals) (hcR : cells + mc ≤ R.cells ∧ slots + ms ≤ R.slots) (hdg : decode cc pc = .ok (.invokestatic idx, 3))
    (kk : ∀ (r : UInt64) (u : S) (H1 : Heap) (locs1 : List Loc), post r u → CH D cy ad A (f u) H1 → va_S A s.heap H1 locs1 → W p l e R s m args below meth c H1 locs1 (cells + g1 u) (slots + g2 u) Q (F0 m (pc + 3) ls (.double r :: rest))) : W p l e R s m args below meth c H locs cells slots Q (F0 m pc ls st) := by
  have hm : ∀ w ∈ (Cond.code y bytes maxL2 ret2 :: GWc), w ∈ GWc := fun w h => by
    rcases List.mem_cons.mp h with h | h
    · subst h; exact hw.2.1
    · exact h
  refine W.know (fun hk1 hk2 => ?_)
  have hG : GoodIn GWc (va_wsS own idx y (Cond.code y bytes maxL2 ret2 :: GWc)) := GWc_in (fun w h => by
    unfold va_wsS at h
    rcases List.mem_append.mp h with h | h
    · simp only [List.mem_cons, List.not_mem_nil, or_false] at h
      rcases h with rfl | rfl | rfl
      · exact hw.1
      · exact hw2.1
      · exact hw2.2
    · exact hm w h)
  refine va_calld (va_runS (g := F0 m pc ls st) (As := As) (rest := rest) ⟨C.x, C.b, C.ml, C.o, C.w⟩ hM (va_cwS n C.w hG rfl rfl rfl hw.2.2 hR) ⟨PcC.blind, PcC.mk C hS hP⟩ rfl hn hl hst hW hdg hcR) hS (fun q _ h => h) (fun q h => h) (fun r u t H1 locs1 ht hvm hw5 hB hz1 hk1 hS1 => ?_)
  obtain ⟨b1, b2, b3⟩ := hB
  rw [ht] at b1 b2 b3
  exact W.tight (by omega) (by omega) (kk r u H1 locs1 hw5 b1 hS1)
theorem c_callVq {S : Type} {post : Option Nat → S → Prop} {f : S → KS} {g1 g2 : S → Nat} (C : CC p s m args meth c cc maxL ret own nm D cy sz0 sa A) (hP : CH D cy ad A κ H) (hS : va_S A s.heap H locs) (hl : ls.size = maxL) {y : MethodName} {C2 : String} {bytes : ByteArray} {maxL2 : Nat} {ret2 : Option FieldType} {fr lo n idx b mc ms : Nat} {As st : List Value}
    (hM : Met l y (Cond.code y bytes maxL2 ret2 :: GWc) ({ frames := fr, cells := mc, slots := ms, locals := lo }) (PcC D cy ad A sz0 sa (.ref b :: As) κ H.size (SLT H)) (va_Qq post (fun u t => Bx D cy ad A H.size (SLT H) (f u) (g1 u) (g2 u) t) A) mc ms A) (hw : cRun own y idx n bytes maxL2 ret2) (hw2 : Cond.instanceMethod y ∈ GWc ∧ Cond.selects C2 y y ∈ GWc ∧ Cond.initialized C2 ∈ GWc) (hC2 : C2 = y.cls) (hrv : ∃ cell : Cell, H[b]? = some cell ∧ cell.vm.isStatics = false ∧ s.vm.findClass C2 = some cell.cls) (hn : As.length = n) (hst : st = As.reverse ++ .ref b :: rest) (hW : 2 * (F0 m pc ls st).monitorRoom + (rest.map fun v => v.category).sum ≤ 8) (hR : fr + 1 ≤ R.frames ∧ 8 + (maxL2 + 11) + lo ≤ R.locals) (hcR : cells + mc ≤ R.cells ∧ slots + ms ≤ R.slots) (hdg : decode cc pc = .ok (.invokevirtual idx, 3))
    (kk : ∀ (r : Option Nat) (u : S) (H1 : Heap) (locs1 : List Loc), post r u → CH D cy ad A (f u) H1 → va_S A s.heap H1 locs1 → W p l e R s m args below meth c H1 locs1 (cells + g1 u) (slots + g2 u) Q (F0 m (pc + 3) ls (va_rf r :: rest))) : W p l e R s m args below meth c H locs cells slots Q (F0 m pc ls st) := by
  have hm : ∀ w ∈ (Cond.code y bytes maxL2 ret2 :: GWc), w ∈ GWc := fun w h => by
    rcases List.mem_cons.mp h with h | h
    · subst h; exact hw.2.1
    · exact h
  refine W.know (fun hk1 hk2 => ?_)
  have hG : GoodIn GWc (wsV own idx C2 y (Cond.code y bytes maxL2 ret2 :: GWc)) := GWc_in (fun w h => by
    unfold wsV at h
    rcases List.mem_append.mp h with h | h
    · simp only [List.mem_cons, List.not_mem_nil, or_false] at h
      rcases h with rfl | rfl | rfl | rfl
      · exact hw.1
      · exact hw2.1
      · exact hw2.2.1
      · exact hw2.2.2
    · exact hm w h)
  refine va_callq (va_runV (g := F0 m pc ls st) (As := As) (rest := rest) ⟨C.x, C.b, C.ml, C.o, C.w⟩ hM (cwV n C.w hG rfl rfl rfl ⟨hC2.symm, hw.2.2⟩ hR) ⟨PcC.blind, hrv, PcC.mk C hS hP⟩ rfl hn hl hst hW hdg hcR) hS (fun q _ h => h) (fun q h => h) (fun r u t H1 locs1 ht hvm hw5 hB hz1 hk1 hS1 => ?_)
  obtain ⟨b1, b2, b3⟩ := hB
  rw [ht] at b1 b2 b3
  exact W.tight (by omega) (by omega) (kk r u H1 locs1 hw5 b1 hS1)
theorem c_callSq {S : Type} {post : Option Nat → S → Prop} {f : S → KS} {g1 g2 : S → Nat} (C : CC p s m args meth c cc maxL ret own nm D cy sz0 sa A) (hP : CH D cy ad A κ H) (hS : va_S A s.heap H locs) (hl : ls.size = maxL) {y : MethodName} {C2 : String} {bytes : ByteArray} {maxL2 : Nat} {ret2 : Option FieldType} {fr lo n idx b mc ms : Nat} {As st : List Value}
    (hM : Met l y (Cond.code y bytes maxL2 ret2 :: GWc) ({ frames := fr, cells := mc, slots := ms, locals := lo }) (PcC D cy ad A sz0 sa As κ H.size (SLT H)) (va_Qq post (fun u t => Bx D cy ad A H.size (SLT H) (f u) (g1 u) (g2 u) t) A) mc ms A) (hw : cRun own y idx n bytes maxL2 ret2) (hw2 : Cond.static y ∈ GWc ∧ Cond.initialized y.cls ∈ GWc) (hn : As.length = n) (hst : st = As.reverse ++ rest) (hW : 2 * (F0 m pc ls st).monitorRoom + (rest.map fun v => v.category).sum ≤ 8) (hR : fr + 1 ≤ R.frames ∧ 8 + (maxL2 + 11) + lo ≤ R.locals) (hcR : cells + mc ≤ R.cells ∧ slots + ms ≤ R.slots) (hdg : decode cc pc = .ok (.invokestatic idx, 3))
    (kk : ∀ (r : Option Nat) (u : S) (H1 : Heap) (locs1 : List Loc), post r u → CH D cy ad A (f u) H1 → va_S A s.heap H1 locs1 → W p l e R s m args below meth c H1 locs1 (cells + g1 u) (slots + g2 u) Q (F0 m (pc + 3) ls (va_rf r :: rest))) : W p l e R s m args below meth c H locs cells slots Q (F0 m pc ls st) := by
  have hm : ∀ w ∈ (Cond.code y bytes maxL2 ret2 :: GWc), w ∈ GWc := fun w h => by
    rcases List.mem_cons.mp h with h | h
    · subst h; exact hw.2.1
    · exact h
  refine W.know (fun hk1 hk2 => ?_)
  have hG : GoodIn GWc (va_wsS own idx y (Cond.code y bytes maxL2 ret2 :: GWc)) := GWc_in (fun w h => by
    unfold va_wsS at h
    rcases List.mem_append.mp h with h | h
    · simp only [List.mem_cons, List.not_mem_nil, or_false] at h
      rcases h with rfl | rfl | rfl
      · exact hw.1
      · exact hw2.1
      · exact hw2.2
    · exact hm w h)
  refine va_callq (va_runS (g := F0 m pc ls st) (As := As) (rest := rest) ⟨C.x, C.b, C.ml, C.o, C.w⟩ hM (va_cwS n C.w hG rfl rfl rfl hw.2.2 hR) ⟨PcC.blind, PcC.mk C hS hP⟩ rfl hn hl hst hW hdg hcR) hS (fun q _ h => h) (fun q h => h) (fun r u t H1 locs1 ht hvm hw5 hB hz1 hk1 hS1 => ?_)
  obtain ⟨b1, b2, b3⟩ := hB
  rw [ht] at b1 b2 b3
  exact W.tight (by omega) (by omega) (kk r u H1 locs1 hw5 b1 hS1)
theorem c_callNq {S : Type} {post : Option Nat → S → Prop} {f : S → KS} {g1 g2 : S → Nat} (C : CC p s m args meth c cc maxL ret own nm D cy sz0 sa A) (hP : CH D cy ad A κ H) (hS : va_S A s.heap H locs) (hl : ls.size = maxL) {y : MethodName} {C2 : String} {bytes : ByteArray} {maxL2 : Nat} {ret2 : Option FieldType} {fr lo n idx b mc ms : Nat} {As st : List Value}
    (hM : Met l y (Cond.code y bytes maxL2 ret2 :: GWc) ({ frames := fr, cells := mc, slots := ms, locals := lo }) (PcC D cy ad A sz0 sa (.ref b :: As) κ H.size (SLT H)) (va_Qq post (fun u t => Bx D cy ad A H.size (SLT H) (f u) (g1 u) (g2 u) t) A) mc ms A) (hw : Cond.code y bytes maxL2 ret2 ∈ GWc ∧ (y.cls ≠ "java/lang/invoke/MethodHandle" ∧ y.cls ≠ "java/lang/invoke/VarHandle" ∧ (parseMethodDescriptor y.desc).map (fun d => d.parameters.length) = some n)) (hlk : va_Nw (.methodLinkNest own idx y RX11) s) (hw2 : Cond.instanceMethod y ∈ GWc ∧ Cond.selects C2 y y ∈ GWc ∧ Cond.initialized C2 ∈ GWc) (hC2 : C2 = y.cls) (hrv : ∃ cell : Cell, H[b]? = some cell ∧ cell.vm.isStatics = false ∧ s.vm.findClass C2 = some cell.cls) (hn : As.length = n) (hst : st = As.reverse ++ .ref b :: rest) (hW : 2 * (F0 m pc ls st).monitorRoom + (rest.map fun v => v.category).sum ≤ 8) (hR : fr + 1 ≤ R.frames ∧ 8 + (maxL2 + 11) + lo ≤ R.locals) (hcR : cells + mc ≤ R.cells ∧ slots + ms ≤ R.slots) (hdg : decode cc pc = .ok (.invokevirtual idx, 3))
    (kk : ∀ (r : Option Nat) (u : S) (H1 : Heap) (locs1 : List Loc), post r u → CH D cy ad A (f u) H1 → va_S A s.heap H1 locs1 → W p l e R s m args below meth c H1 locs1 (cells + g1 u) (slots + g2 u) Q (F0 m (pc + 3) ls (va_rf r :: rest))) : W p l e R s m args below meth c H locs cells slots Q (F0 m pc ls st) := by
  have hm : ∀ w ∈ (Cond.code y bytes maxL2 ret2 :: GWc), w ∈ GWc := fun w h => by
    rcases List.mem_cons.mp h with h | h
    · subst h; exact hw.1
    · exact h
  refine W.know (fun hk1 hk2 => ?_)
  have hG : GoodIn GWc (Cond.code y bytes maxL2 ret2 :: GWc) := GWc_in hm
  refine va_callq (va_runVN (g := F0 m pc ls st) (As := As) (rest := rest) ⟨C.x, C.b, C.ml, C.o, C.w⟩ hM ⟨va_cnB n C.w hG rfl rfl rfl hlk (hC2 ▸ C.w _ hw2.2.2) hw.2 hR, C.w _ hw2.1, C.w _ hw2.2.1⟩ ⟨PcC.blind, hrv, PcC.mk C hS hP⟩ rfl hn hl hst hW hdg hcR) hS (fun q _ h => h) (fun q h => h) (fun r u t H1 locs1 ht hvm hw5 hB hz1 hk1 hS1 => ?_)
  obtain ⟨b1, b2, b3⟩ := hB
  rw [ht] at b1 b2 b3
  exact W.tight (by omega) (by omega) (kk r u H1 locs1 hw5 b1 hS1)
theorem c_retv {S : Type} {post : S → Prop} {f : S → KS} {g1 g2 : S → Nat} {sz sl mc ms : Nat} (C : CC p s m args meth c cc maxL none own nm D cy sz0 sa A) (hsz : s.heap.size = sz) (hsl : SLT s.heap = sl) (u : S) (hp : post u) (hP : CH D cy ad A (f u) H) (hS : va_S A s.heap H locs) (hg : cells ≤ g1 u ∧ slots ≤ g2 u) (hm : g1 u ≤ mc ∧ g2 u ≤ ms) (hdg : decode cc pc = .ok (.return_, 1)) : W p l e R s m args below meth c H locs cells slots (MQ below (va_Qv post (fun u t => Bx D cy ad A sz sl (f u) (g1 u) (g2 u) t) A) args s mc ms A) (F0 m pc ls []) := by
  have hlocks := C.k
  refine W.know (fun hk1 hk2 => ?_)
  refine W.widen (k := mc) (n := ms) (by omega) (by omega) ?_
  exact W.vret C.x C.b C.r (fun t ht hW => ⟨⟨u, rfl, hp, ⟨by rw [ht]; exact hP, by rw [ht]; omega, by rw [ht]; omega⟩⟩, hS.F ht⟩) hS.2.2 hdg
theorem c_reti {S : Type} {post : Int32 → S → Prop} {f : S → KS} {g1 g2 : S → Nat} {sz sl mc ms : Nat} {v : Int32} (C : CC p s m args meth c cc maxL (some .int) own nm D cy sz0 sa A) (hsz : s.heap.size = sz) (hsl : SLT s.heap = sl) (u : S) (hp : post v u) (hP : CH D cy ad A (f u) H) (hS : va_S A s.heap H locs) (hg : cells ≤ g1 u ∧ slots ≤ g2 u) (hm : g1 u ≤ mc ∧ g2 u ≤ ms) (hdg : decode cc pc = .ok (.ireturn, 1)) : W p l e R s m args below meth c H locs cells slots (MQ below (va_Qi post (fun u t => Bx D cy ad A sz sl (f u) (g1 u) (g2 u) t) A) args s mc ms A) (F0 m pc ls [.int v]) := by
  have hlocks := C.k
  refine W.know (fun hk1 hk2 => ?_)
  refine W.widen (k := mc) (n := ms) (by omega) (by omega) ?_
  exact W.iret (v := v) C.x C.b C.r (fun t ht hW => ⟨⟨v, u, rfl, hp, ⟨by rw [ht]; exact hP, by rw [ht]; omega, by rw [ht]; omega⟩⟩, hS.F ht⟩) hS.2.2 hdg
theorem c_retz {S : Type} {post : Int32 → S → Prop} {f : S → KS} {g1 g2 : S → Nat} {sz sl mc ms : Nat} {v : Int32} {ty : FieldType} (hv : narrow ty (.int v) = .int v) (C : CC p s m args meth c cc maxL (some ty) own nm D cy sz0 sa A) (hsz : s.heap.size = sz) (hsl : SLT s.heap = sl) (u : S) (hp : post v u) (hP : CH D cy ad A (f u) H) (hS : va_S A s.heap H locs) (hg : cells ≤ g1 u ∧ slots ≤ g2 u) (hm : g1 u ≤ mc ∧ g2 u ≤ ms) (hdg : decode cc pc = .ok (.ireturn, 1)) : W p l e R s m args below meth c H locs cells slots (MQ below (va_Qi post (fun u t => Bx D cy ad A sz sl (f u) (g1 u) (g2 u) t) A) args s mc ms A) (F0 m pc ls [.int v]) := by
  have hlocks := C.k
  refine W.know (fun hk1 hk2 => ?_)
  refine W.widen (k := mc) (n := ms) (by omega) (by omega) ?_
  exact W.zret (v := v) (ty := ty) C.x C.b C.r hv (fun t ht hW => ⟨⟨v, u, rfl, hp, ⟨by rw [ht]; exact hP, by rw [ht]; omega, by rw [ht]; omega⟩⟩, hS.F ht⟩) hS.2.2 hdg
theorem c_retq {S : Type} {post : Option Nat → S → Prop} {f : S → KS} {g1 g2 : S → Nat} {sz sl mc ms : Nat} {v : Option Nat} {rt : FieldType} (hrt : (∃ n, rt = .object n) ∨ ∃ t, rt = .array t) (C : CC p s m args meth c cc maxL (some rt) own nm D cy sz0 sa A) (hsz : s.heap.size = sz) (hsl : SLT s.heap = sl) (u : S) (hp : post v u) (hP : CH D cy ad A (f u) H) (hS : va_S A s.heap H locs) (hg : cells ≤ g1 u ∧ slots ≤ g2 u) (hm : g1 u ≤ mc ∧ g2 u ≤ ms) (hdg : decode cc pc = .ok (.areturn, 1)) : W p l e R s m args below meth c H locs cells slots (MQ below (va_Qq post (fun u t => Bx D cy ad A sz sl (f u) (g1 u) (g2 u) t) A) args s mc ms A) (F0 m pc ls [va_rf v]) := by
  have hlocks := C.k
  refine W.know (fun hk1 hk2 => ?_)
  refine W.widen (k := mc) (n := ms) (by omega) (by omega) ?_
  exact W.aret (v := va_rf v) C.x C.b C.r hrt (by cases v; exact Or.inl rfl; exact Or.inr ⟨_, rfl⟩) (fun t ht hW => ⟨⟨v, u, rfl, hp, ⟨by rw [ht]; exact hP, by rw [ht]; omega, by rw [ht]; omega⟩⟩, hS.F ht⟩) hS.2.2 hdg
end CB
