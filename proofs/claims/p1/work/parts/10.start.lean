/-! THE CLAIM OUT OF ONE WALK OF THE LAW'S BODY. Your part is whole_start (and what it stands on); all else here is the same for every law, but numbers. -/
def R_law : String := "PhraseDeskLaw"
def lw_P (b : Addr) (xs : List Int32) (args : Array Value) (s : State) : Prop := args = #[.ref b] ∧ s.IntsAt b xs ∧ xs.length ≤ 7 ∧ (Jvm.Cond.and given_1 narrow_1).before args s = true
def lw_Q (_ : Array Value) (s : State) (o : Outcome) (t : State) : Prop := o = .returned (some (.int 1)) ∧ Framed s o t [] 600002 7302232
def lw_Z (below : List Frame) (a : Array Value) (s : State) : State → Prop := fun t => ∃ o, t.status = .running ∧ Ended t below o ∧ lw_Q a s o t
/-- the law's own end, with 1 on the stack, nothing written that was there before, its room as the claim has it -/
theorem lw_ret {p : Program} {l : Launch} {e : Env} {s : State} {m : MethodId} {below : List Frame} {meth : Method} {c : Code} {b : Nat} (hx : p.tables.exec = Jvm.exec) (hb : c.code = code) (hr : meth.sig.returnType = ret) (hlocks : meth.locks = false) {pc : Nat} {H : Heap} {ls : Array Slot} (hdg : decode code pc = .ok (.ireturn, 1)) : W p l e room_1 s m #[Value.ref b] below meth c H [] 600002 7302232 (lw_Z below #[Value.ref b] s) (F0 m pc ls [.int 1]) := by
  intro T hT X
  obtain ⟨fs, hret, hrun, hended, hW, hframe⟩ := X.leave (v := some (.int 1)) (hlocks := hlocks) (fun h => by rw [hr] at h; cases h)
  have hmeth' : T.vm.method? m = some meth := X.method'
  refine ⟨T.setFrames fs, ?_, .returned (some (.int 1)), hrun, hended, rfl, ⟨_, rfl⟩, hW, hframe⟩
  jvm_step X.here [X.here.top, hx, hb, hdg, hmeth', hr, ret, narrow_b1]
  (try refine ⟨rfl, ?_⟩); (try refine ⟨rfl, ?_⟩)
  first | (intro acts; rw [hret _ acts rfl rfl rfl]) | rw [hret _ _ rfl rfl rfl]
  exact Steps.refl _
/-- what holds at the law's entry: the machine, the code, the tables' words (any of lw_tbl by 'hts w (by decide +kernel)'), the script of L ints xs at the cell b, what the Statement gives of the start (any of its parts by flat_of_before) -/
def lw_At (p : Program) (s : State) (m : MethodId) (meth : Method) (c : Code) (b L : Nat) (xs : Nat → Int32) : Prop :=
  p.tables.exec = Jvm.exec ∧ c.code = code ∧ meth.sig.returnType = ret ∧ c.maxLocals = 7 ∧ s.vm.findClass R_law = some m.cls ∧ (∀ w ∈ lw_tbl, w.before #[Value.ref b] s = true) ∧ va_X b L xs s s.heap ∧ b < s.heap.size ∧ meth.locks = false ∧ (Jvm.Cond.and given_1 narrow_1).before #[Value.ref b] s = true
theorem arr_p {s : State} {args : Array Value} {ty : FieldType} (hno : ∀ C, ty ≠ .object C) (h : (Cond.arrayClass ty).before args s = true) : ∃ cA : ClassId, ArrOfT s cA ty ∧ va_RA s cA ty := by
  obtain ⟨c, k, comp, h1, h2, h3⟩ := Cond.arrayClass_spec h
  refine ⟨c, fun n z => ⟨fun k h => (by cases h), k, h2, comp, h3⟩, ?_⟩
  cases ty <;> first | exact h1 | exact absurd rfl (hno _)
theorem arr_o {s : State} {args : Array Value} {C : String} (h : (Cond.arrayOver (.object C)).before args s = true) : ∃ cA : ClassId, ArrOfT s cA (.object C) ∧ va_RA s cA (.object C) := by
  obtain ⟨comp, c, k, h1, -, h2, h3, h4⟩ := Cond.arrayOver_spec h
  exact ⟨c, fun n z => ⟨fun k h => (by cases h), k, h2, comp, h3⟩, k, comp, h2, h3, h1, h4⟩
theorem txt_1 {s : State} {args : Array Value} {k : Nat} {tx : String} (h1 : (Cond.stringRef RX11 k tx).before args s = true) (h2 : (Cond.exactly (.string RX11 k) "java/lang/String").before args s = true) : ∃ a : Nat, vk_R RX11 k tx a s := by
  obtain ⟨a, c, cA, kA, q1, -⟩ := Cond.exactly_spec (args := args) (first := s) (o := none) (s := s) (idx := []) (t := .string RX11 k) (cls := "java/lang/String") h2
  exact ⟨a, vk_R.of h1 q1⟩
theorem txt_u : ∀ q ∈ TXT, ∀ r ∈ TXT, q.1 = r.1 → q = r := by decide +kernel
set_option maxRecDepth 100000 in
theorem txt_all {p : Program} {s : State} {m : MethodId} {meth : Method} {c : Code} {b L : Nat} {xs : Nat → Int32} (C0 : lw_At p s m meth c b L xs) : ∀ q ∈ TXT, ∃ a : Nat, vk_R RX11 q.1 q.2 a s := by
  obtain ⟨hx, hb, hr, hml, hown, hts, hX, hbl, hlocks, hgv⟩ := id C0
  have hg := flat_of_before _ hgv
  intro q hq
  simp only [TXT, List.mem_cons, List.not_mem_nil, or_false] at hq
  rcases hq with rfl | rfl | rfl | rfl | rfl | rfl | rfl | rfl | rfl | rfl | rfl | rfl | rfl | rfl | rfl | rfl
  · exact txt_1 (hts (.stringRef RX11 51 "no character 32 .. 126") (by decide +kernel)) (hg (.exactly (.string RX11 51) "java/lang/String") (by decide +kernel))
  · exact txt_1 (hts (.stringRef RX11 68 "the text has 40 characters") (by decide +kernel)) (hg (.exactly (.string RX11 68) "java/lang/String") (by decide +kernel))
  · exact txt_1 (hts (.stringRef RX11 78 "there are 40 programs") (by decide +kernel)) (hg (.exactly (.string RX11 78) "java/lang/String") (by decide +kernel))
  · exact txt_1 (hts (.stringRef RX11 94 "the parent is no class") (by decide +kernel)) (hg (.exactly (.string RX11 94) "java/lang/String") (by decide +kernel))
  · exact txt_1 (hts (.stringRef RX11 99 "there are 5 classes") (by decide +kernel)) (hg (.exactly (.string RX11 99) "java/lang/String") (by decide +kernel))
  · exact txt_1 (hts (.stringRef RX11 111 "no such class, name or type") (by decide +kernel)) (hg (.exactly (.string RX11 111) "java/lang/String") (by decide +kernel))
  · exact txt_1 (hts (.stringRef RX11 123 "the class can't get this field") (by decide +kernel)) (hg (.exactly (.string RX11 123) "java/lang/String") (by decide +kernel))
  · exact txt_1 (hts (.stringRef RX11 133 "no such class, name, type or action") (by decide +kernel)) (hg (.exactly (.string RX11 133) "java/lang/String") (by decide +kernel))
  · exact txt_1 (hts (.stringRef RX11 138 "the class has 6 methods") (by decide +kernel)) (hg (.exactly (.string RX11 138) "java/lang/String") (by decide +kernel))
  · exact txt_1 (hts (.stringRef RX11 149 "there is no such class") (by decide +kernel)) (hg (.exactly (.string RX11 149) "java/lang/String") (by decide +kernel))
  · exact txt_1 (hts (.stringRef RX11 151 "there are 30 objects") (by decide +kernel)) (hg (.exactly (.string RX11 151) "java/lang/String") (by decide +kernel))
  · exact txt_1 (hts (.stringRef RX11 165 "no converter goes from and to such types") (by decide +kernel)) (hg (.exactly (.string RX11 165) "java/lang/String") (by decide +kernel))
  · exact txt_1 (hts (.stringRef RX11 181 "there is no such program or object") (by decide +kernel)) (hg (.exactly (.string RX11 181) "java/lang/String") (by decide +kernel))
  · exact txt_1 (hts (.stringRef RX11 194 "not the code of a name") (by decide +kernel)) (hg (.exactly (.string RX11 194) "java/lang/String") (by decide +kernel))
  · exact txt_1 (hts (.stringRef RX11 200 "there are 12 other variables") (by decide +kernel)) (hg (.exactly (.string RX11 200) "java/lang/String") (by decide +kernel))
  · exact txt_1 (hts (.stringRef RX11 227 "there is no such object") (by decide +kernel)) (hg (.exactly (.string RX11 227) "java/lang/String") (by decide +kernel))
set_option maxRecDepth 100000 in
theorem emp_1 {p : Program} {s : State} {m : MethodId} {meth : Method} {c : Code} {b L : Nat} {xs : Nat → Int32} (C0 : lw_At p s m meth c b L xs) : ∃ k v : Nat, vk_S 1 [0] [[]] (fun _ => k) (fun _ => v) (Fr s.heap.size) s s.heap ∧ vk_R RX10 30 "" k s := by
  obtain ⟨hx, hb, hr, hml, hown, hts, hX, hbl, hlocks, hgv⟩ := id C0
  have hg := flat_of_before _ hgv
  have hA : ∀ a : Nat, a < s.heap.size → ¬ Fr s.heap.size a := fun a h q => absurd q (Nat.not_le.mpr h)
  obtain ⟨adK, adV, h1, h2⟩ := vk_Sof (N := 1) (tm := fun _ => .string RX10 30) (len := [0]) (byt := [[]]) (A := Fr s.heap.size) (args := #[Value.ref b]) (s := s) (fun i hi => by obtain rfl : i = 0 := (by omega); decide) (fun i hi => hg (.exactly (.string RX10 30) "java/lang/String") (by decide +kernel)) (fun i hi => hg (.eq (.field (.string RX10 30) "java/lang/String" "coder" "B") (.int 0)) (by decide +kernel)) (fun i hi => hg (.arrayOf (.field (.string RX10 30) "java/lang/String" "value" "[B") .byte) (by decide +kernel)) (fun i hi => by obtain rfl : i = 0 := (by omega); exact hg (.eq (.length (.field (.string RX10 30) "java/lang/String" "value" "[B")) (.int 0)) (by decide +kernel)) (fun i hi j hj => by obtain rfl : i = 0 := (by omega); exact absurd hj (by simp)) (fun i j hi hj hn => absurd (show i = j by omega) hn) hA
  refine ⟨adK 0, adV 0, ⟨fun i hi => by obtain rfl : i = 0 := (by omega); exact h1.1 0 hi, fun i j hi hj _ => by omega⟩, vk_R.of (hts (.stringRef RX10 30 "") (by decide +kernel)) (h2 0 (by decide))⟩
set_option maxHeartbeats 4000000 in
set_option maxRecDepth 100000 in
theorem cls_all {p : Program} {s : State} {m : MethodId} {meth : Method} {c : Code} {b L : Nat} {xs : Nat → Int32} (C0 : lw_At p s m meth c b L xs) : ∃ D : va_G, ∀ (k : Nat) (q : vw_C), vwCl[k]? = some q → u_Kn s q.1 q.2.1 q.2.2 (D.1 k) (D.2 k) := by
  obtain ⟨hx, hb, hr, hml, hown, hts, hX, hbl, hlocks, hgv⟩ := id C0
  obtain ⟨c0, i0, h0⟩ := u_known (C := RJ0) (T := TJ0) (N := 4) (n := 4) hts iT_J0 (hts (.instantiable RJ0 4) (by decide +kernel))
  obtain ⟨c1, i1, h1⟩ := u_known (C := RJ4) (T := TJ4) (N := 4) (n := 4) hts iT_J4 (hts (.instantiable RJ4 4) (by decide +kernel))
  obtain ⟨c2, i2, h2⟩ := u_known (C := RX0) (T := TX0) (N := 2) (n := 2) hts iT_X0 (hts (.instantiable RX0 2) (by decide +kernel))
  obtain ⟨c3, i3, h3⟩ := u_known (C := RX1) (T := TX1) (N := 7) (n := 7) hts iT_X1 (hts (.instantiable RX1 7) (by decide +kernel))
  obtain ⟨c4, i4, h4⟩ := u_known (C := RX2) (T := TX2) (N := 3) (n := 3) hts iT_X2 (hts (.instantiable RX2 3) (by decide +kernel))
  obtain ⟨c5, i5, h5⟩ := u_known (C := RX3) (T := TX3) (N := 3) (n := 3) hts iT_X3 (hts (.instantiable RX3 3) (by decide +kernel))
  obtain ⟨c6, i6, h6⟩ := u_known (C := RX4) (T := TX4) (N := 8) (n := 8) hts iT_X4 (hts (.instantiable RX4 8) (by decide +kernel))
  obtain ⟨c7, i7, h7⟩ := u_known (C := RX5) (T := TX5) (N := 8) (n := 8) hts iT_X5 (hts (.instantiable RX5 8) (by decide +kernel))
  obtain ⟨c8, i8, h8⟩ := u_known (C := RX6) (T := TX6) (N := 4) (n := 4) hts iT_X6 (hts (.instantiable RX6 4) (by decide +kernel))
  obtain ⟨c9, i9, h9⟩ := u_known (C := RX7) (T := TX7) (N := 6) (n := 6) hts iT_X7 (hts (.instantiable RX7 6) (by decide +kernel))
  obtain ⟨c10, i10, h10⟩ := u_known (C := RX8) (T := TX8) (N := 8) (n := 8) hts iT_X8 (hts (.instantiable RX8 8) (by decide +kernel))
  obtain ⟨c11, i11, h11⟩ := u_known (C := RX9) (T := TX9) (N := 3) (n := 3) hts iT_X9 (hts (.instantiable RX9 3) (by decide +kernel))
  obtain ⟨c12, i12, h12⟩ := u_known (C := RX10) (T := TX10) (N := 5) (n := 5) hts iT_X10 (hts (.instantiable RX10 5) (by decide +kernel))
  obtain ⟨c13, i13, h13⟩ := u_known (C := RX11) (T := TX11) (N := 9) (n := 9) hts iT_X11 (hts (.instantiable RX11 9) (by decide +kernel))
  obtain ⟨c14, i14, h14⟩ := u_known (C := RX12) (T := TX12) (N := 60) (n := 60) hts iT_X12 (hts (.instantiable RX12 60) (by decide +kernel))
  refine ⟨(fun k => [c0, c1, c2, c3, c4, c5, c6, c7, c8, c9, c10, c11, c12, c13, c14].getD k c0, fun k => [i0, i1, i2, i3, i4, i5, i6, i7, i8, i9, i10, i11, i12, i13, i14].getD k i0), fun k q hq => ?_⟩
  match k, hq with
  | 0, hq => cases hq; exact h0
  | 1, hq => cases hq; exact h1
  | 2, hq => cases hq; exact h2
  | 3, hq => cases hq; exact h3
  | 4, hq => cases hq; exact h4
  | 5, hq => cases hq; exact h5
  | 6, hq => cases hq; exact h6
  | 7, hq => cases hq; exact h7
  | 8, hq => cases hq; exact h8
  | 9, hq => cases hq; exact h9
  | 10, hq => cases hq; exact h10
  | 11, hq => cases hq; exact h11
  | 12, hq => cases hq; exact h12
  | 13, hq => cases hq; exact h13
  | 14, hq => cases hq; exact h14
  | k + 15, hq => exact absurd hq (by simp [vwCl])
set_option maxHeartbeats 4000000 in
set_option maxRecDepth 100000 in
theorem en_start {p : Program} {s : State} {m : MethodId} {meth : Method} {c : Code} {b L : Nat} {xs : Nat → Int32} (C0 : lw_At p s m meth c b L xs) : ∃ (D : va_G) (cy : Nat → ClassId) (sa : Nat → Nat), En D cy s.heap.size sa s := by
  obtain ⟨hx, hb, hr, hml, hown, hts, hX, hbl, hlocks, hgv⟩ := id C0
  have hg := flat_of_before _ hgv
  have hA : ∀ a : Nat, a < s.heap.size → ¬ Fr s.heap.size a := fun a h q => absurd q (Nat.not_le.mpr h)
  obtain ⟨D, hD⟩ := cls_all C0
  obtain ⟨k0, v0, hS0, hR0⟩ := emp_1 C0
  have hT := txt_all C0
  obtain ⟨y0, a0⟩ := arr_p (fun C h => by cases h) (hts (.arrayClass .int) (by decide +kernel))
  obtain ⟨y1, a1⟩ := arr_p (fun C h => by cases h) (hts (.arrayClass .long) (by decide +kernel))
  obtain ⟨y2, a2⟩ := arr_p (fun C h => by cases h) (hts (.arrayClass .boolean) (by decide +kernel))
  obtain ⟨y3, a3⟩ := arr_p (fun C h => by cases h) (hts (.arrayClass .double) (by decide +kernel))
  obtain ⟨y4, a4⟩ := arr_p (fun C h => by cases h) (hts (.arrayClass .char) (by decide +kernel))
  obtain ⟨y5, a5⟩ := arr_p (fun C h => by cases h) (hts (.arrayClass .byte) (by decide +kernel))
  obtain ⟨y6, a6⟩ := arr_o (hts (.arrayOver (.object "PhraseDesk$Value")) (by decide +kernel))
  obtain ⟨y7, a7⟩ := arr_o (hts (.arrayOver (.object "PhraseDesk$Node")) (by decide +kernel))
  obtain ⟨y8, a8⟩ := arr_o (hts (.arrayOver (.object "PhraseDesk$Family")) (by decide +kernel))
  obtain ⟨y9, a9⟩ := arr_o (hts (.arrayOver (.object "PhraseDesk$Routine")) (by decide +kernel))
  obtain ⟨y10, a10⟩ := arr_o (hts (.arrayOver (.object "PhraseDesk$Field")) (by decide +kernel))
  obtain ⟨f, hf⟩ : ∃ f : Nat → Nat, ∀ q ∈ TXT, vk_R RX11 q.1 q.2 (f q.1) s := by
    have h0 : ∀ k : Nat, ∃ a : Nat, ∀ q ∈ TXT, q.1 = k → vk_R RX11 q.1 q.2 a s := by
      intro k
      by_cases h : ∃ q ∈ TXT, q.1 = k
      · obtain ⟨q, hq, e⟩ := h
        obtain ⟨a, ha⟩ := hT q hq
        exact ⟨a, fun r hr er => by rw [txt_u r hr q hq (er.trans e.symm)]; exact ha⟩
      · exact ⟨0, fun q hq e => absurd ⟨q, hq, e⟩ h⟩
    obtain ⟨f, hf⟩ := Classical.axiomOfChoice h0
    exact ⟨f, fun q hq => hf q.1 q hq rfl⟩
  have hne : ∀ q ∈ TXT, ¬ q.1 = 0 ∧ ¬ q.1 = 1 := by decide +kernel
  refine ⟨D, fun k => [y0, y1, y2, y3, y4, y5, y6, y7, y8, y9, y10].getD k y0, fun k => if k = 0 then k0 else if k = 1 then v0 else f k, ⟨hD, fun k q hq => ?_⟩, Nat.le_refl _, ⟨?_, ?_, ?_, hS0⟩, ⟨fun q hq => ?_, hR0, ⟨?_, ?_, ?_, ?_, ?_⟩, ⟨?_, ?_, ?_, ?_, ?_⟩, ?_⟩⟩
  · match k, hq with
    | 0, hq => cases hq; exact a0
    | 1, hq => cases hq; exact a1
    | 2, hq => cases hq; exact a2
    | 3, hq => cases hq; exact a3
    | 4, hq => cases hq; exact a4
    | 5, hq => cases hq; exact a5
    | 6, hq => cases hq; exact a6
    | 7, hq => cases hq; exact a7
    | 8, hq => cases hq; exact a8
    | 9, hq => cases hq; exact a9
    | 10, hq => cases hq; exact a10
    | k + 11, hq => exact absurd hq (by simp [TY])
  · exact va_Zof (hts (.laysStatic "java/lang/String" "COMPACT_STRINGS" "Z") (by decide +kernel)) (hts (.initialized "java/lang/String") (by decide +kernel)) (va_eqi (hg (.eq (.static "java/lang/String" "COMPACT_STRINGS" "Z") (.int 1)) (by decide +kernel))) hA
  · exact vx_Zqof (hts (.laysStatic Bundle.tN "UNASSIGNED_STACK" Bundle.steD) (by decide +kernel)) (hts (.initialized Bundle.tN) (by decide +kernel)) (hg (.isRef (.static Bundle.tN "UNASSIGNED_STACK" Bundle.steD)) (by decide +kernel)) hA
  · exact vx_Zqof (hts (.laysStatic Bundle.tN "SUPPRESSED_SENTINEL" Bundle.listD) (by decide +kernel)) (hts (.initialized Bundle.tN) (by decide +kernel)) (hg (.isRef (.static Bundle.tN "SUPPRESSED_SENTINEL" Bundle.listD)) (by decide +kernel)) hA
  · obtain ⟨n0, n1⟩ := hne q hq
    show vk_R RX11 q.1 q.2 (if q.1 = 0 then k0 else if q.1 = 1 then v0 else f q.1) s
    rw [if_neg n0, if_neg n1]
    exact hf q hq
  · exact va_Nw.of rfl (hts (.declares (Bundle.initS "java/lang/RuntimeException")) (by decide +kernel))
  · exact va_Nw.of rfl (hts (.declares (Bundle.initS "java/lang/Exception")) (by decide +kernel))
  · exact va_Nw.of rfl (hts (.declares (Bundle.initS "java/lang/Throwable")) (by decide +kernel))
  · exact va_Nw.of rfl (hts (.castable tIAE tIAE) (by decide +kernel))
  · exact va_Nw.of rfl (hts (.castable tISE tISE) (by decide +kernel))
  · exact va_AO.of (hts (.arrayOver (.object "PhraseDesk$Value")) (by decide +kernel))
  · exact va_AO.of (hts (.arrayOver (.object "PhraseDesk$Node")) (by decide +kernel))
  · exact va_AO.of (hts (.arrayOver (.object "PhraseDesk$Family")) (by decide +kernel))
  · exact va_AO.of (hts (.arrayOver (.object "PhraseDesk$Routine")) (by decide +kernel))
  · exact va_AO.of (hts (.arrayOver (.object "PhraseDesk$Field")) (by decide +kernel))
  · exact va_Nc.of (hg (.not (.castable tISE tIAE)) (by decide +kernel))
