/-! THE CLAIM OUT OF ONE WALK OF THE LAW'S BODY. Your part is whole_start (and what it stands on); all else here is the same for every law, but numbers. -/
def R_law : String := "PhraseDeskLaw"
def lw_P (b : Addr) (xs : List Int32) (args : Array Value) (s : State) : Prop := args = #[.ref b] ∧ s.IntsAt b xs ∧ xs.length ≤ 3584 ∧ (Jvm.Cond.and given_1 narrow_1).before args s = true
def lw_Q (_ : Array Value) (s : State) (o : Outcome) (t : State) : Prop := o = .returned (some (.int 1)) ∧ Framed s o t [] 601024 7293034
def lw_Z (below : List Frame) (a : Array Value) (s : State) : State → Prop := fun t => ∃ o, t.status = .running ∧ Ended t below o ∧ lw_Q a s o t
/-- the law's own end, with 1 on the stack, nothing written that was there before, its room as the claim has it -/
theorem lw_ret {p : Program} {l : Launch} {e : Env} {s : State} {m : MethodId} {below : List Frame} {meth : Method} {c : Code} {b : Nat} (hx : p.tables.exec = Jvm.exec) (hb : c.code = code) (hr : meth.sig.returnType = ret) (hlocks : meth.locks = false) {pc : Nat} {H : Heap} {ls : Array Slot} (hdg : decode code pc = .ok (.ireturn, 1)) : W p l e room_1 s m #[Value.ref b] below meth c H [] 601024 7293034 (lw_Z below #[Value.ref b] s) (F0 m pc ls [.int 1]) := by
  intro T hT X
  obtain ⟨fs, hret, hrun, hended, hW, hframe⟩ := X.leave (v := some (.int 1)) (hlocks := hlocks) (fun h => by rw [hr] at h; cases h)
  have hmeth' : T.vm.method? m = some meth := X.method'
  refine ⟨T.setFrames fs, ?_, .returned (some (.int 1)), hrun, hended, rfl, ⟨_, rfl⟩, hW, hframe⟩
  jvm_step X.here [X.here.top, hx, hb, hdg, hmeth', hr, ret, narrow_b1]
  (try refine ⟨rfl, ?_⟩); (try refine ⟨rfl, ?_⟩)
  first | (intro acts; rw [hret _ acts rfl rfl rfl]) | rw [hret _ _ rfl rfl rfl]
  exact Steps.refl _
/-- what holds at the law's entry: the machine, the code, the tables' words (any of lw_tbl by 'hts w (by decide +kernel)'), the script of L ints xs at the cell b, what the Statement gives of the start (any of its parts by flat_of_before) -/
def lw_At (p : Program) (s : State) (m : MethodId) (meth : Method) (c : Code) (b L : Nat) (xs : Nat → Int32) : Prop :=
  p.tables.exec = Jvm.exec ∧ c.code = code ∧ meth.sig.returnType = ret ∧ c.maxLocals = 7 ∧ s.vm.findClass R_law = some m.cls ∧ (∀ w ∈ lw_tbl, w.before #[Value.ref b] s = true) ∧ va_X b L xs s s.heap ∧ b < s.heap.size ∧ meth.locks = false ∧ (Jvm.Cond.and given_1 narrow_1).before #[Value.ref b] s = true
theorem arr_p {s : State} {args : Array Value} {ty : FieldType} (hno : ∀ C, ty ≠ .object C) (h : (Cond.arrayClass ty).before args s = true) : ∃ cA : ClassId, ArrOfT s cA ty ∧ va_RA s cA ty := by
  obtain ⟨c, k, comp, h1, h2, h3⟩ := Cond.arrayClass_spec h
  refine ⟨c, fun n z => ⟨fun k h => (by cases h), k, h2, comp, h3⟩, ?_⟩
  cases ty <;> first | exact h1 | exact absurd rfl (hno _)
theorem arr_o {s : State} {args : Array Value} {C : String} (h : (Cond.arrayOver (.object C)).before args s = true) : ∃ cA : ClassId, ArrOfT s cA (.object C) ∧ va_RA s cA (.object C) := by
  obtain ⟨comp, c, k, h1, -, h2, h3, h4⟩ := Cond.arrayOver_spec h
  exact ⟨c, fun n z => ⟨fun k h => (by cases h), k, h2, comp, h3⟩, k, comp, h2, h3, h1, h4⟩
theorem txt_1 {s : State} {args : Array Value} {k : Nat} {tx : String} (h1 : (Cond.stringRef RX11 k tx).before args s = true) (h2 : (Cond.exactly (.string RX11 k) "java/lang/String").before args s = true) : ∃ a : Nat, vk_R RX11 k tx a s := by
  obtain ⟨a, c, cA, kA, q1, -⟩ := Cond.exactly_spec (args := args) (first := s) (o := none) (s := s) (idx := []) (t := .string RX11 k) (cls := "java/lang/String") h2
  exact ⟨a, vk_R.of h1 q1⟩
theorem txt_u : ∀ q ∈ TXT, ∀ r ∈ TXT, q.1 = r.1 → q = r := by decide +kernel
set_option maxRecDepth 100000 in
theorem txt_all {p : Program} {s : State} {m : MethodId} {meth : Method} {c : Code} {b L : Nat} {xs : Nat → Int32} (C0 : lw_At p s m meth c b L xs) : ∀ q ∈ TXT, ∃ a : Nat, vk_R RX11 q.1 q.2 a s := by
  obtain ⟨hx, hb, hr, hml, hown, hts, hX, hbl, hlocks, hgv⟩ := id C0
  have hg := flat_of_before _ hgv
  intro q hq
  simp only [TXT, List.mem_cons, List.not_mem_nil, or_false] at hq
  rcases hq with rfl | rfl | rfl | rfl | rfl | rfl | rfl | rfl | rfl | rfl | rfl | rfl | rfl | rfl | rfl | rfl
  · exact txt_1 (hts (.stringRef RX11 51 "no character 32 .. 126") (by decide +kernel)) (hg (.exactly (.string RX11 51) "java/lang/String") (by decide +kernel))
  · exact txt_1 (hts (.stringRef RX11 68 "the text has 40 characters") (by decide +kernel)) (hg (.exactly (.string RX11 68) "java/lang/String") (by decide +kernel))
  · exact txt_1 (hts (.stringRef RX11 78 "there are 40 programs") (by decide +kernel)) (hg (.exactly (.string RX11 78) "java/lang/String") (by decide +kernel))
  · exact txt_1 (hts (.stringRef RX11 94 "the parent is no class") (by decide +kernel)) (hg (.exactly (.string RX11 94) "java/lang/String") (by decide +kernel))
  · exact txt_1 (hts (.stringRef RX11 99 "there are 5 classes") (by decide +kernel)) (hg (.exactly (.string RX11 99) "java/lang/String") (by decide +kernel))
  · exact txt_1 (hts (.stringRef RX11 111 "no such class, name or type") (by decide +kernel)) (hg (.exactly (.string RX11 111) "java/lang/String") (by decide +kernel))
  · exact txt_1 (hts (.stringRef RX11 123 "the class can't get this field") (by decide +kernel)) (hg (.exactly (.string RX11 123) "java/lang/String") (by decide +kernel))
  · exact txt_1 (hts (.stringRef RX11 133 "no such class, name, type or action") (by decide +kernel)) (hg (.exactly (.string RX11 133) "java/lang/String") (by decide +kernel))
  · exact txt_1 (hts (.stringRef RX11 138 "the class has 6 methods") (by decide +kernel)) (hg (.exactly (.string RX11 138) "java/lang/String") (by decide +kernel))
  · exact txt_1 (hts (.stringRef RX11 149 "there is no such class") (by decide +kernel)) (hg (.exactly (.string RX11 149) "java/lang/String") (by decide +kernel))
  · exact txt_1 (hts (.stringRef RX11 151 "there are 30 objects") (by decide +kernel)) (hg (.exactly (.string RX11 151) "java/lang/String") (by decide +kernel))
  · exact txt_1 (hts (.stringRef RX11 165 "no converter goes from and to such types") (by decide +kernel)) (hg (.exactly (.string RX11 165) "java/lang/String") (by decide +kernel))
  · exact txt_1 (hts (.stringRef RX11 181 "there is no such program or object") (by decide +kernel)) (hg (.exactly (.string RX11 181) "java/lang/String") (by decide +kernel))
  · exact txt_1 (hts (.stringRef RX11 194 "not the code of a name") (by decide +kernel)) (hg (.exactly (.string RX11 194) "java/lang/String") (by decide +kernel))
  · exact txt_1 (hts (.stringRef RX11 200 "there are 12 other variables") (by decide +kernel)) (hg (.exactly (.string RX11 200) "java/lang/String") (by decide +kernel))
  · exact txt_1 (hts (.stringRef RX11 227 "there is no such object") (by decide +kernel)) (hg (.exactly (.string RX11 227) "java/lang/String") (by decide +kernel))
set_option maxRecDepth 100000 in
theorem emp_1 {p : Program} {s : State} {m : MethodId} {meth : Method} {c : Code} {b L : Nat} {xs : Nat → Int32} (C0 : lw_At p s m meth c b L xs) : ∃ k v : Nat, vk_S 1 [0] [[]] (fun _ => k) (fun _ => v) (Fr s.heap.size) s s.heap ∧ vk_R RX10 30 "" k s := by
  obtain ⟨hx, hb, hr, hml, hown, hts, hX, hbl, hlocks, hgv⟩ := id C0
  have hg := flat_of_before _ hgv
  have hA : ∀ a : Nat, a < s.heap.size → ¬ Fr s.heap.size a := fun a h q => absurd q (Nat.not_le.mpr h)
  obtain ⟨adK, adV, h1, h2⟩ := vk_Sof (N := 1) (tm := fun _ => .string RX10 30) (len := [0]) (byt := [[]]) (A := Fr s.heap.size) (args := #[Value.ref b]) (s := s) (fun i hi => by obtain rfl : i = 0 := (by omega); decide) (fun i hi => hg (.exactly (.string RX10 30) "java/lang/String") (by decide +kernel)) (fun i hi => hg (.eq (.field (.string RX10 30) "java/lang/String" "coder" "B") (.int 0)) (by decide +kernel)) (fun i hi => hg (.arrayOf (.field (.string RX10 30) "java/lang/String" "value" "[B") .byte) (by decide +kernel)) (fun i hi => by obtain rfl : i = 0 := (by omega); exact hg (.eq (.length (.field (.string RX10 30) "java/lang/String" "value" "[B")) (.int 0)) (by decide +kernel)) (fun i hi j hj => by obtain rfl : i = 0 := (by omega); exact absurd hj (by simp)) (fun i j hi hj hn => absurd (show i = j by omega) hn) hA
  refine ⟨adK 0, adV 0, ⟨fun i hi => by obtain rfl : i = 0 := (by omega); exact h1.1 0 hi, fun i j hi hj _ => by omega⟩, vk_R.of (hts (.stringRef RX10 30 "") (by decide +kernel)) (h2 0 (by decide))⟩
set_option maxHeartbeats 4000000 in
set_option maxRecDepth 100000 in
theorem cls_all {p : Program} {s : State} {m : MethodId} {meth : Method} {c : Code} {b L : Nat} {xs : Nat → Int32} (C0 : lw_At p s m meth c b L xs) : ∃ D : va_G, ∀ (k : Nat) (q : vw_C), vwCl[k]? = some q → u_Kn s q.1 q.2.1 q.2.2 (D.1 k) (D.2 k) := by
  obtain ⟨hx, hb, hr, hml, hown, hts, hX, hbl, hlocks, hgv⟩ := id C0
  obtain ⟨c0, i0, h0⟩ := u_known (C := RJ0) (T := TJ0) (N := 4) (n := 4) hts iT_J0 (hts (.instantiable RJ0 4) (by decide +kernel))
  obtain ⟨c1, i1, h1⟩ := u_known (C := RJ4) (T := TJ4) (N := 4) (n := 4) hts iT_J4 (hts (.instantiable RJ4 4) (by decide +kernel))
  obtain ⟨c2, i2, h2⟩ := u_known (C := RX0) (T := TX0) (N := 2) (n := 2) hts iT_X0 (hts (.instantiable RX0 2) (by decide +kernel))
  obtain ⟨c3, i3, h3⟩ := u_known (C := RX1) (T := TX1) (N := 7) (n := 7) hts iT_X1 (hts (.instantiable RX1 7) (by decide +kernel))
  obtain ⟨c4, i4, h4⟩ := u_known (C := RX2) (T := TX2) (N := 3) (n := 3) hts iT_X2 (hts (.instantiable RX2 3) (by decide +kernel))
  obtain ⟨c5, i5, h5⟩ := u_known (C := RX3) (T := TX3) (N := 3) (n := 3) hts iT_X3 (hts (.instantiable RX3 3) (by decide +kernel))
  obtain ⟨c6, i6, h6⟩ := u_known (C := RX4) (T := TX4) (N := 8) (n := 8) hts iT_X4 (hts (.instantiable RX4 8) (by decide +kernel))
  obtain ⟨c7, i7, h7⟩ := u_known (C := RX5) (T := TX5) (N := 8) (n := 8) hts iT_X5 (hts (.instantiable RX5 8) (by decide +kernel))
  obtain ⟨c8, i8, h8⟩ := u_known (C := RX6) (T := TX6) (N := 4) (n := 4) hts iT_X6 (hts (.instantiable RX6 4) (by decide +kernel))
  obtain ⟨c9, i9, h9⟩ := u_known (C := RX7) (T := TX7) (N := 6) (n := 6) hts iT_X7 (hts (.instantiable RX7 6) (by decide +kernel))
  obtain ⟨c10, i10, h10⟩ := u_known (C := RX8) (T := TX8) (N := 8) (n := 8) hts iT_X8 (hts (.instantiable RX8 8) (by decide +kernel))
  obtain ⟨c11, i11, h11⟩ := u_known (C := RX9) (T := TX9) (N := 3) (n := 3) hts iT_X9 (hts (.instantiable RX9 3) (by decide +kernel))
  obtain ⟨c12, i12, h12⟩ := u_known (C := RX10) (T := TX10) (N := 5) (n := 5) hts iT_X10 (hts (.instantiable RX10 5) (by decide +kernel))
  obtain ⟨c13, i13, h13⟩ := u_known (C := RX11) (T := TX11) (N := 9) (n := 9) hts iT_X11 (hts (.instantiable RX11 9) (by decide +kernel))
  obtain ⟨c14, i14, h14⟩ := u_known (C := RX12) (T := TX12) (N := 60) (n := 60) hts iT_X12 (hts (.instantiable RX12 60) (by decide +kernel))
  refine ⟨(fun k => [c0, c1, c2, c3, c4, c5, c6, c7, c8, c9, c10, c11, c12, c13, c14].getD k c0, fun k => [i0, i1, i2, i3, i4, i5, i6, i7, i8, i9, i10, i11, i12, i13, i14].getD k i0), fun k q hq => ?_⟩
  match k, hq with
  | 0, hq => cases hq; exact h0
  | 1, hq => cases hq; exact h1
  | 2, hq => cases hq; exact h2
  | 3, hq => cases hq; exact h3
  | 4, hq => cases hq; exact h4
  | 5, hq => cases hq; exact h5
  | 6, hq => cases hq; exact h6
  | 7, hq => cases hq; exact h7
  | 8, hq => cases hq; exact h8
  | 9, hq => cases hq; exact h9
  | 10, hq => cases hq; exact h10
  | 11, hq => cases hq; exact h11
  | 12, hq => cases hq; exact h12
  | 13, hq => cases hq; exact h13
  | 14, hq => cases hq; exact h14
  | k + 15, hq => exact absurd hq (by simp [vwCl])
set_option maxRecDepth 100000 in
set_option maxHeartbeats 4000000 in
theorem emp_t {p : Program} {s : State} {m : MethodId} {meth : Method} {c : Code} {b L : Nat} {xs : Nat → Int32} (C0 : lw_At p s m meth c b L xs) : ∃ k v : Nat, vk_S 1 [4] [[116, 114, 117, 101]] (fun _ => k) (fun _ => v) (Fr s.heap.size) s s.heap ∧ vk_R RX0 82 "true" k s := by
  obtain ⟨hx, hb, hr, hml, hown, hts, hX, hbl, hlocks, hgv⟩ := id C0
  have hg := flat_of_before _ hgv
  have hA : ∀ a : Nat, a < s.heap.size → ¬ Fr s.heap.size a := fun a h q => absurd q (Nat.not_le.mpr h)
  have hel : ∀ j : Nat, j < 4 → (Cond.eq (.elem (.field (.string RX0 82) "java/lang/String" "value" "[B") (.int (Int32.ofNat j))) (.int (([116, 114, 117, 101] : List Int32).getD j 0))).before #[Value.ref b] s = true := by
    intro j hj
    match j, hj with
    | 0, _ => exact hg (.eq (.elem (.field (.string RX0 82) "java/lang/String" "value" "[B") (.int 0)) (.int 116)) (by decide +kernel)
    | 1, _ => exact hg (.eq (.elem (.field (.string RX0 82) "java/lang/String" "value" "[B") (.int 1)) (.int 114)) (by decide +kernel)
    | 2, _ => exact hg (.eq (.elem (.field (.string RX0 82) "java/lang/String" "value" "[B") (.int 2)) (.int 117)) (by decide +kernel)
    | 3, _ => exact hg (.eq (.elem (.field (.string RX0 82) "java/lang/String" "value" "[B") (.int 3)) (.int 101)) (by decide +kernel)
    | j + 4, hj => omega
  obtain ⟨adK, adV, h1, h2⟩ := vk_Sof (N := 1) (tm := fun _ => (.string RX0 82)) (len := [4]) (byt := [[116, 114, 117, 101]]) (A := Fr s.heap.size) (args := #[Value.ref b]) (s := s) (fun i hi => by obtain rfl : i = 0 := (by omega); decide) (fun i hi => hg (.exactly (.string RX0 82) "java/lang/String") (by decide +kernel)) (fun i hi => hg (.eq (.field (.string RX0 82) "java/lang/String" "coder" "B") (.int 0)) (by decide +kernel)) (fun i hi => hg (.arrayOf (.field (.string RX0 82) "java/lang/String" "value" "[B") .byte) (by decide +kernel)) (fun i hi => by obtain rfl : i = 0 := (by omega); exact hg (.eq (.length (.field (.string RX0 82) "java/lang/String" "value" "[B")) (.int 4)) (by decide +kernel)) (fun i hi j hj => by obtain rfl : i = 0 := (by omega); exact hel j hj) (fun i j hi hj hn => absurd (show i = j by omega) hn) hA
  refine ⟨adK 0, adV 0, ⟨fun i hi => by obtain rfl : i = 0 := (by omega); exact h1.1 0 hi, fun i j hi hj _ => by omega⟩, vk_R.of (hts (.stringRef RX0 82 "true") (by decide +kernel)) (h2 0 (by decide))⟩
set_option maxRecDepth 100000 in
set_option maxHeartbeats 4000000 in
theorem emp_f {p : Program} {s : State} {m : MethodId} {meth : Method} {c : Code} {b L : Nat} {xs : Nat → Int32} (C0 : lw_At p s m meth c b L xs) : ∃ k v : Nat, vk_S 1 [5] [[102, 97, 108, 115, 101]] (fun _ => k) (fun _ => v) (Fr s.heap.size) s s.heap ∧ vk_R RX0 90 "false" k s := by
  obtain ⟨hx, hb, hr, hml, hown, hts, hX, hbl, hlocks, hgv⟩ := id C0
  have hg := flat_of_before _ hgv
  have hA : ∀ a : Nat, a < s.heap.size → ¬ Fr s.heap.size a := fun a h q => absurd q (Nat.not_le.mpr h)
  have hel : ∀ j : Nat, j < 5 → (Cond.eq (.elem (.field (.string RX0 90) "java/lang/String" "value" "[B") (.int (Int32.ofNat j))) (.int (([102, 97, 108, 115, 101] : List Int32).getD j 0))).before #[Value.ref b] s = true := by
    intro j hj
    match j, hj with
    | 0, _ => exact hg (.eq (.elem (.field (.string RX0 90) "java/lang/String" "value" "[B") (.int 0)) (.int 102)) (by decide +kernel)
    | 1, _ => exact hg (.eq (.elem (.field (.string RX0 90) "java/lang/String" "value" "[B") (.int 1)) (.int 97)) (by decide +kernel)
    | 2, _ => exact hg (.eq (.elem (.field (.string RX0 90) "java/lang/String" "value" "[B") (.int 2)) (.int 108)) (by decide +kernel)
    | 3, _ => exact hg (.eq (.elem (.field (.string RX0 90) "java/lang/String" "value" "[B") (.int 3)) (.int 115)) (by decide +kernel)
    | 4, _ => exact hg (.eq (.elem (.field (.string RX0 90) "java/lang/String" "value" "[B") (.int 4)) (.int 101)) (by decide +kernel)
    | j + 5, hj => omega
  obtain ⟨adK, adV, h1, h2⟩ := vk_Sof (N := 1) (tm := fun _ => (.string RX0 90)) (len := [5]) (byt := [[102, 97, 108, 115, 101]]) (A := Fr s.heap.size) (args := #[Value.ref b]) (s := s) (fun i hi => by obtain rfl : i = 0 := (by omega); decide) (fun i hi => hg (.exactly (.string RX0 90) "java/lang/String") (by decide +kernel)) (fun i hi => hg (.eq (.field (.string RX0 90) "java/lang/String" "coder" "B") (.int 0)) (by decide +kernel)) (fun i hi => hg (.arrayOf (.field (.string RX0 90) "java/lang/String" "value" "[B") .byte) (by decide +kernel)) (fun i hi => by obtain rfl : i = 0 := (by omega); exact hg (.eq (.length (.field (.string RX0 90) "java/lang/String" "value" "[B")) (.int 5)) (by decide +kernel)) (fun i hi j hj => by obtain rfl : i = 0 := (by omega); exact hel j hj) (fun i j hi hj hn => absurd (show i = j by omega) hn) hA
  refine ⟨adK 0, adV 0, ⟨fun i hi => by obtain rfl : i = 0 := (by omega); exact h1.1 0 hi, fun i j hi hj _ => by omega⟩, vk_R.of (hts (.stringRef RX0 90 "false") (by decide +kernel)) (h2 0 (by decide))⟩
set_option maxRecDepth 100000 in
set_option maxHeartbeats 4000000 in
theorem emp_n {p : Program} {s : State} {m : MethodId} {meth : Method} {c : Code} {b L : Nat} {xs : Nat → Int32} (C0 : lw_At p s m meth c b L xs) : ∃ k v : Nat, vk_S 1 [4] [[110, 117, 108, 108]] (fun _ => k) (fun _ => v) (Fr s.heap.size) s s.heap ∧ vk_R RX0 112 "null" k s := by
  obtain ⟨hx, hb, hr, hml, hown, hts, hX, hbl, hlocks, hgv⟩ := id C0
  have hg := flat_of_before _ hgv
  have hA : ∀ a : Nat, a < s.heap.size → ¬ Fr s.heap.size a := fun a h q => absurd q (Nat.not_le.mpr h)
  have hel : ∀ j : Nat, j < 4 → (Cond.eq (.elem (.field (.string RX0 112) "java/lang/String" "value" "[B") (.int (Int32.ofNat j))) (.int (([110, 117, 108, 108] : List Int32).getD j 0))).before #[Value.ref b] s = true := by
    intro j hj
    match j, hj with
    | 0, _ => exact hg (.eq (.elem (.field (.string RX0 112) "java/lang/String" "value" "[B") (.int 0)) (.int 110)) (by decide +kernel)
    | 1, _ => exact hg (.eq (.elem (.field (.string RX0 112) "java/lang/String" "value" "[B") (.int 1)) (.int 117)) (by decide +kernel)
    | 2, _ => exact hg (.eq (.elem (.field (.string RX0 112) "java/lang/String" "value" "[B") (.int 2)) (.int 108)) (by decide +kernel)
    | 3, _ => exact hg (.eq (.elem (.field (.string RX0 112) "java/lang/String" "value" "[B") (.int 3)) (.int 108)) (by decide +kernel)
    | j + 4, hj => omega
  obtain ⟨adK, adV, h1, h2⟩ := vk_Sof (N := 1) (tm := fun _ => (.string RX0 112)) (len := [4]) (byt := [[110, 117, 108, 108]]) (A := Fr s.heap.size) (args := #[Value.ref b]) (s := s) (fun i hi => by obtain rfl : i = 0 := (by omega); decide) (fun i hi => hg (.exactly (.string RX0 112) "java/lang/String") (by decide +kernel)) (fun i hi => hg (.eq (.field (.string RX0 112) "java/lang/String" "coder" "B") (.int 0)) (by decide +kernel)) (fun i hi => hg (.arrayOf (.field (.string RX0 112) "java/lang/String" "value" "[B") .byte) (by decide +kernel)) (fun i hi => by obtain rfl : i = 0 := (by omega); exact hg (.eq (.length (.field (.string RX0 112) "java/lang/String" "value" "[B")) (.int 4)) (by decide +kernel)) (fun i hi j hj => by obtain rfl : i = 0 := (by omega); exact hel j hj) (fun i j hi hj hn => absurd (show i = j by omega) hn) hA
  refine ⟨adK 0, adV 0, ⟨fun i hi => by obtain rfl : i = 0 := (by omega); exact h1.1 0 hi, fun i j hi hj _ => by omega⟩, vk_R.of (hts (.stringRef RX0 112 "null") (by decide +kernel)) (h2 0 (by decide))⟩
theorem by8 (l : List Int32) (h : ∀ x ∈ l, fits .byte (.int x) = true) : ∀ j, fits .byte (.int (l.getD j 0)) = true := fun j => by
  rw [List.getD_eq_getElem?_getD]
  cases hq : l[j]? with
  | none => show fits .byte (.int 0) = true; decide
  | some x => exact h x (List.mem_of_getElem? hq)
theorem asg_self (vm : Vm) (c : ClassId) : vm.assignable c c = true := by
  show vm.assignableAux (255 + 1) c c = true
  rw [Vm.assignableAux]
  simp only [beq_self_eq_true, Bool.true_or]
theorem cst_self {C : String} {s : State} {c : ClassId} (h : s.vm.findClass C = some c) : va_Nw (.castable C C) s := by
  show (Cond.castable C C).before #[] s = true
  simp only [Cond.before, Cond.holds, Cond.value, h, asg_self]
  simp
theorem te_int {args : Array Value} {s : State} {t : Term} {z : Int32} (h : (Cond.eq t (.int z)).before args s = true) : t.eval args s none [] s = some (.int z) := by
  cases hv : t.eval args s none [] s with
  | none => simp [Cond.before, Cond.holds, Cond.value, hv] at h
  | some w =>
    have hz : (Term.int z).eval args s none [] s = some (.int z) := rfl
    cases w <;> simp [Cond.before, Cond.holds, Cond.value, hv, hz] at h ⊢
    all_goals first | exact h | (exact absurd h (by simp))
def dg1_l : List Int32 := [48, 49, 50, 51, 52, 53, 54, 55, 56, 57, 48, 49, 50, 51, 52, 53, 54, 55, 56, 57, 48, 49, 50, 51, 52, 53, 54, 55, 56, 57, 48, 49, 50, 51, 52, 53, 54, 55, 56, 57, 48, 49, 50, 51, 52, 53, 54, 55, 56, 57, 48, 49, 50, 51, 52, 53, 54, 55, 56, 57, 48, 49, 50, 51, 52, 53, 54, 55, 56, 57, 48, 49, 50, 51, 52, 53, 54, 55, 56, 57, 48, 49, 50, 51, 52, 53, 54, 55, 56, 57, 48, 49, 50, 51, 52, 53, 54, 55, 56, 57]
set_option maxRecDepth 100000 in
set_option maxHeartbeats 4000000 in
theorem dg1_0 {b : Nat} {s : State} (hg : ∀ w ∈ flatC (Jvm.Cond.and given_1 narrow_1), w.before #[Value.ref b] s = true) : ∀ j : Nat, j < 20 → (Cond.eq (.elem (.static "java/lang/Integer" "DigitOnes" "[B") (.int (Int32.ofNat (0 + j)))) (.int ((dg1_l : List Int32).getD (0 + j) 0))).before #[Value.ref b] s = true := by
  intro j hj
  match j, hj with
  | 0, _ => exact hg (.eq (.elem (.static "java/lang/Integer" "DigitOnes" "[B") (.int 0)) (.int 48)) (by decide +kernel)
  | 1, _ => exact hg (.eq (.elem (.static "java/lang/Integer" "DigitOnes" "[B") (.int 1)) (.int 49)) (by decide +kernel)
  | 2, _ => exact hg (.eq (.elem (.static "java/lang/Integer" "DigitOnes" "[B") (.int 2)) (.int 50)) (by decide +kernel)
  | 3, _ => exact hg (.eq (.elem (.static "java/lang/Integer" "DigitOnes" "[B") (.int 3)) (.int 51)) (by decide +kernel)
  | 4, _ => exact hg (.eq (.elem (.static "java/lang/Integer" "DigitOnes" "[B") (.int 4)) (.int 52)) (by decide +kernel)
  | 5, _ => exact hg (.eq (.elem (.static "java/lang/Integer" "DigitOnes" "[B") (.int 5)) (.int 53)) (by decide +kernel)
  | 6, _ => exact hg (.eq (.elem (.static "java/lang/Integer" "DigitOnes" "[B") (.int 6)) (.int 54)) (by decide +kernel)
  | 7, _ => exact hg (.eq (.elem (.static "java/lang/Integer" "DigitOnes" "[B") (.int 7)) (.int 55)) (by decide +kernel)
  | 8, _ => exact hg (.eq (.elem (.static "java/lang/Integer" "DigitOnes" "[B") (.int 8)) (.int 56)) (by decide +kernel)
  | 9, _ => exact hg (.eq (.elem (.static "java/lang/Integer" "DigitOnes" "[B") (.int 9)) (.int 57)) (by decide +kernel)
  | 10, _ => exact hg (.eq (.elem (.static "java/lang/Integer" "DigitOnes" "[B") (.int 10)) (.int 48)) (by decide +kernel)
  | 11, _ => exact hg (.eq (.elem (.static "java/lang/Integer" "DigitOnes" "[B") (.int 11)) (.int 49)) (by decide +kernel)
  | 12, _ => exact hg (.eq (.elem (.static "java/lang/Integer" "DigitOnes" "[B") (.int 12)) (.int 50)) (by decide +kernel)
  | 13, _ => exact hg (.eq (.elem (.static "java/lang/Integer" "DigitOnes" "[B") (.int 13)) (.int 51)) (by decide +kernel)
  | 14, _ => exact hg (.eq (.elem (.static "java/lang/Integer" "DigitOnes" "[B") (.int 14)) (.int 52)) (by decide +kernel)
  | 15, _ => exact hg (.eq (.elem (.static "java/lang/Integer" "DigitOnes" "[B") (.int 15)) (.int 53)) (by decide +kernel)
  | 16, _ => exact hg (.eq (.elem (.static "java/lang/Integer" "DigitOnes" "[B") (.int 16)) (.int 54)) (by decide +kernel)
  | 17, _ => exact hg (.eq (.elem (.static "java/lang/Integer" "DigitOnes" "[B") (.int 17)) (.int 55)) (by decide +kernel)
  | 18, _ => exact hg (.eq (.elem (.static "java/lang/Integer" "DigitOnes" "[B") (.int 18)) (.int 56)) (by decide +kernel)
  | 19, _ => exact hg (.eq (.elem (.static "java/lang/Integer" "DigitOnes" "[B") (.int 19)) (.int 57)) (by decide +kernel)
  | j + 20, hj => omega
set_option maxRecDepth 100000 in
set_option maxHeartbeats 4000000 in
theorem dg1_20 {b : Nat} {s : State} (hg : ∀ w ∈ flatC (Jvm.Cond.and given_1 narrow_1), w.before #[Value.ref b] s = true) : ∀ j : Nat, j < 20 → (Cond.eq (.elem (.static "java/lang/Integer" "DigitOnes" "[B") (.int (Int32.ofNat (20 + j)))) (.int ((dg1_l : List Int32).getD (20 + j) 0))).before #[Value.ref b] s = true := by
  intro j hj
  match j, hj with
  | 0, _ => exact hg (.eq (.elem (.static "java/lang/Integer" "DigitOnes" "[B") (.int 20)) (.int 48)) (by decide +kernel)
  | 1, _ => exact hg (.eq (.elem (.static "java/lang/Integer" "DigitOnes" "[B") (.int 21)) (.int 49)) (by decide +kernel)
  | 2, _ => exact hg (.eq (.elem (.static "java/lang/Integer" "DigitOnes" "[B") (.int 22)) (.int 50)) (by decide +kernel)
  | 3, _ => exact hg (.eq (.elem (.static "java/lang/Integer" "DigitOnes" "[B") (.int 23)) (.int 51)) (by decide +kernel)
  | 4, _ => exact hg (.eq (.elem (.static "java/lang/Integer" "DigitOnes" "[B") (.int 24)) (.int 52)) (by decide +kernel)
  | 5, _ => exact hg (.eq (.elem (.static "java/lang/Integer" "DigitOnes" "[B") (.int 25)) (.int 53)) (by decide +kernel)
  | 6, _ => exact hg (.eq (.elem (.static "java/lang/Integer" "DigitOnes" "[B") (.int 26)) (.int 54)) (by decide +kernel)
  | 7, _ => exact hg (.eq (.elem (.static "java/lang/Integer" "DigitOnes" "[B") (.int 27)) (.int 55)) (by decide +kernel)
  | 8, _ => exact hg (.eq (.elem (.static "java/lang/Integer" "DigitOnes" "[B") (.int 28)) (.int 56)) (by decide +kernel)
  | 9, _ => exact hg (.eq (.elem (.static "java/lang/Integer" "DigitOnes" "[B") (.int 29)) (.int 57)) (by decide +kernel)
  | 10, _ => exact hg (.eq (.elem (.static "java/lang/Integer" "DigitOnes" "[B") (.int 30)) (.int 48)) (by decide +kernel)
  | 11, _ => exact hg (.eq (.elem (.static "java/lang/Integer" "DigitOnes" "[B") (.int 31)) (.int 49)) (by decide +kernel)
  | 12, _ => exact hg (.eq (.elem (.static "java/lang/Integer" "DigitOnes" "[B") (.int 32)) (.int 50)) (by decide +kernel)
  | 13, _ => exact hg (.eq (.elem (.static "java/lang/Integer" "DigitOnes" "[B") (.int 33)) (.int 51)) (by decide +kernel)
  | 14, _ => exact hg (.eq (.elem (.static "java/lang/Integer" "DigitOnes" "[B") (.int 34)) (.int 52)) (by decide +kernel)
  | 15, _ => exact hg (.eq (.elem (.static "java/lang/Integer" "DigitOnes" "[B") (.int 35)) (.int 53)) (by decide +kernel)
  | 16, _ => exact hg (.eq (.elem (.static "java/lang/Integer" "DigitOnes" "[B") (.int 36)) (.int 54)) (by decide +kernel)
  | 17, _ => exact hg (.eq (.elem (.static "java/lang/Integer" "DigitOnes" "[B") (.int 37)) (.int 55)) (by decide +kernel)
  | 18, _ => exact hg (.eq (.elem (.static "java/lang/Integer" "DigitOnes" "[B") (.int 38)) (.int 56)) (by decide +kernel)
  | 19, _ => exact hg (.eq (.elem (.static "java/lang/Integer" "DigitOnes" "[B") (.int 39)) (.int 57)) (by decide +kernel)
  | j + 20, hj => omega
set_option maxRecDepth 100000 in
set_option maxHeartbeats 4000000 in
theorem dg1_40 {b : Nat} {s : State} (hg : ∀ w ∈ flatC (Jvm.Cond.and given_1 narrow_1), w.before #[Value.ref b] s = true) : ∀ j : Nat, j < 20 → (Cond.eq (.elem (.static "java/lang/Integer" "DigitOnes" "[B") (.int (Int32.ofNat (40 + j)))) (.int ((dg1_l : List Int32).getD (40 + j) 0))).before #[Value.ref b] s = true := by
  intro j hj
  match j, hj with
  | 0, _ => exact hg (.eq (.elem (.static "java/lang/Integer" "DigitOnes" "[B") (.int 40)) (.int 48)) (by decide +kernel)
  | 1, _ => exact hg (.eq (.elem (.static "java/lang/Integer" "DigitOnes" "[B") (.int 41)) (.int 49)) (by decide +kernel)
  | 2, _ => exact hg (.eq (.elem (.static "java/lang/Integer" "DigitOnes" "[B") (.int 42)) (.int 50)) (by decide +kernel)
  | 3, _ => exact hg (.eq (.elem (.static "java/lang/Integer" "DigitOnes" "[B") (.int 43)) (.int 51)) (by decide +kernel)
  | 4, _ => exact hg (.eq (.elem (.static "java/lang/Integer" "DigitOnes" "[B") (.int 44)) (.int 52)) (by decide +kernel)
  | 5, _ => exact hg (.eq (.elem (.static "java/lang/Integer" "DigitOnes" "[B") (.int 45)) (.int 53)) (by decide +kernel)
  | 6, _ => exact hg (.eq (.elem (.static "java/lang/Integer" "DigitOnes" "[B") (.int 46)) (.int 54)) (by decide +kernel)
  | 7, _ => exact hg (.eq (.elem (.static "java/lang/Integer" "DigitOnes" "[B") (.int 47)) (.int 55)) (by decide +kernel)
  | 8, _ => exact hg (.eq (.elem (.static "java/lang/Integer" "DigitOnes" "[B") (.int 48)) (.int 56)) (by decide +kernel)
  | 9, _ => exact hg (.eq (.elem (.static "java/lang/Integer" "DigitOnes" "[B") (.int 49)) (.int 57)) (by decide +kernel)
  | 10, _ => exact hg (.eq (.elem (.static "java/lang/Integer" "DigitOnes" "[B") (.int 50)) (.int 48)) (by decide +kernel)
  | 11, _ => exact hg (.eq (.elem (.static "java/lang/Integer" "DigitOnes" "[B") (.int 51)) (.int 49)) (by decide +kernel)
  | 12, _ => exact hg (.eq (.elem (.static "java/lang/Integer" "DigitOnes" "[B") (.int 52)) (.int 50)) (by decide +kernel)
  | 13, _ => exact hg (.eq (.elem (.static "java/lang/Integer" "DigitOnes" "[B") (.int 53)) (.int 51)) (by decide +kernel)
  | 14, _ => exact hg (.eq (.elem (.static "java/lang/Integer" "DigitOnes" "[B") (.int 54)) (.int 52)) (by decide +kernel)
  | 15, _ => exact hg (.eq (.elem (.static "java/lang/Integer" "DigitOnes" "[B") (.int 55)) (.int 53)) (by decide +kernel)
  | 16, _ => exact hg (.eq (.elem (.static "java/lang/Integer" "DigitOnes" "[B") (.int 56)) (.int 54)) (by decide +kernel)
  | 17, _ => exact hg (.eq (.elem (.static "java/lang/Integer" "DigitOnes" "[B") (.int 57)) (.int 55)) (by decide +kernel)
  | 18, _ => exact hg (.eq (.elem (.static "java/lang/Integer" "DigitOnes" "[B") (.int 58)) (.int 56)) (by decide +kernel)
  | 19, _ => exact hg (.eq (.elem (.static "java/lang/Integer" "DigitOnes" "[B") (.int 59)) (.int 57)) (by decide +kernel)
  | j + 20, hj => omega
set_option maxRecDepth 100000 in
set_option maxHeartbeats 4000000 in
theorem dg1_60 {b : Nat} {s : State} (hg : ∀ w ∈ flatC (Jvm.Cond.and given_1 narrow_1), w.before #[Value.ref b] s = true) : ∀ j : Nat, j < 20 → (Cond.eq (.elem (.static "java/lang/Integer" "DigitOnes" "[B") (.int (Int32.ofNat (60 + j)))) (.int ((dg1_l : List Int32).getD (60 + j) 0))).before #[Value.ref b] s = true := by
  intro j hj
  match j, hj with
  | 0, _ => exact hg (.eq (.elem (.static "java/lang/Integer" "DigitOnes" "[B") (.int 60)) (.int 48)) (by decide +kernel)
  | 1, _ => exact hg (.eq (.elem (.static "java/lang/Integer" "DigitOnes" "[B") (.int 61)) (.int 49)) (by decide +kernel)
  | 2, _ => exact hg (.eq (.elem (.static "java/lang/Integer" "DigitOnes" "[B") (.int 62)) (.int 50)) (by decide +kernel)
  | 3, _ => exact hg (.eq (.elem (.static "java/lang/Integer" "DigitOnes" "[B") (.int 63)) (.int 51)) (by decide +kernel)
  | 4, _ => exact hg (.eq (.elem (.static "java/lang/Integer" "DigitOnes" "[B") (.int 64)) (.int 52)) (by decide +kernel)
  | 5, _ => exact hg (.eq (.elem (.static "java/lang/Integer" "DigitOnes" "[B") (.int 65)) (.int 53)) (by decide +kernel)
  | 6, _ => exact hg (.eq (.elem (.static "java/lang/Integer" "DigitOnes" "[B") (.int 66)) (.int 54)) (by decide +kernel)
  | 7, _ => exact hg (.eq (.elem (.static "java/lang/Integer" "DigitOnes" "[B") (.int 67)) (.int 55)) (by decide +kernel)
  | 8, _ => exact hg (.eq (.elem (.static "java/lang/Integer" "DigitOnes" "[B") (.int 68)) (.int 56)) (by decide +kernel)
  | 9, _ => exact hg (.eq (.elem (.static "java/lang/Integer" "DigitOnes" "[B") (.int 69)) (.int 57)) (by decide +kernel)
  | 10, _ => exact hg (.eq (.elem (.static "java/lang/Integer" "DigitOnes" "[B") (.int 70)) (.int 48)) (by decide +kernel)
  | 11, _ => exact hg (.eq (.elem (.static "java/lang/Integer" "DigitOnes" "[B") (.int 71)) (.int 49)) (by decide +kernel)
  | 12, _ => exact hg (.eq (.elem (.static "java/lang/Integer" "DigitOnes" "[B") (.int 72)) (.int 50)) (by decide +kernel)
  | 13, _ => exact hg (.eq (.elem (.static "java/lang/Integer" "DigitOnes" "[B") (.int 73)) (.int 51)) (by decide +kernel)
  | 14, _ => exact hg (.eq (.elem (.static "java/lang/Integer" "DigitOnes" "[B") (.int 74)) (.int 52)) (by decide +kernel)
  | 15, _ => exact hg (.eq (.elem (.static "java/lang/Integer" "DigitOnes" "[B") (.int 75)) (.int 53)) (by decide +kernel)
  | 16, _ => exact hg (.eq (.elem (.static "java/lang/Integer" "DigitOnes" "[B") (.int 76)) (.int 54)) (by decide +kernel)
  | 17, _ => exact hg (.eq (.elem (.static "java/lang/Integer" "DigitOnes" "[B") (.int 77)) (.int 55)) (by decide +kernel)
  | 18, _ => exact hg (.eq (.elem (.static "java/lang/Integer" "DigitOnes" "[B") (.int 78)) (.int 56)) (by decide +kernel)
  | 19, _ => exact hg (.eq (.elem (.static "java/lang/Integer" "DigitOnes" "[B") (.int 79)) (.int 57)) (by decide +kernel)
  | j + 20, hj => omega
set_option maxRecDepth 100000 in
set_option maxHeartbeats 4000000 in
theorem dg1_80 {b : Nat} {s : State} (hg : ∀ w ∈ flatC (Jvm.Cond.and given_1 narrow_1), w.before #[Value.ref b] s = true) : ∀ j : Nat, j < 20 → (Cond.eq (.elem (.static "java/lang/Integer" "DigitOnes" "[B") (.int (Int32.ofNat (80 + j)))) (.int ((dg1_l : List Int32).getD (80 + j) 0))).before #[Value.ref b] s = true := by
  intro j hj
  match j, hj with
  | 0, _ => exact hg (.eq (.elem (.static "java/lang/Integer" "DigitOnes" "[B") (.int 80)) (.int 48)) (by decide +kernel)
  | 1, _ => exact hg (.eq (.elem (.static "java/lang/Integer" "DigitOnes" "[B") (.int 81)) (.int 49)) (by decide +kernel)
  | 2, _ => exact hg (.eq (.elem (.static "java/lang/Integer" "DigitOnes" "[B") (.int 82)) (.int 50)) (by decide +kernel)
  | 3, _ => exact hg (.eq (.elem (.static "java/lang/Integer" "DigitOnes" "[B") (.int 83)) (.int 51)) (by decide +kernel)
  | 4, _ => exact hg (.eq (.elem (.static "java/lang/Integer" "DigitOnes" "[B") (.int 84)) (.int 52)) (by decide +kernel)
  | 5, _ => exact hg (.eq (.elem (.static "java/lang/Integer" "DigitOnes" "[B") (.int 85)) (.int 53)) (by decide +kernel)
  | 6, _ => exact hg (.eq (.elem (.static "java/lang/Integer" "DigitOnes" "[B") (.int 86)) (.int 54)) (by decide +kernel)
  | 7, _ => exact hg (.eq (.elem (.static "java/lang/Integer" "DigitOnes" "[B") (.int 87)) (.int 55)) (by decide +kernel)
  | 8, _ => exact hg (.eq (.elem (.static "java/lang/Integer" "DigitOnes" "[B") (.int 88)) (.int 56)) (by decide +kernel)
  | 9, _ => exact hg (.eq (.elem (.static "java/lang/Integer" "DigitOnes" "[B") (.int 89)) (.int 57)) (by decide +kernel)
  | 10, _ => exact hg (.eq (.elem (.static "java/lang/Integer" "DigitOnes" "[B") (.int 90)) (.int 48)) (by decide +kernel)
  | 11, _ => exact hg (.eq (.elem (.static "java/lang/Integer" "DigitOnes" "[B") (.int 91)) (.int 49)) (by decide +kernel)
  | 12, _ => exact hg (.eq (.elem (.static "java/lang/Integer" "DigitOnes" "[B") (.int 92)) (.int 50)) (by decide +kernel)
  | 13, _ => exact hg (.eq (.elem (.static "java/lang/Integer" "DigitOnes" "[B") (.int 93)) (.int 51)) (by decide +kernel)
  | 14, _ => exact hg (.eq (.elem (.static "java/lang/Integer" "DigitOnes" "[B") (.int 94)) (.int 52)) (by decide +kernel)
  | 15, _ => exact hg (.eq (.elem (.static "java/lang/Integer" "DigitOnes" "[B") (.int 95)) (.int 53)) (by decide +kernel)
  | 16, _ => exact hg (.eq (.elem (.static "java/lang/Integer" "DigitOnes" "[B") (.int 96)) (.int 54)) (by decide +kernel)
  | 17, _ => exact hg (.eq (.elem (.static "java/lang/Integer" "DigitOnes" "[B") (.int 97)) (.int 55)) (by decide +kernel)
  | 18, _ => exact hg (.eq (.elem (.static "java/lang/Integer" "DigitOnes" "[B") (.int 98)) (.int 56)) (by decide +kernel)
  | 19, _ => exact hg (.eq (.elem (.static "java/lang/Integer" "DigitOnes" "[B") (.int 99)) (.int 57)) (by decide +kernel)
  | j + 20, hj => omega
def dg2_l : List Int32 := [48, 48, 48, 48, 48, 48, 48, 48, 48, 48, 49, 49, 49, 49, 49, 49, 49, 49, 49, 49, 50, 50, 50, 50, 50, 50, 50, 50, 50, 50, 51, 51, 51, 51, 51, 51, 51, 51, 51, 51, 52, 52, 52, 52, 52, 52, 52, 52, 52, 52, 53, 53, 53, 53, 53, 53, 53, 53, 53, 53, 54, 54, 54, 54, 54, 54, 54, 54, 54, 54, 55, 55, 55, 55, 55, 55, 55, 55, 55, 55, 56, 56, 56, 56, 56, 56, 56, 56, 56, 56, 57, 57, 57, 57, 57, 57, 57, 57, 57, 57]
set_option maxRecDepth 100000 in
set_option maxHeartbeats 4000000 in
theorem dg2_0 {b : Nat} {s : State} (hg : ∀ w ∈ flatC (Jvm.Cond.and given_1 narrow_1), w.before #[Value.ref b] s = true) : ∀ j : Nat, j < 20 → (Cond.eq (.elem (.static "java/lang/Integer" "DigitTens" "[B") (.int (Int32.ofNat (0 + j)))) (.int ((dg2_l : List Int32).getD (0 + j) 0))).before #[Value.ref b] s = true := by
  intro j hj
  match j, hj with
  | 0, _ => exact hg (.eq (.elem (.static "java/lang/Integer" "DigitTens" "[B") (.int 0)) (.int 48)) (by decide +kernel)
  | 1, _ => exact hg (.eq (.elem (.static "java/lang/Integer" "DigitTens" "[B") (.int 1)) (.int 48)) (by decide +kernel)
  | 2, _ => exact hg (.eq (.elem (.static "java/lang/Integer" "DigitTens" "[B") (.int 2)) (.int 48)) (by decide +kernel)
  | 3, _ => exact hg (.eq (.elem (.static "java/lang/Integer" "DigitTens" "[B") (.int 3)) (.int 48)) (by decide +kernel)
  | 4, _ => exact hg (.eq (.elem (.static "java/lang/Integer" "DigitTens" "[B") (.int 4)) (.int 48)) (by decide +kernel)
  | 5, _ => exact hg (.eq (.elem (.static "java/lang/Integer" "DigitTens" "[B") (.int 5)) (.int 48)) (by decide +kernel)
  | 6, _ => exact hg (.eq (.elem (.static "java/lang/Integer" "DigitTens" "[B") (.int 6)) (.int 48)) (by decide +kernel)
  | 7, _ => exact hg (.eq (.elem (.static "java/lang/Integer" "DigitTens" "[B") (.int 7)) (.int 48)) (by decide +kernel)
  | 8, _ => exact hg (.eq (.elem (.static "java/lang/Integer" "DigitTens" "[B") (.int 8)) (.int 48)) (by decide +kernel)
  | 9, _ => exact hg (.eq (.elem (.static "java/lang/Integer" "DigitTens" "[B") (.int 9)) (.int 48)) (by decide +kernel)
  | 10, _ => exact hg (.eq (.elem (.static "java/lang/Integer" "DigitTens" "[B") (.int 10)) (.int 49)) (by decide +kernel)
  | 11, _ => exact hg (.eq (.elem (.static "java/lang/Integer" "DigitTens" "[B") (.int 11)) (.int 49)) (by decide +kernel)
  | 12, _ => exact hg (.eq (.elem (.static "java/lang/Integer" "DigitTens" "[B") (.int 12)) (.int 49)) (by decide +kernel)
  | 13, _ => exact hg (.eq (.elem (.static "java/lang/Integer" "DigitTens" "[B") (.int 13)) (.int 49)) (by decide +kernel)
  | 14, _ => exact hg (.eq (.elem (.static "java/lang/Integer" "DigitTens" "[B") (.int 14)) (.int 49)) (by decide +kernel)
  | 15, _ => exact hg (.eq (.elem (.static "java/lang/Integer" "DigitTens" "[B") (.int 15)) (.int 49)) (by decide +kernel)
  | 16, _ => exact hg (.eq (.elem (.static "java/lang/Integer" "DigitTens" "[B") (.int 16)) (.int 49)) (by decide +kernel)
  | 17, _ => exact hg (.eq (.elem (.static "java/lang/Integer" "DigitTens" "[B") (.int 17)) (.int 49)) (by decide +kernel)
  | 18, _ => exact hg (.eq (.elem (.static "java/lang/Integer" "DigitTens" "[B") (.int 18)) (.int 49)) (by decide +kernel)
  | 19, _ => exact hg (.eq (.elem (.static "java/lang/Integer" "DigitTens" "[B") (.int 19)) (.int 49)) (by decide +kernel)
  | j + 20, hj => omega
set_option maxRecDepth 100000 in
set_option maxHeartbeats 4000000 in
theorem dg2_20 {b : Nat} {s : State} (hg : ∀ w ∈ flatC (Jvm.Cond.and given_1 narrow_1), w.before #[Value.ref b] s = true) : ∀ j : Nat, j < 20 → (Cond.eq (.elem (.static "java/lang/Integer" "DigitTens" "[B") (.int (Int32.ofNat (20 + j)))) (.int ((dg2_l : List Int32).getD (20 + j) 0))).before #[Value.ref b] s = true := by
  intro j hj
  match j, hj with
  | 0, _ => exact hg (.eq (.elem (.static "java/lang/Integer" "DigitTens" "[B") (.int 20)) (.int 50)) (by decide +kernel)
  | 1, _ => exact hg (.eq (.elem (.static "java/lang/Integer" "DigitTens" "[B") (.int 21)) (.int 50)) (by decide +kernel)
  | 2, _ => exact hg (.eq (.elem (.static "java/lang/Integer" "DigitTens" "[B") (.int 22)) (.int 50)) (by decide +kernel)
  | 3, _ => exact hg (.eq (.elem (.static "java/lang/Integer" "DigitTens" "[B") (.int 23)) (.int 50)) (by decide +kernel)
  | 4, _ => exact hg (.eq (.elem (.static "java/lang/Integer" "DigitTens" "[B") (.int 24)) (.int 50)) (by decide +kernel)
  | 5, _ => exact hg (.eq (.elem (.static "java/lang/Integer" "DigitTens" "[B") (.int 25)) (.int 50)) (by decide +kernel)
  | 6, _ => exact hg (.eq (.elem (.static "java/lang/Integer" "DigitTens" "[B") (.int 26)) (.int 50)) (by decide +kernel)
  | 7, _ => exact hg (.eq (.elem (.static "java/lang/Integer" "DigitTens" "[B") (.int 27)) (.int 50)) (by decide +kernel)
  | 8, _ => exact hg (.eq (.elem (.static "java/lang/Integer" "DigitTens" "[B") (.int 28)) (.int 50)) (by decide +kernel)
  | 9, _ => exact hg (.eq (.elem (.static "java/lang/Integer" "DigitTens" "[B") (.int 29)) (.int 50)) (by decide +kernel)
  | 10, _ => exact hg (.eq (.elem (.static "java/lang/Integer" "DigitTens" "[B") (.int 30)) (.int 51)) (by decide +kernel)
  | 11, _ => exact hg (.eq (.elem (.static "java/lang/Integer" "DigitTens" "[B") (.int 31)) (.int 51)) (by decide +kernel)
  | 12, _ => exact hg (.eq (.elem (.static "java/lang/Integer" "DigitTens" "[B") (.int 32)) (.int 51)) (by decide +kernel)
  | 13, _ => exact hg (.eq (.elem (.static "java/lang/Integer" "DigitTens" "[B") (.int 33)) (.int 51)) (by decide +kernel)
  | 14, _ => exact hg (.eq (.elem (.static "java/lang/Integer" "DigitTens" "[B") (.int 34)) (.int 51)) (by decide +kernel)
  | 15, _ => exact hg (.eq (.elem (.static "java/lang/Integer" "DigitTens" "[B") (.int 35)) (.int 51)) (by decide +kernel)
  | 16, _ => exact hg (.eq (.elem (.static "java/lang/Integer" "DigitTens" "[B") (.int 36)) (.int 51)) (by decide +kernel)
  | 17, _ => exact hg (.eq (.elem (.static "java/lang/Integer" "DigitTens" "[B") (.int 37)) (.int 51)) (by decide +kernel)
  | 18, _ => exact hg (.eq (.elem (.static "java/lang/Integer" "DigitTens" "[B") (.int 38)) (.int 51)) (by decide +kernel)
  | 19, _ => exact hg (.eq (.elem (.static "java/lang/Integer" "DigitTens" "[B") (.int 39)) (.int 51)) (by decide +kernel)
  | j + 20, hj => omega
set_option maxRecDepth 100000 in
set_option maxHeartbeats 4000000 in
theorem dg2_40 {b : Nat} {s : State} (hg : ∀ w ∈ flatC (Jvm.Cond.and given_1 narrow_1), w.before #[Value.ref b] s = true) : ∀ j : Nat, j < 20 → (Cond.eq (.elem (.static "java/lang/Integer" "DigitTens" "[B") (.int (Int32.ofNat (40 + j)))) (.int ((dg2_l : List Int32).getD (40 + j) 0))).before #[Value.ref b] s = true := by
  intro j hj
  match j, hj with
  | 0, _ => exact hg (.eq (.elem (.static "java/lang/Integer" "DigitTens" "[B") (.int 40)) (.int 52)) (by decide +kernel)
  | 1, _ => exact hg (.eq (.elem (.static "java/lang/Integer" "DigitTens" "[B") (.int 41)) (.int 52)) (by decide +kernel)
  | 2, _ => exact hg (.eq (.elem (.static "java/lang/Integer" "DigitTens" "[B") (.int 42)) (.int 52)) (by decide +kernel)
  | 3, _ => exact hg (.eq (.elem (.static "java/lang/Integer" "DigitTens" "[B") (.int 43)) (.int 52)) (by decide +kernel)
  | 4, _ => exact hg (.eq (.elem (.static "java/lang/Integer" "DigitTens" "[B") (.int 44)) (.int 52)) (by decide +kernel)
  | 5, _ => exact hg (.eq (.elem (.static "java/lang/Integer" "DigitTens" "[B") (.int 45)) (.int 52)) (by decide +kernel)
  | 6, _ => exact hg (.eq (.elem (.static "java/lang/Integer" "DigitTens" "[B") (.int 46)) (.int 52)) (by decide +kernel)
  | 7, _ => exact hg (.eq (.elem (.static "java/lang/Integer" "DigitTens" "[B") (.int 47)) (.int 52)) (by decide +kernel)
  | 8, _ => exact hg (.eq (.elem (.static "java/lang/Integer" "DigitTens" "[B") (.int 48)) (.int 52)) (by decide +kernel)
  | 9, _ => exact hg (.eq (.elem (.static "java/lang/Integer" "DigitTens" "[B") (.int 49)) (.int 52)) (by decide +kernel)
  | 10, _ => exact hg (.eq (.elem (.static "java/lang/Integer" "DigitTens" "[B") (.int 50)) (.int 53)) (by decide +kernel)
  | 11, _ => exact hg (.eq (.elem (.static "java/lang/Integer" "DigitTens" "[B") (.int 51)) (.int 53)) (by decide +kernel)
  | 12, _ => exact hg (.eq (.elem (.static "java/lang/Integer" "DigitTens" "[B") (.int 52)) (.int 53)) (by decide +kernel)
  | 13, _ => exact hg (.eq (.elem (.static "java/lang/Integer" "DigitTens" "[B") (.int 53)) (.int 53)) (by decide +kernel)
  | 14, _ => exact hg (.eq (.elem (.static "java/lang/Integer" "DigitTens" "[B") (.int 54)) (.int 53)) (by decide +kernel)
  | 15, _ => exact hg (.eq (.elem (.static "java/lang/Integer" "DigitTens" "[B") (.int 55)) (.int 53)) (by decide +kernel)
  | 16, _ => exact hg (.eq (.elem (.static "java/lang/Integer" "DigitTens" "[B") (.int 56)) (.int 53)) (by decide +kernel)
  | 17, _ => exact hg (.eq (.elem (.static "java/lang/Integer" "DigitTens" "[B") (.int 57)) (.int 53)) (by decide +kernel)
  | 18, _ => exact hg (.eq (.elem (.static "java/lang/Integer" "DigitTens" "[B") (.int 58)) (.int 53)) (by decide +kernel)
  | 19, _ => exact hg (.eq (.elem (.static "java/lang/Integer" "DigitTens" "[B") (.int 59)) (.int 53)) (by decide +kernel)
  | j + 20, hj => omega
set_option maxRecDepth 100000 in
set_option maxHeartbeats 4000000 in
theorem dg2_60 {b : Nat} {s : State} (hg : ∀ w ∈ flatC (Jvm.Cond.and given_1 narrow_1), w.before #[Value.ref b] s = true) : ∀ j : Nat, j < 20 → (Cond.eq (.elem (.static "java/lang/Integer" "DigitTens" "[B") (.int (Int32.ofNat (60 + j)))) (.int ((dg2_l : List Int32).getD (60 + j) 0))).before #[Value.ref b] s = true := by
  intro j hj
  match j, hj with
  | 0, _ => exact hg (.eq (.elem (.static "java/lang/Integer" "DigitTens" "[B") (.int 60)) (.int 54)) (by decide +kernel)
  | 1, _ => exact hg (.eq (.elem (.static "java/lang/Integer" "DigitTens" "[B") (.int 61)) (.int 54)) (by decide +kernel)
  | 2, _ => exact hg (.eq (.elem (.static "java/lang/Integer" "DigitTens" "[B") (.int 62)) (.int 54)) (by decide +kernel)
  | 3, _ => exact hg (.eq (.elem (.static "java/lang/Integer" "DigitTens" "[B") (.int 63)) (.int 54)) (by decide +kernel)
  | 4, _ => exact hg (.eq (.elem (.static "java/lang/Integer" "DigitTens" "[B") (.int 64)) (.int 54)) (by decide +kernel)
  | 5, _ => exact hg (.eq (.elem (.static "java/lang/Integer" "DigitTens" "[B") (.int 65)) (.int 54)) (by decide +kernel)
  | 6, _ => exact hg (.eq (.elem (.static "java/lang/Integer" "DigitTens" "[B") (.int 66)) (.int 54)) (by decide +kernel)
  | 7, _ => exact hg (.eq (.elem (.static "java/lang/Integer" "DigitTens" "[B") (.int 67)) (.int 54)) (by decide +kernel)
  | 8, _ => exact hg (.eq (.elem (.static "java/lang/Integer" "DigitTens" "[B") (.int 68)) (.int 54)) (by decide +kernel)
  | 9, _ => exact hg (.eq (.elem (.static "java/lang/Integer" "DigitTens" "[B") (.int 69)) (.int 54)) (by decide +kernel)
  | 10, _ => exact hg (.eq (.elem (.static "java/lang/Integer" "DigitTens" "[B") (.int 70)) (.int 55)) (by decide +kernel)
  | 11, _ => exact hg (.eq (.elem (.static "java/lang/Integer" "DigitTens" "[B") (.int 71)) (.int 55)) (by decide +kernel)
  | 12, _ => exact hg (.eq (.elem (.static "java/lang/Integer" "DigitTens" "[B") (.int 72)) (.int 55)) (by decide +kernel)
  | 13, _ => exact hg (.eq (.elem (.static "java/lang/Integer" "DigitTens" "[B") (.int 73)) (.int 55)) (by decide +kernel)
  | 14, _ => exact hg (.eq (.elem (.static "java/lang/Integer" "DigitTens" "[B") (.int 74)) (.int 55)) (by decide +kernel)
  | 15, _ => exact hg (.eq (.elem (.static "java/lang/Integer" "DigitTens" "[B") (.int 75)) (.int 55)) (by decide +kernel)
  | 16, _ => exact hg (.eq (.elem (.static "java/lang/Integer" "DigitTens" "[B") (.int 76)) (.int 55)) (by decide +kernel)
  | 17, _ => exact hg (.eq (.elem (.static "java/lang/Integer" "DigitTens" "[B") (.int 77)) (.int 55)) (by decide +kernel)
  | 18, _ => exact hg (.eq (.elem (.static "java/lang/Integer" "DigitTens" "[B") (.int 78)) (.int 55)) (by decide +kernel)
  | 19, _ => exact hg (.eq (.elem (.static "java/lang/Integer" "DigitTens" "[B") (.int 79)) (.int 55)) (by decide +kernel)
  | j + 20, hj => omega
set_option maxRecDepth 100000 in
set_option maxHeartbeats 4000000 in
theorem dg2_80 {b : Nat} {s : State} (hg : ∀ w ∈ flatC (Jvm.Cond.and given_1 narrow_1), w.before #[Value.ref b] s = true) : ∀ j : Nat, j < 20 → (Cond.eq (.elem (.static "java/lang/Integer" "DigitTens" "[B") (.int (Int32.ofNat (80 + j)))) (.int ((dg2_l : List Int32).getD (80 + j) 0))).before #[Value.ref b] s = true := by
  intro j hj
  match j, hj with
  | 0, _ => exact hg (.eq (.elem (.static "java/lang/Integer" "DigitTens" "[B") (.int 80)) (.int 56)) (by decide +kernel)
  | 1, _ => exact hg (.eq (.elem (.static "java/lang/Integer" "DigitTens" "[B") (.int 81)) (.int 56)) (by decide +kernel)
  | 2, _ => exact hg (.eq (.elem (.static "java/lang/Integer" "DigitTens" "[B") (.int 82)) (.int 56)) (by decide +kernel)
  | 3, _ => exact hg (.eq (.elem (.static "java/lang/Integer" "DigitTens" "[B") (.int 83)) (.int 56)) (by decide +kernel)
  | 4, _ => exact hg (.eq (.elem (.static "java/lang/Integer" "DigitTens" "[B") (.int 84)) (.int 56)) (by decide +kernel)
  | 5, _ => exact hg (.eq (.elem (.static "java/lang/Integer" "DigitTens" "[B") (.int 85)) (.int 56)) (by decide +kernel)
  | 6, _ => exact hg (.eq (.elem (.static "java/lang/Integer" "DigitTens" "[B") (.int 86)) (.int 56)) (by decide +kernel)
  | 7, _ => exact hg (.eq (.elem (.static "java/lang/Integer" "DigitTens" "[B") (.int 87)) (.int 56)) (by decide +kernel)
  | 8, _ => exact hg (.eq (.elem (.static "java/lang/Integer" "DigitTens" "[B") (.int 88)) (.int 56)) (by decide +kernel)
  | 9, _ => exact hg (.eq (.elem (.static "java/lang/Integer" "DigitTens" "[B") (.int 89)) (.int 56)) (by decide +kernel)
  | 10, _ => exact hg (.eq (.elem (.static "java/lang/Integer" "DigitTens" "[B") (.int 90)) (.int 57)) (by decide +kernel)
  | 11, _ => exact hg (.eq (.elem (.static "java/lang/Integer" "DigitTens" "[B") (.int 91)) (.int 57)) (by decide +kernel)
  | 12, _ => exact hg (.eq (.elem (.static "java/lang/Integer" "DigitTens" "[B") (.int 92)) (.int 57)) (by decide +kernel)
  | 13, _ => exact hg (.eq (.elem (.static "java/lang/Integer" "DigitTens" "[B") (.int 93)) (.int 57)) (by decide +kernel)
  | 14, _ => exact hg (.eq (.elem (.static "java/lang/Integer" "DigitTens" "[B") (.int 94)) (.int 57)) (by decide +kernel)
  | 15, _ => exact hg (.eq (.elem (.static "java/lang/Integer" "DigitTens" "[B") (.int 95)) (.int 57)) (by decide +kernel)
  | 16, _ => exact hg (.eq (.elem (.static "java/lang/Integer" "DigitTens" "[B") (.int 96)) (.int 57)) (by decide +kernel)
  | 17, _ => exact hg (.eq (.elem (.static "java/lang/Integer" "DigitTens" "[B") (.int 97)) (.int 57)) (by decide +kernel)
  | 18, _ => exact hg (.eq (.elem (.static "java/lang/Integer" "DigitTens" "[B") (.int 98)) (.int 57)) (by decide +kernel)
  | 19, _ => exact hg (.eq (.elem (.static "java/lang/Integer" "DigitTens" "[B") (.int 99)) (.int 57)) (by decide +kernel)
  | j + 20, hj => omega
set_option maxRecDepth 100000 in
set_option maxHeartbeats 4000000 in
theorem dg1_all {p : Program} {s : State} {m : MethodId} {meth : Method} {c : Code} {b L : Nat} {xs : Nat → Int32} (C0 : lw_At p s m meth c b L xs) : ∃ t : Nat, va_Z "java/lang/Integer" "DigitOnes" "[B" (.ref t) (Fr s.heap.size) s s.heap ∧ va_T .byte t 100 (fun j => .int ((dg1_l).getD j 0)) (Fr s.heap.size) s s.heap := by
  obtain ⟨hx, hb, hr, hml, hown, hts, hX, hbl, hlocks, hgv⟩ := id C0
  have hg := flat_of_before _ hgv
  have hA : ∀ a : Nat, a < s.heap.size → ¬ Fr s.heap.size a := fun a h q => absurd q (Nat.not_le.mpr h)
  obtain ⟨t, h1, h2⟩ := va_Tof (args := #[Value.ref b]) (s := s) (tm := (.static "java/lang/Integer" "DigitOnes" "[B")) (ty := .byte) (N := 100) (f := fun j => .int ((dg1_l).getD j 0)) (A := Fr s.heap.size) (by decide) (hg (.arrayOf (.static "java/lang/Integer" "DigitOnes" "[B") .byte) (by decide +kernel)) (te_int (hg (.eq (.length (.static "java/lang/Integer" "DigitOnes" "[B")) (.int 100)) (by decide +kernel))) (fun j hj => by
    refine te_int ?_
    by_cases h0 : j < 20
    · have h := dg1_0 hg j h0; simpa using h
    by_cases h1 : j < 40
    · have h := dg1_20 hg (j - 20) (by omega); rw [show 20 + (j - 20) = j by omega] at h; exact h
    by_cases h2 : j < 60
    · have h := dg1_40 hg (j - 40) (by omega); rw [show 40 + (j - 40) = j by omega] at h; exact h
    by_cases h3 : j < 80
    · have h := dg1_60 hg (j - 60) (by omega); rw [show 60 + (j - 60) = j by omega] at h; exact h
    have h := dg1_80 hg (j - 80) (by omega); rw [show 80 + (j - 80) = j by omega] at h; exact h) hA
  exact ⟨t, va_Zof (hts (.laysStatic "java/lang/Integer" "DigitOnes" "[B") (by decide +kernel)) (hts (.initialized "java/lang/Integer") (by decide +kernel)) h1 hA, h2⟩
set_option maxRecDepth 100000 in
set_option maxHeartbeats 4000000 in
theorem dg2_all {p : Program} {s : State} {m : MethodId} {meth : Method} {c : Code} {b L : Nat} {xs : Nat → Int32} (C0 : lw_At p s m meth c b L xs) : ∃ t : Nat, va_Z "java/lang/Integer" "DigitTens" "[B" (.ref t) (Fr s.heap.size) s s.heap ∧ va_T .byte t 100 (fun j => .int ((dg2_l).getD j 0)) (Fr s.heap.size) s s.heap := by
  obtain ⟨hx, hb, hr, hml, hown, hts, hX, hbl, hlocks, hgv⟩ := id C0
  have hg := flat_of_before _ hgv
  have hA : ∀ a : Nat, a < s.heap.size → ¬ Fr s.heap.size a := fun a h q => absurd q (Nat.not_le.mpr h)
  obtain ⟨t, h1, h2⟩ := va_Tof (args := #[Value.ref b]) (s := s) (tm := (.static "java/lang/Integer" "DigitTens" "[B")) (ty := .byte) (N := 100) (f := fun j => .int ((dg2_l).getD j 0)) (A := Fr s.heap.size) (by decide) (hg (.arrayOf (.static "java/lang/Integer" "DigitTens" "[B") .byte) (by decide +kernel)) (te_int (hg (.eq (.length (.static "java/lang/Integer" "DigitTens" "[B")) (.int 100)) (by decide +kernel))) (fun j hj => by
    refine te_int ?_
    by_cases h0 : j < 20
    · have h := dg2_0 hg j h0; simpa using h
    by_cases h1 : j < 40
    · have h := dg2_20 hg (j - 20) (by omega); rw [show 20 + (j - 20) = j by omega] at h; exact h
    by_cases h2 : j < 60
    · have h := dg2_40 hg (j - 40) (by omega); rw [show 40 + (j - 40) = j by omega] at h; exact h
    by_cases h3 : j < 80
    · have h := dg2_60 hg (j - 60) (by omega); rw [show 60 + (j - 60) = j by omega] at h; exact h
    have h := dg2_80 hg (j - 80) (by omega); rw [show 80 + (j - 80) = j by omega] at h; exact h) hA
  exact ⟨t, va_Zof (hts (.laysStatic "java/lang/Integer" "DigitTens" "[B") (by decide +kernel)) (hts (.initialized "java/lang/Integer") (by decide +kernel)) h1 hA, h2⟩
set_option maxHeartbeats 4000000 in
set_option maxRecDepth 100000 in
theorem en_start {p : Program} {s : State} {m : MethodId} {meth : Method} {c : Code} {b L : Nat} {xs : Nat → Int32} (C0 : lw_At p s m meth c b L xs) : ∃ (D : va_G) (cy : Nat → ClassId) (sa : Nat → Nat), En D cy s.heap.size sa s ∧ Xn s.heap.size sa s s.heap ∧ Xw sa s := by
  obtain ⟨hx, hb, hr, hml, hown, hts, hX, hbl, hlocks, hgv⟩ := id C0
  have hg := flat_of_before _ hgv
  have hA : ∀ a : Nat, a < s.heap.size → ¬ Fr s.heap.size a := fun a h q => absurd q (Nat.not_le.mpr h)
  obtain ⟨D, hD⟩ := cls_all C0
  obtain ⟨k0, v0, hS0, hR0⟩ := emp_1 C0
  obtain ⟨kt, vt, hSt, hRt⟩ := emp_t C0
  obtain ⟨kf, vf, hSf, hRf⟩ := emp_f C0
  obtain ⟨kn, vn, hSn, hRn⟩ := emp_n C0
  obtain ⟨t1, hz1, ht1⟩ := dg1_all C0
  obtain ⟨t2, hz2, ht2⟩ := dg2_all C0
  have hT := txt_all C0
  obtain ⟨y0, a0⟩ := arr_p (fun C h => by cases h) (hts (.arrayClass .int) (by decide +kernel))
  obtain ⟨y1, a1⟩ := arr_p (fun C h => by cases h) (hts (.arrayClass .long) (by decide +kernel))
  obtain ⟨y2, a2⟩ := arr_p (fun C h => by cases h) (hts (.arrayClass .boolean) (by decide +kernel))
  obtain ⟨y3, a3⟩ := arr_p (fun C h => by cases h) (hts (.arrayClass .double) (by decide +kernel))
  obtain ⟨y4, a4⟩ := arr_p (fun C h => by cases h) (hts (.arrayClass .char) (by decide +kernel))
  obtain ⟨y5, a5⟩ := arr_p (fun C h => by cases h) (hts (.arrayClass .byte) (by decide +kernel))
  obtain ⟨y6, a6⟩ := arr_o (hts (.arrayOver (.object "PhraseDesk$Value")) (by decide +kernel))
  obtain ⟨y7, a7⟩ := arr_o (hts (.arrayOver (.object "PhraseDesk$Node")) (by decide +kernel))
  obtain ⟨y8, a8⟩ := arr_o (hts (.arrayOver (.object "PhraseDesk$Family")) (by decide +kernel))
  obtain ⟨y9, a9⟩ := arr_o (hts (.arrayOver (.object "PhraseDesk$Routine")) (by decide +kernel))
  obtain ⟨y10, a10⟩ := arr_o (hts (.arrayOver (.object "PhraseDesk$Field")) (by decide +kernel))
  obtain ⟨f, hf⟩ : ∃ f : Nat → Nat, ∀ q ∈ TXT, vk_R RX11 q.1 q.2 (f q.1) s := by
    have h0 : ∀ k : Nat, ∃ a : Nat, ∀ q ∈ TXT, q.1 = k → vk_R RX11 q.1 q.2 a s := by
      intro k
      by_cases h : ∃ q ∈ TXT, q.1 = k
      · obtain ⟨q, hq, e⟩ := h
        obtain ⟨a, ha⟩ := hT q hq
        exact ⟨a, fun r hr er => by rw [txt_u r hr q hq (er.trans e.symm)]; exact ha⟩
      · exact ⟨0, fun q hq e => absurd ⟨q, hq, e⟩ h⟩
    obtain ⟨f, hf⟩ := Classical.axiomOfChoice h0
    exact ⟨f, fun q hq => hf q.1 q hq rfl⟩
  have hne : ∀ q ∈ TXT, ¬ q.1 = 0 ∧ ¬ q.1 = 1 ∧ q.1 < 400 := by decide +kernel
  obtain ⟨g, hgc⟩ : ∃ g : Nat → Nat × Nat, ∀ k : Nat, (k = k0 ∨ k = kt ∨ k = kf ∨ k = kn) → (g k).1 ≤ 8 ∧ ∃ b9 : List Int32, (∀ j, fits .byte (.int (b9.getD j 0)) = true) ∧ vk_S 1 [(g k).1] [b9] (fun _ => k) (fun _ => (g k).2) (Fr s.heap.size) s s.heap := by
    have h0 : ∀ k : Nat, ∃ w : Nat × Nat, (k = k0 ∨ k = kt ∨ k = kf ∨ k = kn) → w.1 ≤ 8 ∧ ∃ b9 : List Int32, (∀ j, fits .byte (.int (b9.getD j 0)) = true) ∧ vk_S 1 [w.1] [b9] (fun _ => k) (fun _ => w.2) (Fr s.heap.size) s s.heap := by
      intro k
      by_cases h : k = k0 ∨ k = kt ∨ k = kf ∨ k = kn
      · rcases h with rfl | rfl | rfl | rfl
        · exact ⟨(0, v0), fun _ => ⟨by show (0 : Nat) ≤ 8; decide, [], by8 [] (by decide), hS0⟩⟩
        · exact ⟨(4, vt), fun _ => ⟨by show (4 : Nat) ≤ 8; decide, _, by8 _ (by decide), hSt⟩⟩
        · exact ⟨(5, vf), fun _ => ⟨by show (5 : Nat) ≤ 8; decide, _, by8 _ (by decide), hSf⟩⟩
        · exact ⟨(4, vn), fun _ => ⟨by show (4 : Nat) ≤ 8; decide, _, by8 _ (by decide), hSn⟩⟩
      · exact ⟨(0, 0), fun h1 => absurd h1 h⟩
    obtain ⟨g, hgg⟩ := Classical.axiomOfChoice h0
    exact ⟨g, hgg⟩
  obtain ⟨sa, hsa⟩ : ∃ sa : Nat → Nat, sa = fun n => if n = 0 then k0 else if n = 1 then v0 else if n < 400 then f n else if n = 400 then kt else if n = 401 then kf else if n = 402 then kn else if n = 420 then t1 else if n = 421 then t2 else if n % 2 = 0 then (g ((n - 1000) / 2)).1 else (g ((n - 1001) / 2)).2 := ⟨_, rfl⟩
  have e0 : sa 0 = k0 := by rw [hsa]; rfl
  have e1 : sa 1 = v0 := by rw [hsa]; rfl
  have e400 : sa 400 = kt := by rw [hsa]; rfl
  have e401 : sa 401 = kf := by rw [hsa]; rfl
  have e402 : sa 402 = kn := by rw [hsa]; rfl
  have e420 : sa 420 = t1 := by rw [hsa]; rfl
  have e421 : sa 421 = t2 := by rw [hsa]; rfl
  have ee : ∀ k, sa (1000 + 2 * k) = (g k).1 := fun k => by
    rw [hsa]
    show (if 1000 + 2 * k = 0 then _ else _) = _
    rw [if_neg (by omega), if_neg (by omega), if_neg (by omega), if_neg (by omega), if_neg (by omega), if_neg (by omega), if_neg (by omega), if_neg (by omega), if_pos (by omega), show (1000 + 2 * k - 1000) / 2 = k by omega]
  have eo : ∀ k, sa (1001 + 2 * k) = (g k).2 := fun k => by
    rw [hsa]
    show (if 1001 + 2 * k = 0 then _ else _) = _
    rw [if_neg (by omega), if_neg (by omega), if_neg (by omega), if_neg (by omega), if_neg (by omega), if_neg (by omega), if_neg (by omega), if_neg (by omega), if_neg (by omega), show (1001 + 2 * k - 1001) / 2 = k by omega]
  refine ⟨D, fun k => [y0, y1, y2, y3, y4, y5, y6, y7, y8, y9, y10].getD k y0, sa, ⟨⟨hD, fun k q hq => ?_⟩, Nat.le_refl _, ⟨?_, ?_, ?_, by rw [e0, e1]; exact hS0⟩, ⟨fun q hq => ?_, by rw [e0]; exact hR0, ⟨?_, ?_, ?_, ?_, ?_⟩, ⟨?_, ?_, ?_, ?_, ?_⟩, ?_⟩⟩, ⟨?_, ⟨_, by8 dg1_l (by decide), by rw [e420]; exact hz1, by rw [e420]; exact ht1⟩, ⟨_, by8 dg2_l (by decide), by rw [e421]; exact hz2, by rw [e421]; exact ht2⟩, ?_⟩, ⟨by rw [e400]; exact hRt, by rw [e401]; exact hRf, by rw [e402]; exact hRn, ?_, ?_, ?_, ?_⟩⟩
  · match k, hq with
    | 0, hq => cases hq; exact a0
    | 1, hq => cases hq; exact a1
    | 2, hq => cases hq; exact a2
    | 3, hq => cases hq; exact a3
    | 4, hq => cases hq; exact a4
    | 5, hq => cases hq; exact a5
    | 6, hq => cases hq; exact a6
    | 7, hq => cases hq; exact a7
    | 8, hq => cases hq; exact a8
    | 9, hq => cases hq; exact a9
    | 10, hq => cases hq; exact a10
    | k + 11, hq => exact absurd hq (by simp [TY])
  · exact va_Zof (hts (.laysStatic "java/lang/String" "COMPACT_STRINGS" "Z") (by decide +kernel)) (hts (.initialized "java/lang/String") (by decide +kernel)) (va_eqi (hg (.eq (.static "java/lang/String" "COMPACT_STRINGS" "Z") (.int 1)) (by decide +kernel))) hA
  · exact vx_Zqof (hts (.laysStatic Bundle.tN "UNASSIGNED_STACK" Bundle.steD) (by decide +kernel)) (hts (.initialized Bundle.tN) (by decide +kernel)) (hg (.isRef (.static Bundle.tN "UNASSIGNED_STACK" Bundle.steD)) (by decide +kernel)) hA
  · exact vx_Zqof (hts (.laysStatic Bundle.tN "SUPPRESSED_SENTINEL" Bundle.listD) (by decide +kernel)) (hts (.initialized Bundle.tN) (by decide +kernel)) (hg (.isRef (.static Bundle.tN "SUPPRESSED_SENTINEL" Bundle.listD)) (by decide +kernel)) hA
  · obtain ⟨n0, n1, n2⟩ := hne q hq
    rw [hsa]
    show vk_R RX11 q.1 q.2 (if q.1 = 0 then k0 else _) s
    rw [if_neg n0, if_neg n1, if_pos n2]
    exact hf q hq
  · exact va_Nw.of rfl (hts (.declares (Bundle.initS "java/lang/RuntimeException")) (by decide +kernel))
  · exact va_Nw.of rfl (hts (.declares (Bundle.initS "java/lang/Exception")) (by decide +kernel))
  · exact va_Nw.of rfl (hts (.declares (Bundle.initS "java/lang/Throwable")) (by decide +kernel))
  · exact va_Nw.of rfl (hts (.castable tIAE tIAE) (by decide +kernel))
  · exact va_Nw.of rfl (hts (.castable tISE tISE) (by decide +kernel))
  · exact va_AO.of (hts (.arrayOver (.object "PhraseDesk$Value")) (by decide +kernel))
  · exact va_AO.of (hts (.arrayOver (.object "PhraseDesk$Node")) (by decide +kernel))
  · exact va_AO.of (hts (.arrayOver (.object "PhraseDesk$Family")) (by decide +kernel))
  · exact va_AO.of (hts (.arrayOver (.object "PhraseDesk$Routine")) (by decide +kernel))
  · exact va_AO.of (hts (.arrayOver (.object "PhraseDesk$Field")) (by decide +kernel))
  · exact va_Nc.of (hg (.not (.castable tISE tIAE)) (by decide +kernel))
  · intro k hk
    rw [ee, eo]
    refine hgc k ?_
    unfold KC at hk
    rw [e0, e400, e401, e402] at hk
    exact hk
  · exact vx_Zqof (hts (.laysStatic "jdk/internal/util/Preconditions" "SIOOBE_FORMATTER" "Ljava/util/function/BiFunction;") (by decide +kernel)) (hts (.initialized "jdk/internal/util/Preconditions") (by decide +kernel)) (hg (.isRef (.static "jdk/internal/util/Preconditions" "SIOOBE_FORMATTER" "Ljava/util/function/BiFunction;")) (by decide +kernel)) hA
  · exact cst_self (hD 0 _ rfl).2.1
  · exact va_Nw.of rfl (hts (.castable "[B" "java/lang/Cloneable") (by decide +kernel))
  · exact va_Nw.of rfl (hts (.methodLinkNest RX11 187 yX8_eval RX11) (by decide +kernel))
  · exact va_Nw.of rfl (hts (.methodLinkNest RX11 229 yX8_setField RX11) (by decide +kernel))
