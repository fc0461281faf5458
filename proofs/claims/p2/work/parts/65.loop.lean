theorem sin_ok0 {i : Int32} {L : Nat} (hi : 0 ≤ i.toInt ∧ i.toInt + 7 ≤ (L : Int) ∧ L ≤ 3584) : vp_in i L := vp_in_iff.mpr ⟨by omega, by omega⟩
theorem law_loop {p : Program} {e : Env} {s : State} {m : MethodId} {below : List Frame} {meth : Method} {c : Code} (l : Launch) (hfl : l.stackTraces = false) {b L : Nat} {xs : Nat → Int32} {D : va_G} {cy : Nat → ClassId} {sa : Nat → Nat} {aC aM : Nat → Nat} {q : Nat} (hL : L ≤ 3584) (C : LC p s m #[Value.ref b] meth c code 7 ret D cy s.heap.size sa lw_big) (hX : va_X b L xs s s.heap) (hbl : b < s.heap.size) : ∀ (d k : Nat), k + d = 512 → ∀ (i : Int32) (κ : KS) (σ : RS) (f : Nat → Int64) (H : Heap) (locs : List Loc) (ls : Array Slot), i.toInt = 7 * (k : Int) → lv_has ls 7 [(4, .int i), (3, .ref q), (2, .ref (aM 0)), (1, .ref (aC 0)), (0, .ref b)] → CI sa aC κ → MI σ → RE κ σ → LW D cy aC aM q (Fr s.heap.size) κ σ f H → va_S (Fr s.heap.size) s.heap H locs → W p l e room_1 s m #[Value.ref b] below meth c H locs (64 + 1066 * k) (12507 + 9840 * k) (lw_Z below #[Value.ref b] s) (F0 m 23 ls []) := by
  have hx := C.x
  have hb := C.b
  have hbA : ¬ Fr s.heap.size b := Nat.not_le.mpr hbl
  have hLi : (Int32.ofNat L).toInt = L := Int32.toInt_ofNat_of_lt (by omega)
  have h7 : (7 : Int32).toInt = 7 := by decide
  have hsub : (Int32.ofNat L - 7).toInt = (L : Int) - 7 := by
    rw [z_sub (by omega) (by omega), hLi, h7]
  have hr0 : room_1.cells = 601024 ∧ room_1.slots = 7293034 := ⟨rfl, rfl⟩
  intro d
  induction d with
  | zero =>
    intro k hk i κ σ f H locs ls hi hl hCI hMI hRE hP hS
    obtain rfl : k = 512 := by omega
    refine lv_iload hx hb dL_law_23 (lv_at hl 0 rfl) ?_
    refine lv_aload_n hx hb dL_law_25 rfl (lv_at hl 4 rfl) ?_
    refine va_slen hx hb hX hbl hbA hS dL_law_26 ?_
    refine lv_bipush (v := 7) hx hb dL_law_27 (by decide +kernel) ?_
    refine lv_isub hx hb dL_law_29 ?_
    refine lv_icmp_gt (tgt := 635) hx hb dL_law_30 (by decide) (fun _ => ?_) (fun c9 => absurd (Int32.lt_iff_toInt_lt.mpr (by rw [hsub]; omega)) c9)
    refine lv_iconst (v := 1) hx hb dL_law_635 (by decide +kernel) ?_
    refine va_forget (fun z hz => hS.2.2 z hz) ?_
    refine W.widen (k := 601024) (n := 7293034) (by omega) (by omega) ?_
    exact lw_ret hx hb C.r C.k dL_law_636
  | succ d ih =>
    intro k hk i κ σ f H locs ls hi hl hCI hMI hRE hP hS
    refine lv_iload hx hb dL_law_23 (lv_at hl 0 rfl) ?_
    refine lv_aload_n hx hb dL_law_25 rfl (lv_at hl 4 rfl) ?_
    refine va_slen hx hb hX hbl hbA hS dL_law_26 ?_
    refine lv_bipush (v := 7) hx hb dL_law_27 (by decide +kernel) ?_
    refine lv_isub hx hb dL_law_29 ?_
    refine lv_icmp_gt (tgt := 635) hx hb dL_law_30 (by decide) (fun _ => ?_) (fun c9 => ?_)
    · refine lv_iconst (v := 1) hx hb dL_law_635 (by decide +kernel) ?_
      refine va_forget (fun z hz => hS.2.2 z hz) ?_
      refine W.widen (k := 601024) (n := 7293034) (by omega) (by omega) ?_
      exact lw_ret hx hb C.r C.k dL_law_636
    have hi7 : 0 ≤ i.toInt ∧ i.toInt + 7 ≤ (L : Int) ∧ L ≤ 3584 := by
      rw [Int32.lt_iff_toInt_lt, hsub] at c9
      omega
    have hR : 64 + 1066 * k + 1066 ≤ room_1.cells ∧ 12507 + 9840 * k + 9840 ≤ room_1.slots := by
      rw [hr0.1, hr0.2]; omega
    have tail : ∀ (κ : KS) (σ : RS) (f : Nat → Int64) (H : Heap) (locs : List Loc) (ls : Array Slot), lv_has ls 7 [(4, .int i), (3, .ref q), (2, .ref (aM 0)), (1, .ref (aC 0)), (0, .ref b)] → CI sa aC κ → MI σ → RE κ σ → LW D cy aC aM q (Fr s.heap.size) κ σ f H → va_S (Fr s.heap.size) s.heap H locs → W p l e room_1 s m #[Value.ref b] below meth c H locs (64 + 1066 * k + 1066) (12507 + 9840 * k + 9840) (lw_Z below #[Value.ref b] s) (F0 m 629 ls []) := by
      intro κ σ f H locs ls hl hCI hMI hRE hP hS
      refine lv_iinc (v := i + 7) (lv' := [(4, .int (i + 7)), (3, .ref q), (2, .ref (aM 0)), (1, .ref (aC 0)), (0, .ref b)]) hx hb dL_law_629 hl (k := 0) rfl rfl (by decide) rfl (fun ls hl => ?_)
      refine lv_goto (tgt := 23) hx hb dL_law_632 (by decide) ?_
      refine W.widen (k := 64 + 1066 * (k + 1)) (n := 12507 + 9840 * (k + 1)) (by omega) (by omega) ?_
      exact ih (k + 1) (by omega) (i + 7) κ σ f H locs ls (by rw [z_add (by omega) (by omega), h7, hi]; omega) hl hCI hMI hRE hP hS
    refine lv_aload_n hx hb dL_law_33 rfl (lv_at hl 4 rfl) ?_
    refine lv_iload hx hb dL_law_34 (lv_at hl 0 rfl) ?_
    refine va_sld hx hb hX hbl hbA hS (sin_ok0 hi7) dL_law_36 ?_
    refine lv_bipush (v := 15) hx hb dL_law_37 (by decide +kernel) ?_
    refine lv_iand hx hb dL_law_39 ?_
    refine lv_topi (fun x _ => ?_)
    by_cases k0 : x = 0
    · refine lv_tableIn (off := 68) (tgt := 108) hx hb dL_law_40 (by rw [k0]; decide +kernel) (by rw [k0]; decide +kernel) (by rw [k0]; decide +kernel) (by decide) ?_
      exact law_c0 l hfl C hX hbl hbA hi7 hCI hMI hRE hP hS hl hR tail
    have k0 := z_ne k0
    by_cases k1 : x = 1
    · refine lv_tableIn (off := 124) (tgt := 164) hx hb dL_law_40 (by rw [k1]; decide +kernel) (by rw [k1]; decide +kernel) (by rw [k1]; decide +kernel) (by decide) ?_
      exact law_c1 l hfl C hX hbl hbA hi7 hCI hMI hRE hP hS hl hR tail
    have k1 := z_ne k1
    by_cases k2 : x = 2
    · refine lv_tableIn (off := 140) (tgt := 180) hx hb dL_law_40 (by rw [k2]; decide +kernel) (by rw [k2]; decide +kernel) (by rw [k2]; decide +kernel) (by decide) ?_
      exact law_c2 l hfl C hX hbl hbA hi7 hCI hMI hRE hP hS hl hR tail
    have k2 := z_ne k2
    by_cases k3 : x = 3
    · refine lv_tableIn (off := 168) (tgt := 208) hx hb dL_law_40 (by rw [k3]; decide +kernel) (by rw [k3]; decide +kernel) (by rw [k3]; decide +kernel) (by decide) ?_
      exact law_c3 l hfl C hX hbl hbA hi7 hCI hMI hRE hP hS hl hR tail
    have k3 := z_ne k3
    by_cases k4 : x = 4
    · refine lv_tableIn (off := 220) (tgt := 260) hx hb dL_law_40 (by rw [k4]; decide +kernel) (by rw [k4]; decide +kernel) (by rw [k4]; decide +kernel) (by decide) ?_
      exact law_c4 l hfl C hX hbl hbA hi7 hCI hMI hRE hP hS hl hR tail
    have k4 := z_ne k4
    by_cases k5 : x = 5
    · refine lv_tableIn (off := 310) (tgt := 350) hx hb dL_law_40 (by rw [k5]; decide +kernel) (by rw [k5]; decide +kernel) (by rw [k5]; decide +kernel) (by decide) ?_
      exact law_c5 l hfl C hX hbl hbA hi7 hCI hMI hRE hP hS hl hR tail
    have k5 := z_ne k5
    by_cases k6 : x = 6
    · refine lv_tableIn (off := 338) (tgt := 378) hx hb dL_law_40 (by rw [k6]; decide +kernel) (by rw [k6]; decide +kernel) (by rw [k6]; decide +kernel) (by decide) ?_
      exact law_c6 l hfl C hX hbl hbA hi7 hCI hMI hRE hP hS hl hR tail
    have k6 := z_ne k6
    by_cases k7 : x = 7
    · refine lv_tableIn (off := 406) (tgt := 446) hx hb dL_law_40 (by rw [k7]; decide +kernel) (by rw [k7]; decide +kernel) (by rw [k7]; decide +kernel) (by decide) ?_
      exact law_c7 l hfl C hX hbl hbA hi7 hCI hMI hRE hP hS hl hR tail
    have k7 := z_ne k7
    by_cases k8 : x = 8
    · refine lv_tableIn (off := 446) (tgt := 486) hx hb dL_law_40 (by rw [k8]; decide +kernel) (by rw [k8]; decide +kernel) (by rw [k8]; decide +kernel) (by decide) ?_
      exact law_c8 l hfl C hX hbl hbA hi7 hCI hMI hRE hP hS hl hR tail
    have k8 := z_ne k8
    by_cases k9 : x = 9
    · refine lv_tableIn (off := 474) (tgt := 514) hx hb dL_law_40 (by rw [k9]; decide +kernel) (by rw [k9]; decide +kernel) (by rw [k9]; decide +kernel) (by decide) ?_
      exact law_c9 l hfl C hX hbl hbA hi7 hCI hMI hRE hP hS hl hR tail
    have k9 := z_ne k9
    by_cases k10 : x = 10
    · refine lv_tableIn (off := 499) (tgt := 539) hx hb dL_law_40 (by rw [k10]; decide +kernel) (by rw [k10]; decide +kernel) (by rw [k10]; decide +kernel) (by decide) ?_
      exact law_c10 l hfl C hX hbl hbA hi7 hCI hMI hRE hP hS hl hR tail
    have k10 := z_ne k10
    by_cases k11 : x = 11
    · refine lv_tableIn (off := 524) (tgt := 564) hx hb dL_law_40 (by rw [k11]; decide +kernel) (by rw [k11]; decide +kernel) (by rw [k11]; decide +kernel) (by decide) ?_
      exact law_c11 l hfl C hX hbl hbA hi7 hCI hMI hRE hP hS hl hR tail
    have k11 := z_ne k11
    by_cases k12 : x = 12
    · refine lv_tableIn (off := 564) (tgt := 604) hx hb dL_law_40 (by rw [k12]; decide +kernel) (by rw [k12]; decide +kernel) (by rw [k12]; decide +kernel) (by decide) ?_
      exact law_c12 l hfl C hX hbl hbA hi7 hCI hMI hRE hP hS hl hR tail
    have k12 := z_ne k12
    rw [show (0 : Int32).toInt = 0 by decide] at k0
    rw [show (1 : Int32).toInt = 1 by decide] at k1
    rw [show (2 : Int32).toInt = 2 by decide] at k2
    rw [show (3 : Int32).toInt = 3 by decide] at k3
    rw [show (4 : Int32).toInt = 4 by decide] at k4
    rw [show (5 : Int32).toInt = 5 by decide] at k5
    rw [show (6 : Int32).toInt = 6 by decide] at k6
    rw [show (7 : Int32).toInt = 7 by decide] at k7
    rw [show (8 : Int32).toInt = 8 by decide] at k8
    rw [show (9 : Int32).toInt = 9 by decide] at k9
    rw [show (10 : Int32).toInt = 10 by decide] at k10
    rw [show (11 : Int32).toInt = 11 by decide] at k11
    rw [show (12 : Int32).toInt = 12 by decide] at k12
    refine lv_tableOut (tgt := 629) hx hb dL_law_40 (by omega) (by decide) ?_
    refine W.widen (k := 64 + 1066 * k + 1066) (n := 12507 + 9840 * k + 9840) (by omega) (by omega) ?_
    exact tail κ σ f H locs ls hl hCI hMI hRE hP hS
