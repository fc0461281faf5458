theorem CC.cs {p : Program} {s : State} {m : MethodId} {args : Array Value} {meth : Method} {c : Code} {cc : ByteArray} {maxL : Nat} {ret : Option FieldType} {own nm : String} {D : va_G} {cy : Nat → ClassId} {sz0 : Nat} {sa : Nat → Nat} {A : Nat → Prop} (C : CC p s m args meth c cc maxL ret own nm D cy sz0 sa A) : va_Z "java/lang/String" "COMPACT_STRINGS" "Z" (.int 1) A s s.heap := C.en.2.2.1.1.narrow C.f
theorem z_u16 (x : Int32) : 0 ≤ ((x.toUInt32 % 65536).toInt32).toInt ∧ ((x.toUInt32 % 65536).toInt32).toInt ≤ 65535 := by
  have h : (x.toUInt32 % 65536).toNat < 65536 := by
    rw [UInt32.toNat_mod]; exact Nat.mod_lt _ (by decide)
  have e : ((x.toUInt32 % 65536).toInt32).toInt = ((x.toUInt32 % 65536).toNat : Int) := by
    show (x.toUInt32 % 65536).toBitVec.toInt = _
    rw [BitVec.toInt_eq_toNat_of_lt (by show 2 * (x.toUInt32 % 65536).toNat < 2 ^ 32; omega)]
    rfl
  rw [e]; omega
theorem sok_len {p : Program} {s : State} {m : MethodId} {args : Array Value} {meth : Method} {c : Code} {cc : ByteArray} {maxL : Nat} {ret : Option FieldType} {own nm : String} {D : va_G} {cy : Nat → ClassId} {sz0 : Nat} {sa : Nat → Nat} {A : Nat → Prop} {P : PL} {a : Nat} (C : CC p s m args meth c cc maxL ret own nm D cy sz0 sa A) (hP : PV sa P) (h : SOK P sa a) : sLen P sa a ≤ 100 := by
  unfold sLen
  rcases h with h | ⟨h, h2⟩
  · obtain ⟨⟨b, h1, h2, h3⟩, -⟩ := hP.t7 h
    rw [if_pos h, h1]; exact Nat.le_trans h3 (by decide)
  · rw [if_neg h]; exact Nat.le_trans (kst C h2).1 (by decide)
theorem narc {x : Int32} (h : 0 ≤ x.toInt ∧ x.toInt ≤ 65535) : narrow .char (.int x) = .int x := by
  obtain ⟨n, hn, e⟩ : ∃ n : Nat, n ≤ 65535 ∧ x = nI n := by
    refine ⟨x.toInt.toNat, by omega, Int32.toInt_inj.mp ?_⟩
    rw [nI_toInt (by omega)]; omega
  rw [e]; exact (pk_charN (q := n) (by omega)).1
