/-! ===== what an operation leaves behind ===== -/
def OPQ (kd kd' : Nat → Int32) (av av' : Nat → Int64) (rl' : Nat → UInt64) (n ob fl t w : Int) : Prop := VALS kd' av' n ob ∧ FINS kd' rl' 0 ∧ (fl = 0 → FINS kd' rl' t) ∧ ∀ q : Nat, (q : Int) < w → kd' q = kd q ∧ av' q = av q
theorem OPQ.same {kd : Nat → Int32} {av : Nat → Int64} {rl : Nat → UInt64} {n ob fl t t0 w : Int} (hv : VALS kd av n ob) (hf : FINS kd rl t0) (h0 : 0 ≤ t0) (ht : t ≤ t0) : OPQ kd kd av av rl n ob fl t w :=
  ⟨hv, hf.le h0, fun _ => hf.le ht, fun _ _ => ⟨rfl, rfl⟩⟩
theorem OPQ.c1 {kd kd' : Nat → Int32} {av av' : Nat → Int64} {rl rl' : Nat → UInt64} {n ob fl t t0 w : Int} {p : Nat} (hv : VALS kd av n ob) (hf : FINS kd rl t0) (h : Cell1 kd kd' av av' rl rl' p (GV n ob fl)) (h0 : 0 ≤ t0) (hw : w ≤ p) (hp : p < 60 ∨ fl = 0) (ht : t ≤ t0 ∨ t = p + 1 ∧ t ≤ t0 + 1) : OPQ kd kd' av av' rl' n ob fl t w := by
  refine ⟨hv.gv h, ?_, fun e => ?_, fun q hq => ⟨(h.ne (by omega)).1, (h.ne (by omega)).2.1⟩⟩
  · rcases hp with hp | hp
    · exact (hf.le h0).low (by omega) hp h
    · exact (hf.le h0).gv h hp
  · obtain ⟨k, v, r, rfl, -, rfl, -, h2⟩ := h
    exact hf.up (h2 e) ht
/-- behind an operation, one cell more -/
theorem OPQ.more {kd kd' kd2 : Nat → Int32} {av av' av2 : Nat → Int64} {rl' rl2 : Nat → UInt64} {n ob fl fl' t t' w : Int} {p : Nat} (ho : OPQ kd kd' av av' rl' n ob fl t w) (h : Cell1 kd' kd2 av' av2 rl' rl2 p (GV n ob fl')) (hw : w ≤ p) (hp : p < 60) (hf : fl' = 0 → fl = 0) (ht : t' ≤ t ∨ t' = p + 1 ∧ t' ≤ t + 1) : OPQ kd kd2 av av2 rl2 n ob fl' t' w := by
  obtain ⟨hv, hf0, hft, hq⟩ := ho
  refine ⟨hv.gv h, hf0.low (by omega) hp h, fun e => ?_, fun q hq' => ⟨(h.ne (by omega)).1.trans (hq q hq').1, (h.ne (by omega)).2.1.trans (hq q hq').2⟩⟩
  have hf1 := hft (hf e)
  obtain ⟨k, v, r, rfl, -, rfl, -, h2⟩ := h
  exact hf1.up (h2 e) ht
theorem OPQ.trans {kd kd' kd2 : Nat → Int32} {av av' av2 : Nat → Int64} {rl' rl2 : Nat → UInt64} {n ob fl fl' t t' w w' w2 : Int} (ho : OPQ kd kd' av av' rl' n ob fl t w) (h : OPQ kd' kd2 av' av2 rl2 n ob fl' t' w') (h1 : w2 ≤ w) (h2 : w2 ≤ w') : OPQ kd kd2 av av2 rl2 n ob fl' t' w2 := by
  obtain ⟨-, -, -, hq⟩ := ho
  obtain ⟨v1, v2, v3, v4⟩ := h
  exact ⟨v1, v2, v3, fun q hq' => ⟨(v4 q (by omega)).1.trans (hq q (by omega)).1, (v4 q (by omega)).2.trans (hq q (by omega)).2⟩⟩
theorem OPQ.le {kd kd' : Nat → Int32} {av av' : Nat → Int64} {rl' : Nat → UInt64} {n ob fl fl' t t' w w' : Int} (ho : OPQ kd kd' av av' rl' n ob fl t w) (hf : fl' = 0 → fl = 0) (ht : t' ≤ t) (hw : w' ≤ w) : OPQ kd kd' av av' rl' n ob fl' t' w' :=
  ⟨ho.1, ho.2.1, fun e => (ho.2.2.1 (hf e)).le ht, fun q hq => ho.2.2.2 q (by omega)⟩
theorem GV.num {n ob fl k : Int} {v : Int64} {r : UInt64} (h : 0 ≤ k) (h2 : k ≤ 2) : GV n ob fl k v r := ⟨Or.inl ⟨h, by omega⟩, fun _ e => by omega⟩
theorem GV.kfx {n ob fl k : Int} {v : Int64} {r : UInt64} (h : 1 ≤ k ∧ k ≤ 4 ∧ (fl = 0 → k = 3 → FN r)) : GV n ob fl k v r := ⟨Or.inl ⟨by omega, h.2.1⟩, h.2.2⟩
