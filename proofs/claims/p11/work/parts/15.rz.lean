/-! ===== a good value out of what an operation left ===== -/
theorem GV.opq {kd kd' : Nat → Int32} {av av' : Nat → Int64} {rl' : Nat → UInt64} {n ob fl fl' t w : Int} {p : Nat} (h : OPQ kd kd' av av' rl' n ob fl t w) (hf : fl' = 0 → fl = 0) (hp : p < 980) (hq : (p : Int) < t ∨ 60 ≤ p) : GV n ob fl' (kd' p).toInt (av' p) (rl' p) := ⟨h.1 p hp, fun e hk => h.2.2.1 (hf e) p hp hq hk⟩
theorem vf_twice {f : Nat → UInt64} {k : Nat} {v w : UInt64} : vf_upd (vf_upd f k v) k w = vf_upd f k w := by
  funext j
  by_cases e : j = k
  · subst e; rw [vf_eq, vf_eq]
  · rw [vf_ne e, vf_ne e, vf_ne e]
theorem GV.obj {n ob fl k : Int} {v : Int64} {r : UInt64} (h : 8 ≤ k) (h2 : k < 8 + n) (h3 : 0 ≤ v.toInt) (h4 : v.toInt < ob) : GV n ob fl k v r := ⟨Or.inr ⟨h, h2, h3, h4⟩, fun _ e => by omega⟩
