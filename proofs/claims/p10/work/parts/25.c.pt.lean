/-! ===== the programs that are kept ===== -/
def PRS (n : Int) (st : Nat → Int32) (wt : Nat → Int64) (ln : Nat → Int32) : Prop := ∀ i : Nat, (i : Int) < n → 0 ≤ (ln i).toInt ∧ Prog st wt (90 * i) (90 * i + (ln i).toInt.toNat)
theorem Prog_keep {st st' : Nat → Int32} {wt wt' : Nat → Int64} {S E : Nat} (hp : Prog st wt S E) (hk : ∀ q, S ≤ q → q < E → st' q = st q ∧ wt' q = wt q) : Prog st' wt' S E := by
  obtain ⟨h1, h2, h, a, h3, h4, hh, h5⟩ := hp
  refine ⟨h1, h2, h, a, h3, h4, hh, fun q a1 a2 => ?_⟩
  obtain ⟨k1, k2⟩ := hk q a1 a2
  rw [k1, k2]
  obtain ⟨m1, m2⟩ := h5 q a1 a2
  refine ⟨?_, m2⟩
  rcases m1 with m1 | m1 | ⟨m1, m3, m4, m9, m5, m6, m7, m8⟩
  · exact Or.inl m1
  · exact Or.inr (Or.inl m1)
  · refine Or.inr (Or.inr ⟨m1, m3, m4, m9, m5, m6, m7, ?_⟩)
    rw [(hk a m5 (by omega)).2]; exact m8
theorem PRS.keep {n S : Int} {st st' : Nat → Int32} {wt wt' : Nat → Int64} {ln : Nat → Int32} (hp : PRS n st wt ln) (hk : Keep S st st' wt wt') (hS : S = 90 * n) : PRS n st' wt' ln := fun i hi => by
  obtain ⟨h1, h2⟩ := hp i hi
  refine ⟨h1, Prog_keep h2 (fun q a1 a2 => hk q ?_)⟩
  have := h2.2.1
  omega
theorem PRS.add {n S : Int} {st st' : Nat → Int32} {wt wt' : Nat → Int64} {ln : Nat → Int32} {k s e : Nat} {w : Int32} {n' : Int} (hp : PRS n st wt ln) (hk : Keep S st st' wt wt') (hS : S = 90 * n) (hkn : (k : Int) = n) (hs : (s : Int) = 90 * n) (hw : 0 ≤ w.toInt) (he : (e : Int) = 90 * n + w.toInt) (hg : Prog st' wt' s e) (hn : n' = n + 1) : PRS n' st' wt' (upd ln k w) := fun i hi => by
  by_cases e1 : i = k
  · subst e1
    rw [upd_eq]
    refine ⟨hw, ?_⟩
    rw [show 90 * i = s by omega, show s + w.toInt.toNat = e by omega]; exact hg
  · rw [upd_ne e1]; exact hp.keep hk hS i (by omega)
theorem TKI.mk {tk : Nat → Int32} {tv : Nat → Int64} {ts : Nat → Int32} {tn nx : Int32} (h1 : TKok tk tv ts (tn.toInt - 1)) (h2 : 1 ≤ tn.toInt) (h3 : tn.toInt ≤ 41) (h4 : (tk (tn.toInt - 1).toNat).toInt = 0) (h5 : 0 ≤ nx.toInt) (h6 : nx.toInt ≤ tn.toInt - 1) : TKI tk tv ts tn nx := ⟨h1, h2, h3, h4, h5, h6⟩
