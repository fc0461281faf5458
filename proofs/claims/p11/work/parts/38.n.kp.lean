/-! ===== the class: what stays of texts, of nodes' flags, of objects' values (if c) ===== -/
def KPx (c : Prop) (P P' : PL) : Prop :=
  (c → ∀ a, oT P a = 9 → oT P' a = 9 ∧ oA P' a = oA P a) ∧
  (∀ a b, oT P a = 7 → oR P 11 a = some b → oT P' a = 7 ∧ oR P' 11 a = some b ∧ oL P' b = oL P b ∧ oB P' b = oB P b) ∧
  (∀ a, oT P a = 2 → oT P' a = 2 ∧ oI P' 4 a = oI P 4 a)
section KPs
variable {sa : Nat → Nat} {c : Prop} {P0 P P' : PL} {a q k t n : Nat}
theorem KPx.rf : KPx c P P := ⟨fun _ _ h => ⟨h, rfl⟩, fun _ _ h1 h2 => ⟨h1, h2, rfl, rfl⟩, fun _ h => ⟨h, rfl⟩⟩
theorem KPx.trans (h : KPx c P0 P) (g : KPx c P P') : KPx c P0 P' := by
  refine ⟨fun hc a ha => ?_, fun a b h1 h2 => ?_, fun a ha => ?_⟩
  · obtain ⟨x1, x2⟩ := h.1 hc a ha
    obtain ⟨y1, y2⟩ := g.1 hc a x1
    exact ⟨y1, y2.trans x2⟩
  · obtain ⟨x1, x2, x3, x4⟩ := h.2.1 a b h1 h2
    obtain ⟨y1, y2, y3, y4⟩ := g.2.1 a b x1 x2
    exact ⟨y1, y2, y3.trans x3, y4.trans x4⟩
  · obtain ⟨x1, x2⟩ := h.2.2 a ha
    obtain ⟨y1, y2⟩ := g.2.2 a x1
    exact ⟨y1, y2.trans x2⟩
theorem KPx.h (h : KPx c P P') : KPx False P P' := ⟨fun hc => hc.elim, h.2⟩
theorem str_8 {x b : Nat} (hP : PV sa P) (h1 : oT P x = 7) (h2 : oR P 11 x = some b) : oT P b = 8 := by
  obtain ⟨⟨d, d1, d2, _⟩, _⟩ := hP.t7 h1
  rw [h2] at d1
  rw [Option.some.inj d1]; exact d2
theorem KPx.one (hP : PV sa P) (hq : oT P q = 0 ∨ 20 ≤ oT P q) (hs : ∀ a, ¬ a = q → SM P P' a) : KPx c P P' := by
  have ne : ∀ a t, oT P a = t → 0 < t → t < 20 → ¬ a = q := fun a t h h0 h2 e => by subst e; omega
  refine ⟨fun _ a ha => ?_, fun a b h1 h2 => ?_, fun a ha => ?_⟩
  · obtain ⟨s1, _, _, _, _, _, s7, _⟩ := hs a (ne a 9 ha (by decide) (by decide))
    exact ⟨s1.trans ha, s7⟩
  · obtain ⟨s1, _, _, _, s5, _⟩ := hs a (ne a 7 h1 (by decide) (by decide))
    obtain ⟨_, r2, _, _, _, _, _, r8⟩ := hs b (ne b 8 (str_8 hP h1 h2) (by decide) (by decide))
    exact ⟨s1.trans h1, (s5 11).trans h2, r2, r8⟩
  · obtain ⟨s1, _, _, s4, _⟩ := hs a (ne a 2 ha (by decide) (by decide))
    exact ⟨s1.trans ha, s4 4⟩
theorem KPx.newP9 (h : KPx c P0 P) (hP : PV sa P) (h0 : oT P q = 0) : KPx c P0 (newP P q t) := h.trans (KPx.one hP (Or.inl h0) (fun a ne => SM.newP ne))
theorem KPx.newB9 {f : Nat → Int32} (h : KPx c P0 P) (hP : PV sa P) (h0 : oT P q = 0) : KPx c P0 (newB P q n f) := h.trans (KPx.one hP (Or.inl h0) (fun a ne => SM.newB ne))
theorem KPx.sB9 {f : Nat → Int32} (h : KPx c P0 P) (hn : NS P a) : KPx c P0 (sB P a f) := h.trans ⟨fun _ _ h => ⟨h, rfl⟩, fun x b h1 h2 => ⟨h1, h2, rfl, vu_ne (fun e => hn x h1 (by rw [h2, e]))⟩, fun _ h => ⟨h, rfl⟩⟩
theorem KPx.sI9 {v : Int32} (h : KPx c P0 P) (hk : ¬ k = 4) : KPx c P0 (sI P k a v) := h.trans ⟨fun _ _ h => ⟨h, rfl⟩, fun x b h1 h2 => ⟨h1, h2, rfl, rfl⟩, fun x h => ⟨h, sI_nk (fun e => hk e.symm)⟩⟩
theorem KPx.sI49 {v : Int32} (h : KPx c P0 P) (hf : ¬ oT P0 a = 2) : KPx c P0 (sI P 4 a v) := ⟨h.1, h.2.1, fun x hx => by
  obtain ⟨y1, y2⟩ := h.2.2 x hx
  exact ⟨y1, (sI_ne (fun e => hf (by rw [← e]; exact hx))).trans y2⟩⟩
theorem KPx.sR129 {v : Option Nat} (h : KPx c P0 P) : KPx c P0 (sR P 12 a v) := h.trans ⟨fun _ _ h => ⟨h, rfl⟩, fun x b h1 h2 => ⟨h1, (show oR (sR P 12 a v) 11 x = oR P 11 x from sR_nk (by decide)).trans h2, rfl, rfl⟩, fun _ h => ⟨h, rfl⟩⟩
theorem KPx.sA9 {f : Nat → Option Nat} (h : KPx c P0 P) (hn : ¬ oT P a = 9) : KPx c P0 (sA P a f) := h.trans ⟨fun _ x h => ⟨h, vu_ne (fun e => hn (by rw [← e]; exact h))⟩, fun x b h1 h2 => ⟨h1, h2, rfl, rfl⟩, fun _ h => ⟨h, rfl⟩⟩
theorem KPx.stA9 {f : Nat → Option Nat} (h : KPx False P0 P) : KPx False P0 (sA P a f) := h.trans ⟨fun hc => hc.elim, fun x b h1 h2 => ⟨h1, h2, rfl, rfl⟩, fun _ h => ⟨h, rfl⟩⟩
theorem KPx.rI9 {v : Int32} (h : KPx c P0 P) (hr : 20 ≤ oT P a) : KPx c P0 (sI P k a v) := h.trans ⟨fun _ _ h => ⟨h, rfl⟩, fun x b h1 h2 => ⟨h1, h2, rfl, rfl⟩, fun x h => ⟨h, sI_ne (fun e => by rw [e] at h; omega)⟩⟩
theorem KPx.rR9 {v : Option Nat} (h : KPx c P0 P) (hr : 20 ≤ oT P a) : KPx c P0 (sR P k a v) := h.trans ⟨fun _ _ h => ⟨h, rfl⟩, fun x b h1 h2 => ⟨h1, (sR_ne (fun e => by rw [e] at h1; omega)).trans h2, rfl, rfl⟩, fun _ h => ⟨h, rfl⟩⟩
theorem KPx.rD9 {v : UInt64} (h : KPx c P0 P) (hr : 20 ≤ oT P a) : KPx c P0 (sD P a v) := h.trans ⟨fun _ _ h => ⟨h, rfl⟩, fun x b h1 h2 => ⟨h1, h2, rfl, rfl⟩, fun _ h => ⟨h, rfl⟩⟩
theorem KPx.fin9 (h : KPx c P0 P) (hr : 20 ≤ oT P q) : KPx c P0 (sC (sT P q t) q n) := h.trans ⟨fun _ x hx => ⟨(vu_ne (fun e => by rw [e] at hx; omega)).trans hx, rfl⟩, fun x b h1 h2 => ⟨(vu_ne (fun e => by rw [e] at h1; omega)).trans h1, h2, rfl, rfl⟩, fun x hx => ⟨(vu_ne (fun e => by rw [e] at hx; omega)).trans hx, rfl⟩⟩
theorem NS.newB9 {f : Nat → Int32} (hP : PV sa P) (h0 : oT P q = 0) : NS (newB P q n f) q := fun c hc e => by
  have nc : ¬ c = q := fun e9 => by
    rw [e9, newB_T, if_pos rfl] at hc
    exact absurd hc (by decide)
  rw [newB_T, if_neg nc] at hc
  have e : oR P 11 c = some q := (vu_ne nc).symm.trans e
  have := str_8 hP hc e
  rw [h0] at this
  exact absurd this (by decide)
theorem EX.z {pr : Nat → Prop} (h : EXP pr P P') (hp : pr a) (h0 : oT P' a = 0) : oT P a = 0 := by
  by_cases e : oT P a = 0
  · exact e
  · have := (h a e hp).1
    rw [h0] at this
    exact absurd this.symm e
end KPs
