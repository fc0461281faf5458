-- in@64 @64
theorem v_convert_1 (k0 : Int32) (hpre_0 : 0 ≤ k0.toInt) (hpre_1 : k0.toInt < 980) : vp_in k0 980 := by
  exact vp_in_iff.mpr ⟨by omega, by omega⟩
-- post @84
theorem v_convert_2 (σ : RS) (k0 : Int32) (x4 : Int32) (hpre_0 : 0 ≤ k0.toInt) (hpre_1 : k0.toInt < 980) (hpre_2 : 0 ≤ (σ.1 56).toInt) (hpre_3 : (σ.1 56).toInt ≤ 11) (ex4 : x4 = (σ.2.1 51) k0.toNatClampNeg) (tx4 : x4.toInt = ((σ.2.1 51) k0.toNatClampNeg).toInt) (c5 : x4.toInt = 3) : 0 ≤ (σ.1 56).toInt ∧ (σ.1 56).toInt ≤ 11 ∧ (((σ.2.1 51) = (σ.2.1 51) ∧ (σ.2.2.1 52) = (σ.2.2.1 52) ∧ (σ.2.2.1 53) = (σ.2.2.1 53) ∧ (σ.2.2.2) = (σ.2.2.2)) ∨ (Cell1 (σ.2.1 51) (σ.2.1 51) (σ.2.2.1 52) (σ.2.2.1 52) (σ.2.2.2) (σ.2.2.2) k0.toNatClampNeg (fun k v r => 1 ≤ k ∧ k ≤ 4 ∧ (k = 3 → FN r)))) := by
  refine ⟨by omega, by omega, ?_⟩
  first
  | exact Or.inl ⟨rfl, rfl, rfl, rfl⟩
  | assumption
  | exact Or.inr (Cell1.imp (by assumption) (fun k v r h => by subst h; exact ⟨by omega, by omega, fun h => by omega⟩))
  | exact Or.inr ⟨_, _, _, rfl, rfl, rfl, by omega, by omega, fun h => by first | omega | (subst_vars; exact fp_i2d _)⟩
-- pre:whole@71 @71
theorem v_convert_3 (σ : RS) (k0 : Int32) (x4 : Int32) (hpre_0 : 0 ≤ k0.toInt) (hpre_1 : k0.toInt < 980) (hpre_2 : 0 ≤ (σ.1 56).toInt) (hpre_3 : (σ.1 56).toInt ≤ 11) (ex4 : x4 = (σ.2.1 51) k0.toNatClampNeg) (tx4 : x4.toInt = ((σ.2.1 51) k0.toNatClampNeg).toInt) (c5 : ¬ x4.toInt = 3) : 0 ≤ k0.toInt ∧ k0.toInt < 980 ∧ 0 ≤ (σ.1 56).toInt ∧ (σ.1 56).toInt ≤ 11 := by
  refine ⟨?_, ?_, ?_, ?_⟩ <;> first | assumption | omega | (subst_vars; omega) | trivial
-- pre:set@81 @81
theorem v_convert_4 (σ : RS) (k0 : Int32) (x4 : Int32) (hpre_0 : 0 ≤ k0.toInt) (hpre_1 : k0.toInt < 980) (ex4 : x4 = (σ.2.1 51) k0.toNatClampNeg) (tx4 : x4.toInt = ((σ.2.1 51) k0.toNatClampNeg).toInt) (c5 : ¬ x4.toInt = 3) : 0 ≤ k0.toInt ∧ k0.toInt < 980 := by
  refine ⟨?_, ?_⟩ <;> first | assumption | omega | (subst_vars; omega) | trivial
-- post @84
theorem v_convert_5 (σ : RS) (k0 : Int32) (x4 : Int32) (n7 : Int32) (r6 : Int32) (x8 : UInt64) (hpre_0 : 0 ≤ k0.toInt) (hpre_1 : k0.toInt < 980) (ex4 : x4 = (σ.2.1 51) k0.toNatClampNeg) (tx4 : x4.toInt = ((σ.2.1 51) k0.toNatClampNeg).toInt) (c5 : ¬ x4.toInt = 3) (hr6_0 : 0 ≤ n7.toInt) (hr6_1 : n7.toInt ≤ 11) (ex8 : x8 = FP.i2d r6) : 0 ≤ n7.toInt ∧ n7.toInt ≤ 11 ∧ (((upd (σ.2.1 51) k0.toNatClampNeg (3 : Int32)) = (σ.2.1 51) ∧ (vp_updL (σ.2.2.1 52) k0.toNatClampNeg (0 : Int64)) = (σ.2.2.1 52) ∧ (vp_updL (σ.2.2.1 53) k0.toNatClampNeg (0 : Int64)) = (σ.2.2.1 53) ∧ (vf_upd (σ.2.2.2) k0.toNatClampNeg x8) = (σ.2.2.2)) ∨ (Cell1 (σ.2.1 51) (upd (σ.2.1 51) k0.toNatClampNeg (3 : Int32)) (σ.2.2.1 52) (vp_updL (σ.2.2.1 52) k0.toNatClampNeg (0 : Int64)) (σ.2.2.2) (vf_upd (σ.2.2.2) k0.toNatClampNeg x8) k0.toNatClampNeg (fun k v r => 1 ≤ k ∧ k ≤ 4 ∧ (k = 3 → FN r)))) := by
  have q3 : (3 : Int32).toInt = 3 := by decide +kernel
  have ql0 : (0 : Int64).toInt = 0 := by decide +kernel
  refine ⟨by omega, by omega, ?_⟩
  first
  | exact Or.inl ⟨rfl, rfl, rfl, rfl⟩
  | assumption
  | exact Or.inr (Cell1.imp (by assumption) (fun k v r h => by subst h; exact ⟨by omega, by omega, fun h => by omega⟩))
  | exact Or.inr ⟨_, _, _, rfl, rfl, rfl, by omega, by omega, fun h => by first | omega | (subst_vars; exact fp_i2d _)⟩
-- pre:whole@43 @43
theorem v_convert_6 (σ : RS) (k0 : Int32) (hpre_0 : 0 ≤ k0.toInt) (hpre_1 : k0.toInt < 980) (hpre_2 : 0 ≤ (σ.1 56).toInt) (hpre_3 : (σ.1 56).toInt ≤ 11) : 0 ≤ k0.toInt ∧ k0.toInt < 980 ∧ 0 ≤ (σ.1 56).toInt ∧ (σ.1 56).toInt ≤ 11 := by
  refine ⟨?_, ?_, ?_, ?_⟩ <;> first | assumption | omega | (subst_vars; omega) | trivial
-- pre:set@53 @53
theorem v_convert_7 (k0 : Int32) (hpre_0 : 0 ≤ k0.toInt) (hpre_1 : k0.toInt < 980) : 0 ≤ k0.toInt ∧ k0.toInt < 980 := by
  refine ⟨?_, ?_⟩ <;> first | assumption | omega | (subst_vars; omega) | trivial
-- post @84
theorem v_convert_8 (σ : RS) (k0 : Int32) (n11 : Int32) (r10 : Int32) (x12 : Int64) (hpre_0 : 0 ≤ k0.toInt) (hpre_1 : k0.toInt < 980) (hr10_0 : 0 ≤ n11.toInt) (hr10_1 : n11.toInt ≤ 11) (ex12 : x12 = Int32.toInt64 r10) (tx12 : x12.toInt = r10.toInt) : 0 ≤ n11.toInt ∧ n11.toInt ≤ 11 ∧ (((upd (σ.2.1 51) k0.toNatClampNeg (2 : Int32)) = (σ.2.1 51) ∧ (vp_updL (σ.2.2.1 52) k0.toNatClampNeg x12) = (σ.2.2.1 52) ∧ (vp_updL (σ.2.2.1 53) k0.toNatClampNeg (0 : Int64)) = (σ.2.2.1 53) ∧ (vf_upd (σ.2.2.2) k0.toNatClampNeg FP.dconst0) = (σ.2.2.2)) ∨ (Cell1 (σ.2.1 51) (upd (σ.2.1 51) k0.toNatClampNeg (2 : Int32)) (σ.2.2.1 52) (vp_updL (σ.2.2.1 52) k0.toNatClampNeg x12) (σ.2.2.2) (vf_upd (σ.2.2.2) k0.toNatClampNeg FP.dconst0) k0.toNatClampNeg (fun k v r => 1 ≤ k ∧ k ≤ 4 ∧ (k = 3 → FN r)))) := by
  have q2 : (2 : Int32).toInt = 2 := by decide +kernel
  have ql0 : (0 : Int64).toInt = 0 := by decide +kernel
  refine ⟨by omega, by omega, ?_⟩
  first
  | exact Or.inl ⟨rfl, rfl, rfl, rfl⟩
  | assumption
  | exact Or.inr (Cell1.imp (by assumption) (fun k v r h => by subst h; exact ⟨by omega, by omega, fun h => by omega⟩))
  | exact Or.inr ⟨_, _, _, rfl, rfl, rfl, by omega, by omega, fun h => by first | omega | (subst_vars; exact fp_i2d _)⟩
-- post @84
theorem v_convert_9 (σ : RS) (k0 : Int32) (F15 : (Nat → Int32)) (G16 : (Nat → Int64)) (G17 : (Nat → Int64)) (X18 : (Nat → UInt64)) (n19 : Int32) (hpre_0 : 0 ≤ k0.toInt) (hpre_1 : k0.toInt < 980) (hr14_0 : 0 ≤ n19.toInt) (hr14_1 : n19.toInt ≤ 11) (hr14_2 : Cell1 (σ.2.1 51) F15 (σ.2.2.1 52) G16 (σ.2.2.2) X18 k0.toNatClampNeg (fun k v r => k = 1)) : 0 ≤ n19.toInt ∧ n19.toInt ≤ 11 ∧ ((F15 = (σ.2.1 51) ∧ G16 = (σ.2.2.1 52) ∧ G17 = (σ.2.2.1 53) ∧ X18 = (σ.2.2.2)) ∨ (Cell1 (σ.2.1 51) F15 (σ.2.2.1 52) G16 (σ.2.2.2) X18 k0.toNatClampNeg (fun k v r => 1 ≤ k ∧ k ≤ 4 ∧ (k = 3 → FN r)))) := by
  refine ⟨by omega, by omega, ?_⟩
  first
  | exact Or.inl ⟨rfl, rfl, rfl, rfl⟩
  | assumption
  | exact Or.inr (Cell1.imp (by assumption) (fun k v r h => by subst h; exact ⟨by omega, by omega, fun h => by omega⟩))
  | exact Or.inr ⟨_, _, _, rfl, rfl, rfl, by omega, by omega, fun h => by first | omega | (subst_vars; exact fp_i2d _)⟩
-- pre:spell@12 @12
theorem v_convert_10 (k0 : Int32) (hpre_0 : 0 ≤ k0.toInt) (hpre_1 : k0.toInt < 980) : 0 ≤ k0.toInt ∧ k0.toInt < 980 ∧ 0 ≤ (0 : Int32).toInt ∧ (0 : Int32).toInt ≤ 48 := by
  have q0 : (0 : Int32).toInt = 0 := by decide +kernel
  refine ⟨?_, ?_, ?_, ?_⟩ <;> first | assumption | omega | (subst_vars; omega) | trivial
-- pre:settle@17 @17
theorem v_convert_11 (k0 : Int32) (n22 : Int32) (hpre_0 : 0 ≤ k0.toInt) (hpre_1 : k0.toInt < 980) (hr20_0 : 0 ≤ n22.toInt) (hr20_1 : n22.toInt ≤ 48) : 0 ≤ k0.toInt ∧ k0.toInt < 980 ∧ 0 ≤ n22.toInt ∧ n22.toInt ≤ 48 := by
  refine ⟨?_, ?_, ?_, ?_⟩ <;> first | assumption | omega | (subst_vars; omega) | trivial
-- post @84
theorem v_convert_12 (σ : RS) (k0 : Int32) (F24 : (Nat → Int32)) (G25 : (Nat → Int64)) (G26 : (Nat → Int64)) (X27 : (Nat → UInt64)) (hpre_0 : 0 ≤ k0.toInt) (hpre_1 : k0.toInt < 980) (hpre_2 : 0 ≤ (σ.1 56).toInt) (hpre_3 : (σ.1 56).toInt ≤ 11) (hr23 : Cell1 (σ.2.1 51) F24 (σ.2.2.1 52) G25 (σ.2.2.2) X27 k0.toNatClampNeg (fun k v r => k = 4)) : 0 ≤ (σ.1 56).toInt ∧ (σ.1 56).toInt ≤ 11 ∧ ((F24 = (σ.2.1 51) ∧ G25 = (σ.2.2.1 52) ∧ G26 = (σ.2.2.1 53) ∧ X27 = (σ.2.2.2)) ∨ (Cell1 (σ.2.1 51) F24 (σ.2.2.1 52) G25 (σ.2.2.2) X27 k0.toNatClampNeg (fun k v r => 1 ≤ k ∧ k ≤ 4 ∧ (k = 3 → FN r)))) := by
  refine ⟨by omega, by omega, ?_⟩
  first
  | exact Or.inl ⟨rfl, rfl, rfl, rfl⟩
  | assumption
  | exact Or.inr (Cell1.imp (by assumption) (fun k v r h => by subst h; exact ⟨by omega, by omega, fun h => by omega⟩))
  | exact Or.inr ⟨_, _, _, rfl, rfl, rfl, by omega, by omega, fun h => by first | omega | (subst_vars; exact fp_i2d _)⟩
set_option maxHeartbeats 4000000 in
set_option maxRecDepth 100000 in
theorem M_convert (l : Launch) (D : va_G) (cy : Nat → ClassId) (sz0 : Nat) (sa : Nat → Nat) (ad : Nat → Nat) (σ : RS) (sz : Nat) (k0 : Int32) (k1 : Int32) (hpre : 0 ≤ k0.toInt ∧ k0.toInt < 980 ∧ 0 ≤ (σ.1 56).toInt ∧ (σ.1 56).toInt ≤ 11 ∧ 0 ≤ k1.toInt ∧ k1.toInt ≤ 4) : Met l yX12_convert (Cond.code yX12_convert cX12_convert 5 none :: GWm) ({ frames := 3, cells := 0, slots := 0, locals := 71 }) (PcR D cy sz0 sa ad [.ref (ad 0), .int k0, .int k1] σ sz) (va_Qv (fun (u : (Nat → Int32) × (Nat → Int64) × (Nat → Int64) × (Nat → UInt64) × Int32 × (Nat → Int32) × Int32) => 0 ≤ u.2.2.2.2.1.toInt ∧ u.2.2.2.2.1.toInt ≤ 11 ∧ ((u.1 = (σ.2.1 51) ∧ u.2.1 = (σ.2.2.1 52) ∧ u.2.2.1 = (σ.2.2.1 53) ∧ u.2.2.2.1 = (σ.2.2.2)) ∨ (Cell1 (σ.2.1 51) u.1 (σ.2.2.1 52) u.2.1 (σ.2.2.2) u.2.2.2.1 k0.toNatClampNeg (fun k v r => 1 ≤ k ∧ k ≤ 4 ∧ (k = 3 → FN r))))) (fun (u : (Nat → Int32) × (Nat → Int64) × (Nat → Int64) × (Nat → UInt64) × Int32 × (Nat → Int32) × Int32) (t : State) => RP D cy ad (rS (rA (rS (rR (rJ (rJ (rA σ 51 u.1) 52 u.2.1) 53 u.2.2.1) u.2.2.2.1) 56 u.2.2.2.2.1) 58 u.2.2.2.2.2.1) 59 u.2.2.2.2.2.2) t.heap) (AR cy ad sz)) 0 0 (AR cy ad sz) := by
  refine RM_of (loc0 := [(0, .ref (ad 0)), (1, .int k0), (2, .int k1)]) (by decide) rfl rfl (Nat.le_of_ble_eq_true rfl) ?_
  intro p e s m below meth c ls hsz C hP hS hl
  have hx := C.1
  have hb := C.2.1
  have hown := C.2.2.2.2.1
  have hw := C.2.2.2.2.2.1
  clear hsz
  obtain ⟨hpre_0, hpre_1, hpre_2, hpre_3, hpre_4, hpre_5⟩ := hpre
  refine lv_iload_n hx hb dX12_convert_0 rfl (lv_at hl 2 rfl) ?_
  refine lv_iconst (v := 4) hx hb dX12_convert_1 (by decide +kernel) ?_
  refine lv_icmp_ne (tgt := 23) hx hb dX12_convert_2 (by decide) (fun c1 => ?_) (fun c1 => ?_)
  · have c1 : ¬ k1.toInt = 4 := by have h := z_ne c1; rw [show (4 : Int32).toInt = 4 from by decide +kernel] at h; exact h
    refine lv_iload_n hx hb dX12_convert_23 rfl (lv_at hl 2 rfl) ?_
    refine lv_iconst (v := 1) hx hb dX12_convert_24 (by decide +kernel) ?_
    refine lv_icmp_ne (tgt := 36) hx hb dX12_convert_25 (by decide) (fun c2 => ?_) (fun c2 => ?_)
    · have c2 : ¬ k1.toInt = 1 := by have h := z_ne c2; rw [show (1 : Int32).toInt = 1 from by decide +kernel] at h; exact h
      refine lv_iload_n hx hb dX12_convert_36 rfl (lv_at hl 2 rfl) ?_
      refine lv_iconst (v := 2) hx hb dX12_convert_37 (by decide +kernel) ?_
      refine lv_icmp_ne (tgt := 59) hx hb dX12_convert_38 (by decide) (fun c3 => ?_) (fun c3 => ?_)
      · have c3 : ¬ k1.toInt = 2 := by have h := z_ne c3; rw [show (2 : Int32).toInt = 2 from by decide +kernel] at h; exact h
        refine lv_aload_n hx hb dX12_convert_59 rfl (lv_at hl 0 rfl) ?_
        refine rg_51 C hP wm_205 dX12_convert_60 ?_
        refine lv_iload_n hx hb dX12_convert_63 rfl (lv_at hl 1 rfl) ?_
        refine ra_51 (f := (σ.2.1 51)) C hP rfl (v_convert_1 k0 hpre_0 hpre_1) dX12_convert_64 (fun x4 ex4 => ?_)
        have tx4 : x4.toInt = ((σ.2.1 51) k0.toNatClampNeg).toInt := by rw [ex4]
        refine lv_iconst (v := 3) hx hb dX12_convert_65 (by decide +kernel) ?_
        refine lv_icmp_eq (tgt := 84) hx hb dX12_convert_66 (by decide) (fun c5 => ?_) (fun c5 => ?_)
        · have c5 : x4.toInt = 3 := by have h := z_eq c5; rw [show (3 : Int32).toInt = 3 from by decide +kernel] at h; exact h
          have hP : RP D cy ad (rS (rA (rS (rR (rJ (rJ (rA σ 51 (σ.2.1 51)) 52 (σ.2.2.1 52)) 53 (σ.2.2.1 53)) (σ.2.2.2)) 56 (σ.1 56)) 58 (σ.2.1 58)) 59 (σ.1 59)) s.heap := RP.cong hP (Eq.trans (b := (σ.1 0)) rfl rfl) (Eq.trans (b := (σ.1 1)) rfl rfl) (Eq.trans (b := (σ.2.1 2)) rfl rfl) (Eq.trans (b := (σ.1 3)) rfl rfl) (Eq.trans (b := (σ.2.1 4)) rfl rfl) (Eq.trans (b := (σ.2.1 5)) rfl rfl) (Eq.trans (b := (σ.2.2.1 6)) rfl rfl) (Eq.trans (b := (σ.2.1 7)) rfl rfl) (Eq.trans (b := (σ.1 8)) rfl rfl) (Eq.trans (b := (σ.1 9)) rfl rfl) (Eq.trans (b := (σ.1 10)) rfl rfl) (Eq.trans (b := (σ.2.1 11)) rfl rfl) (Eq.trans (b := (σ.2.2.1 12)) rfl rfl) (Eq.trans (b := (σ.2.1 13)) rfl rfl) (Eq.trans (b := (σ.1 14)) rfl rfl) (Eq.trans (b := (σ.1 15)) rfl rfl) (Eq.trans (b := (σ.1 16)) rfl rfl) (Eq.trans (b := (σ.1 17)) rfl rfl) (Eq.trans (b := (σ.1 18)) rfl rfl) (Eq.trans (b := (σ.1 19)) rfl rfl) (Eq.trans (b := (σ.2.1 20)) rfl rfl) (Eq.trans (b := (σ.2.1 21)) rfl rfl) (Eq.trans (b := (σ.2.1 22)) rfl rfl) (Eq.trans (b := (σ.2.1 23)) rfl rfl) (Eq.trans (b := (σ.2.1 24)) rfl rfl) (Eq.trans (b := (σ.2.1 25)) rfl rfl) (Eq.trans (b := (σ.2.1 26)) rfl rfl) (Eq.trans (b := (σ.2.1 27)) rfl rfl) (Eq.trans (b := (σ.2.1 28)) rfl rfl) (Eq.trans (b := (σ.1 29)) rfl rfl) (Eq.trans (b := (σ.2.1 30)) rfl rfl) (Eq.trans (b := (σ.2.1 31)) rfl rfl) (Eq.trans (b := (σ.2.1 32)) rfl rfl) (Eq.trans (b := (σ.1 33)) rfl rfl) (Eq.trans (b := (σ.1 34)) rfl rfl) (Eq.trans (b := (σ.1 35)) rfl rfl) (Eq.trans (b := (σ.2.1 36)) rfl rfl) (Eq.trans (b := (σ.2.1 37)) rfl rfl) (Eq.trans (b := (σ.2.1 38)) rfl rfl) (Eq.trans (b := (σ.2.1 39)) rfl rfl) (Eq.trans (b := (σ.2.1 40)) rfl rfl) (Eq.trans (b := (σ.2.1 41)) rfl rfl) (Eq.trans (b := (σ.2.1 42)) rfl rfl) (Eq.trans (b := (σ.2.1 43)) rfl rfl) (Eq.trans (b := (σ.2.1 44)) rfl rfl) (Eq.trans (b := (σ.2.1 45)) rfl rfl) (Eq.trans (b := (σ.2.1 46)) rfl rfl) (Eq.trans (b := (σ.1 47)) rfl rfl) (Eq.trans (b := (σ.2.1 48)) rfl rfl) (Eq.trans (b := (σ.1 49)) rfl rfl) (Eq.trans (b := (σ.2.1 50)) rfl rfl) (Eq.trans (b := (σ.2.1 51)) rfl rfl) (Eq.trans (b := (σ.2.2.1 52)) rfl rfl) (Eq.trans (b := (σ.2.2.1 53)) rfl rfl) (Eq.trans (b := (σ.2.2.2)) rfl rfl) (Eq.trans (b := (σ.1 55)) rfl rfl) (Eq.trans (b := (σ.1 56)) rfl rfl) (Eq.trans (b := (σ.1 57)) rfl rfl) (Eq.trans (b := (σ.2.1 58)) rfl rfl) (Eq.trans (b := (σ.1 59)) rfl rfl)
          exact r_retv C ⟨(σ.2.1 51), (σ.2.2.1 52), (σ.2.2.1 53), (σ.2.2.2), (σ.1 56), (σ.2.1 58), (σ.1 59)⟩ (v_convert_2 σ k0 x4 hpre_0 hpre_1 hpre_2 hpre_3 ex4 tx4 c5) hP hS dX12_convert_84
        · have c5 : ¬ x4.toInt = 3 := by have h := z_ne c5; rw [show (3 : Int32).toInt = 3 from by decide +kernel] at h; exact h
          refine lv_aload_n hx hb dX12_convert_69 rfl (lv_at hl 0 rfl) ?_
          refine lv_iload_n hx hb dX12_convert_70 rfl (lv_at hl 1 rfl) ?_
          refine r_callVi (As := [.int k0]) (rest := []) C hP hS hl.1 ⟨Nat.zero_le _, Nat.zero_le _⟩ (M_whole l D cy sz0 sa ad σ s.heap.size k0 (v_convert_3 σ k0 x4 hpre_0 hpre_1 hpre_2 hpre_3 ex4 tx4 c5)) (n := 1) ⟨wm_262, wm_243, by decide +kernel⟩ ⟨wm_263, wm_264, wm_10⟩ rfl rfl (lv_room (Nat.le_of_ble_eq_true rfl)) ⟨Nat.le_of_ble_eq_true rfl, Nat.le_of_ble_eq_true rfl⟩ dX12_convert_71 (fun r6 u H locs hr6 hP hS => ?_)
          obtain ⟨n7, rfl⟩ : ∃ z, z = u := ⟨_, rfl⟩
          have hr6 : 0 ≤ n7.toInt ∧ n7.toInt ≤ 11 := hr6
          obtain ⟨hr6_0, hr6_1⟩ := hr6
          have hP : RP D cy ad (rS σ 56 n7) H := hP
          refine lv_i2d hx hb dX12_convert_74 ?_
          refine lv_topd (fun x8 ex8 => ?_)
          refine lv_dstore_n (lv' := [(3, .double x8), (0, .ref (ad 0)), (1, .int k0), (2, .int k1)]) hx hb dX12_convert_75 rfl hl (by decide) rfl (fun ls hl => ?_)
          refine lv_aload_n hx hb dX12_convert_76 rfl (lv_at hl 1 rfl) ?_
          refine lv_iload_n hx hb dX12_convert_77 rfl (lv_at hl 2 rfl) ?_
          refine lv_iconst (v := 3) hx hb dX12_convert_78 (by decide +kernel) ?_
          refine lv_lconst (v := 0) hx hb dX12_convert_79 rfl ?_
          refine lv_dload_n hx hb dX12_convert_80 rfl (lv_at hl 0 rfl) ?_
          refine r_callVv (As := [.int k0, .int 3, .long 0, .double x8]) (rest := []) C hP hS hl.1 ⟨Nat.zero_le _, Nat.zero_le _⟩ (M_set l D cy sz0 sa ad (rS σ 56 n7) H.size k0 (3 : Int32) (0 : Int64) x8 (v_convert_4 σ k0 x4 hpre_0 hpre_1 ex4 tx4 c5)) (n := 4) ⟨wm_213, wm_207, by decide +kernel⟩ ⟨wm_214, wm_215, wm_10⟩ rfl rfl (lv_room (Nat.le_of_ble_eq_true rfl)) ⟨Nat.le_of_ble_eq_true rfl, Nat.le_of_ble_eq_true rfl⟩ dX12_convert_81 (fun u H locs hr9 hP hS => ?_)
          have hr9 : True := hr9
          have hP : RP D cy ad (rR (rJ (rJ (rA (rS σ 56 n7) 51 (upd (σ.2.1 51) k0.toNatClampNeg (3 : Int32))) 52 (vp_updL (σ.2.2.1 52) k0.toNatClampNeg (0 : Int64))) 53 (vp_updL (σ.2.2.1 53) k0.toNatClampNeg (0 : Int64))) (vf_upd (σ.2.2.2) k0.toNatClampNeg x8)) H := hP
          have hP : RP D cy ad (rS (rA (rS (rR (rJ (rJ (rA σ 51 (upd (σ.2.1 51) k0.toNatClampNeg (3 : Int32))) 52 (vp_updL (σ.2.2.1 52) k0.toNatClampNeg (0 : Int64))) 53 (vp_updL (σ.2.2.1 53) k0.toNatClampNeg (0 : Int64))) (vf_upd (σ.2.2.2) k0.toNatClampNeg x8)) 56 n7) 58 (σ.2.1 58)) 59 (σ.1 59)) H := RP.cong hP (Eq.trans (b := (σ.1 0)) rfl rfl) (Eq.trans (b := (σ.1 1)) rfl rfl) (Eq.trans (b := (σ.2.1 2)) rfl rfl) (Eq.trans (b := (σ.1 3)) rfl rfl) (Eq.trans (b := (σ.2.1 4)) rfl rfl) (Eq.trans (b := (σ.2.1 5)) rfl rfl) (Eq.trans (b := (σ.2.2.1 6)) rfl rfl) (Eq.trans (b := (σ.2.1 7)) rfl rfl) (Eq.trans (b := (σ.1 8)) rfl rfl) (Eq.trans (b := (σ.1 9)) rfl rfl) (Eq.trans (b := (σ.1 10)) rfl rfl) (Eq.trans (b := (σ.2.1 11)) rfl rfl) (Eq.trans (b := (σ.2.2.1 12)) rfl rfl) (Eq.trans (b := (σ.2.1 13)) rfl rfl) (Eq.trans (b := (σ.1 14)) rfl rfl) (Eq.trans (b := (σ.1 15)) rfl rfl) (Eq.trans (b := (σ.1 16)) rfl rfl) (Eq.trans (b := (σ.1 17)) rfl rfl) (Eq.trans (b := (σ.1 18)) rfl rfl) (Eq.trans (b := (σ.1 19)) rfl rfl) (Eq.trans (b := (σ.2.1 20)) rfl rfl) (Eq.trans (b := (σ.2.1 21)) rfl rfl) (Eq.trans (b := (σ.2.1 22)) rfl rfl) (Eq.trans (b := (σ.2.1 23)) rfl rfl) (Eq.trans (b := (σ.2.1 24)) rfl rfl) (Eq.trans (b := (σ.2.1 25)) rfl rfl) (Eq.trans (b := (σ.2.1 26)) rfl rfl) (Eq.trans (b := (σ.2.1 27)) rfl rfl) (Eq.trans (b := (σ.2.1 28)) rfl rfl) (Eq.trans (b := (σ.1 29)) rfl rfl) (Eq.trans (b := (σ.2.1 30)) rfl rfl) (Eq.trans (b := (σ.2.1 31)) rfl rfl) (Eq.trans (b := (σ.2.1 32)) rfl rfl) (Eq.trans (b := (σ.1 33)) rfl rfl) (Eq.trans (b := (σ.1 34)) rfl rfl) (Eq.trans (b := (σ.1 35)) rfl rfl) (Eq.trans (b := (σ.2.1 36)) rfl rfl) (Eq.trans (b := (σ.2.1 37)) rfl rfl) (Eq.trans (b := (σ.2.1 38)) rfl rfl) (Eq.trans (b := (σ.2.1 39)) rfl rfl) (Eq.trans (b := (σ.2.1 40)) rfl rfl) (Eq.trans (b := (σ.2.1 41)) rfl rfl) (Eq.trans (b := (σ.2.1 42)) rfl rfl) (Eq.trans (b := (σ.2.1 43)) rfl rfl) (Eq.trans (b := (σ.2.1 44)) rfl rfl) (Eq.trans (b := (σ.2.1 45)) rfl rfl) (Eq.trans (b := (σ.2.1 46)) rfl rfl) (Eq.trans (b := (σ.1 47)) rfl rfl) (Eq.trans (b := (σ.2.1 48)) rfl rfl) (Eq.trans (b := (σ.1 49)) rfl rfl) (Eq.trans (b := (σ.2.1 50)) rfl rfl) (Eq.trans (b := (upd (σ.2.1 51) k0.toNatClampNeg (3 : Int32))) rfl rfl) (Eq.trans (b := (vp_updL (σ.2.2.1 52) k0.toNatClampNeg (0 : Int64))) rfl rfl) (Eq.trans (b := (vp_updL (σ.2.2.1 53) k0.toNatClampNeg (0 : Int64))) rfl rfl) (Eq.trans (b := (vf_upd (σ.2.2.2) k0.toNatClampNeg x8)) rfl rfl) (Eq.trans (b := (σ.1 55)) rfl rfl) (Eq.trans (b := n7) rfl rfl) (Eq.trans (b := (σ.1 57)) rfl rfl) (Eq.trans (b := (σ.2.1 58)) rfl rfl) (Eq.trans (b := (σ.1 59)) rfl rfl)
          exact r_retv C ⟨(upd (σ.2.1 51) k0.toNatClampNeg (3 : Int32)), (vp_updL (σ.2.2.1 52) k0.toNatClampNeg (0 : Int64)), (vp_updL (σ.2.2.1 53) k0.toNatClampNeg (0 : Int64)), (vf_upd (σ.2.2.2) k0.toNatClampNeg x8), n7, (σ.2.1 58), (σ.1 59)⟩ (v_convert_5 σ k0 x4 n7 r6 x8 hpre_0 hpre_1 ex4 tx4 c5 hr6_0 hr6_1 ex8) hP hS dX12_convert_84
      · have c3 : k1.toInt = 2 := by have h := z_eq c3; rw [show (2 : Int32).toInt = 2 from by decide +kernel] at h; exact h
        refine lv_aload_n hx hb dX12_convert_41 rfl (lv_at hl 0 rfl) ?_
        refine lv_iload_n hx hb dX12_convert_42 rfl (lv_at hl 1 rfl) ?_
        refine r_callVi (As := [.int k0]) (rest := []) C hP hS hl.1 ⟨Nat.zero_le _, Nat.zero_le _⟩ (M_whole l D cy sz0 sa ad σ s.heap.size k0 (v_convert_6 σ k0 hpre_0 hpre_1 hpre_2 hpre_3)) (n := 1) ⟨wm_262, wm_243, by decide +kernel⟩ ⟨wm_263, wm_264, wm_10⟩ rfl rfl (lv_room (Nat.le_of_ble_eq_true rfl)) ⟨Nat.le_of_ble_eq_true rfl, Nat.le_of_ble_eq_true rfl⟩ dX12_convert_43 (fun r10 u H locs hr10 hP hS => ?_)
        obtain ⟨n11, rfl⟩ : ∃ z, z = u := ⟨_, rfl⟩
        have hr10 : 0 ≤ n11.toInt ∧ n11.toInt ≤ 11 := hr10
        obtain ⟨hr10_0, hr10_1⟩ := hr10
        have hP : RP D cy ad (rS σ 56 n11) H := hP
        refine lv_istore_n (lv' := [(3, .int r10), (0, .ref (ad 0)), (1, .int k0), (2, .int k1)]) hx hb dX12_convert_46 rfl hl (by decide) rfl (fun ls hl => ?_)
        refine lv_aload_n hx hb dX12_convert_47 rfl (lv_at hl 1 rfl) ?_
        refine lv_iload_n hx hb dX12_convert_48 rfl (lv_at hl 2 rfl) ?_
        refine lv_iconst (v := 2) hx hb dX12_convert_49 (by decide +kernel) ?_
        refine lv_iload_n hx hb dX12_convert_50 rfl (lv_at hl 0 rfl) ?_
        refine lv_i2l hx hb dX12_convert_51 rfl ?_
        refine lv_topl (fun x12 ex12 => ?_)
        have tx12 : x12.toInt = r10.toInt := by rw [ex12]; exact Int32.toInt_toInt64 _
        refine lv_dconst0 hx hb dX12_convert_52 ?_
        refine r_callVv (As := [.int k0, .int 2, .long x12, .double FP.dconst0]) (rest := []) C hP hS hl.1 ⟨Nat.zero_le _, Nat.zero_le _⟩ (M_set l D cy sz0 sa ad (rS σ 56 n11) H.size k0 (2 : Int32) x12 FP.dconst0 (v_convert_7 k0 hpre_0 hpre_1)) (n := 4) ⟨wm_213, wm_207, by decide +kernel⟩ ⟨wm_214, wm_215, wm_10⟩ rfl rfl (lv_room (Nat.le_of_ble_eq_true rfl)) ⟨Nat.le_of_ble_eq_true rfl, Nat.le_of_ble_eq_true rfl⟩ dX12_convert_53 (fun u H locs hr13 hP hS => ?_)
        have hr13 : True := hr13
        have hP : RP D cy ad (rR (rJ (rJ (rA (rS σ 56 n11) 51 (upd (σ.2.1 51) k0.toNatClampNeg (2 : Int32))) 52 (vp_updL (σ.2.2.1 52) k0.toNatClampNeg x12)) 53 (vp_updL (σ.2.2.1 53) k0.toNatClampNeg (0 : Int64))) (vf_upd (σ.2.2.2) k0.toNatClampNeg FP.dconst0)) H := hP
        refine lv_goto (tgt := 84) hx hb dX12_convert_56 (by decide) ?_
        have hP : RP D cy ad (rS (rA (rS (rR (rJ (rJ (rA σ 51 (upd (σ.2.1 51) k0.toNatClampNeg (2 : Int32))) 52 (vp_updL (σ.2.2.1 52) k0.toNatClampNeg x12)) 53 (vp_updL (σ.2.2.1 53) k0.toNatClampNeg (0 : Int64))) (vf_upd (σ.2.2.2) k0.toNatClampNeg FP.dconst0)) 56 n11) 58 (σ.2.1 58)) 59 (σ.1 59)) H := RP.cong hP (Eq.trans (b := (σ.1 0)) rfl rfl) (Eq.trans (b := (σ.1 1)) rfl rfl) (Eq.trans (b := (σ.2.1 2)) rfl rfl) (Eq.trans (b := (σ.1 3)) rfl rfl) (Eq.trans (b := (σ.2.1 4)) rfl rfl) (Eq.trans (b := (σ.2.1 5)) rfl rfl) (Eq.trans (b := (σ.2.2.1 6)) rfl rfl) (Eq.trans (b := (σ.2.1 7)) rfl rfl) (Eq.trans (b := (σ.1 8)) rfl rfl) (Eq.trans (b := (σ.1 9)) rfl rfl) (Eq.trans (b := (σ.1 10)) rfl rfl) (Eq.trans (b := (σ.2.1 11)) rfl rfl) (Eq.trans (b := (σ.2.2.1 12)) rfl rfl) (Eq.trans (b := (σ.2.1 13)) rfl rfl) (Eq.trans (b := (σ.1 14)) rfl rfl) (Eq.trans (b := (σ.1 15)) rfl rfl) (Eq.trans (b := (σ.1 16)) rfl rfl) (Eq.trans (b := (σ.1 17)) rfl rfl) (Eq.trans (b := (σ.1 18)) rfl rfl) (Eq.trans (b := (σ.1 19)) rfl rfl) (Eq.trans (b := (σ.2.1 20)) rfl rfl) (Eq.trans (b := (σ.2.1 21)) rfl rfl) (Eq.trans (b := (σ.2.1 22)) rfl rfl) (Eq.trans (b := (σ.2.1 23)) rfl rfl) (Eq.trans (b := (σ.2.1 24)) rfl rfl) (Eq.trans (b := (σ.2.1 25)) rfl rfl) (Eq.trans (b := (σ.2.1 26)) rfl rfl) (Eq.trans (b := (σ.2.1 27)) rfl rfl) (Eq.trans (b := (σ.2.1 28)) rfl rfl) (Eq.trans (b := (σ.1 29)) rfl rfl) (Eq.trans (b := (σ.2.1 30)) rfl rfl) (Eq.trans (b := (σ.2.1 31)) rfl rfl) (Eq.trans (b := (σ.2.1 32)) rfl rfl) (Eq.trans (b := (σ.1 33)) rfl rfl) (Eq.trans (b := (σ.1 34)) rfl rfl) (Eq.trans (b := (σ.1 35)) rfl rfl) (Eq.trans (b := (σ.2.1 36)) rfl rfl) (Eq.trans (b := (σ.2.1 37)) rfl rfl) (Eq.trans (b := (σ.2.1 38)) rfl rfl) (Eq.trans (b := (σ.2.1 39)) rfl rfl) (Eq.trans (b := (σ.2.1 40)) rfl rfl) (Eq.trans (b := (σ.2.1 41)) rfl rfl) (Eq.trans (b := (σ.2.1 42)) rfl rfl) (Eq.trans (b := (σ.2.1 43)) rfl rfl) (Eq.trans (b := (σ.2.1 44)) rfl rfl) (Eq.trans (b := (σ.2.1 45)) rfl rfl) (Eq.trans (b := (σ.2.1 46)) rfl rfl) (Eq.trans (b := (σ.1 47)) rfl rfl) (Eq.trans (b := (σ.2.1 48)) rfl rfl) (Eq.trans (b := (σ.1 49)) rfl rfl) (Eq.trans (b := (σ.2.1 50)) rfl rfl) (Eq.trans (b := (upd (σ.2.1 51) k0.toNatClampNeg (2 : Int32))) rfl rfl) (Eq.trans (b := (vp_updL (σ.2.2.1 52) k0.toNatClampNeg x12)) rfl rfl) (Eq.trans (b := (vp_updL (σ.2.2.1 53) k0.toNatClampNeg (0 : Int64))) rfl rfl) (Eq.trans (b := (vf_upd (σ.2.2.2) k0.toNatClampNeg FP.dconst0)) rfl rfl) (Eq.trans (b := (σ.1 55)) rfl rfl) (Eq.trans (b := n11) rfl rfl) (Eq.trans (b := (σ.1 57)) rfl rfl) (Eq.trans (b := (σ.2.1 58)) rfl rfl) (Eq.trans (b := (σ.1 59)) rfl rfl)
        exact r_retv C ⟨(upd (σ.2.1 51) k0.toNatClampNeg (2 : Int32)), (vp_updL (σ.2.2.1 52) k0.toNatClampNeg x12), (vp_updL (σ.2.2.1 53) k0.toNatClampNeg (0 : Int64)), (vf_upd (σ.2.2.2) k0.toNatClampNeg FP.dconst0), n11, (σ.2.1 58), (σ.1 59)⟩ (v_convert_8 σ k0 n11 r10 x12 hpre_0 hpre_1 hr10_0 hr10_1 ex12 tx12) hP hS dX12_convert_84
    · have c2 : k1.toInt = 1 := by have h := z_eq c2; rw [show (1 : Int32).toInt = 1 from by decide +kernel] at h; exact h
      refine lv_aload_n hx hb dX12_convert_28 rfl (lv_at hl 0 rfl) ?_
      refine lv_iload_n hx hb dX12_convert_29 rfl (lv_at hl 1 rfl) ?_
      refine r_callVv (As := [.int k0]) (rest := []) C hP hS hl.1 ⟨Nat.zero_le _, Nat.zero_le _⟩ (M_toBool l D cy sz0 sa ad σ s.heap.size k0 (v_convert_6 σ k0 hpre_0 hpre_1 hpre_2 hpre_3)) (n := 1) ⟨wm_259, wm_248, by decide +kernel⟩ ⟨wm_260, wm_261, wm_10⟩ rfl rfl (lv_room (Nat.le_of_ble_eq_true rfl)) ⟨Nat.le_of_ble_eq_true rfl, Nat.le_of_ble_eq_true rfl⟩ dX12_convert_30 (fun u H locs hr14 hP hS => ?_)
      obtain ⟨F15, G16, G17, X18, n19⟩ := u
      have hr14 : 0 ≤ n19.toInt ∧ n19.toInt ≤ 11 ∧ Cell1 (σ.2.1 51) F15 (σ.2.2.1 52) G16 (σ.2.2.2) X18 k0.toNatClampNeg (fun k v r => k = 1) := hr14
      obtain ⟨hr14_0, hr14_1, hr14_2⟩ := hr14
      have hP : RP D cy ad (rS (rR (rJ (rJ (rA σ 51 F15) 52 G16) 53 G17) X18) 56 n19) H := hP
      refine lv_goto (tgt := 84) hx hb dX12_convert_33 (by decide) ?_
      have hP : RP D cy ad (rS (rA (rS (rR (rJ (rJ (rA σ 51 F15) 52 G16) 53 G17) X18) 56 n19) 58 (σ.2.1 58)) 59 (σ.1 59)) H := RP.cong hP (Eq.trans (b := (σ.1 0)) rfl rfl) (Eq.trans (b := (σ.1 1)) rfl rfl) (Eq.trans (b := (σ.2.1 2)) rfl rfl) (Eq.trans (b := (σ.1 3)) rfl rfl) (Eq.trans (b := (σ.2.1 4)) rfl rfl) (Eq.trans (b := (σ.2.1 5)) rfl rfl) (Eq.trans (b := (σ.2.2.1 6)) rfl rfl) (Eq.trans (b := (σ.2.1 7)) rfl rfl) (Eq.trans (b := (σ.1 8)) rfl rfl) (Eq.trans (b := (σ.1 9)) rfl rfl) (Eq.trans (b := (σ.1 10)) rfl rfl) (Eq.trans (b := (σ.2.1 11)) rfl rfl) (Eq.trans (b := (σ.2.2.1 12)) rfl rfl) (Eq.trans (b := (σ.2.1 13)) rfl rfl) (Eq.trans (b := (σ.1 14)) rfl rfl) (Eq.trans (b := (σ.1 15)) rfl rfl) (Eq.trans (b := (σ.1 16)) rfl rfl) (Eq.trans (b := (σ.1 17)) rfl rfl) (Eq.trans (b := (σ.1 18)) rfl rfl) (Eq.trans (b := (σ.1 19)) rfl rfl) (Eq.trans (b := (σ.2.1 20)) rfl rfl) (Eq.trans (b := (σ.2.1 21)) rfl rfl) (Eq.trans (b := (σ.2.1 22)) rfl rfl) (Eq.trans (b := (σ.2.1 23)) rfl rfl) (Eq.trans (b := (σ.2.1 24)) rfl rfl) (Eq.trans (b := (σ.2.1 25)) rfl rfl) (Eq.trans (b := (σ.2.1 26)) rfl rfl) (Eq.trans (b := (σ.2.1 27)) rfl rfl) (Eq.trans (b := (σ.2.1 28)) rfl rfl) (Eq.trans (b := (σ.1 29)) rfl rfl) (Eq.trans (b := (σ.2.1 30)) rfl rfl) (Eq.trans (b := (σ.2.1 31)) rfl rfl) (Eq.trans (b := (σ.2.1 32)) rfl rfl) (Eq.trans (b := (σ.1 33)) rfl rfl) (Eq.trans (b := (σ.1 34)) rfl rfl) (Eq.trans (b := (σ.1 35)) rfl rfl) (Eq.trans (b := (σ.2.1 36)) rfl rfl) (Eq.trans (b := (σ.2.1 37)) rfl rfl) (Eq.trans (b := (σ.2.1 38)) rfl rfl) (Eq.trans (b := (σ.2.1 39)) rfl rfl) (Eq.trans (b := (σ.2.1 40)) rfl rfl) (Eq.trans (b := (σ.2.1 41)) rfl rfl) (Eq.trans (b := (σ.2.1 42)) rfl rfl) (Eq.trans (b := (σ.2.1 43)) rfl rfl) (Eq.trans (b := (σ.2.1 44)) rfl rfl) (Eq.trans (b := (σ.2.1 45)) rfl rfl) (Eq.trans (b := (σ.2.1 46)) rfl rfl) (Eq.trans (b := (σ.1 47)) rfl rfl) (Eq.trans (b := (σ.2.1 48)) rfl rfl) (Eq.trans (b := (σ.1 49)) rfl rfl) (Eq.trans (b := (σ.2.1 50)) rfl rfl) (Eq.trans (b := F15) rfl rfl) (Eq.trans (b := G16) rfl rfl) (Eq.trans (b := G17) rfl rfl) (Eq.trans (b := X18) rfl rfl) (Eq.trans (b := (σ.1 55)) rfl rfl) (Eq.trans (b := n19) rfl rfl) (Eq.trans (b := (σ.1 57)) rfl rfl) (Eq.trans (b := (σ.2.1 58)) rfl rfl) (Eq.trans (b := (σ.1 59)) rfl rfl)
      exact r_retv C ⟨F15, G16, G17, X18, n19, (σ.2.1 58), (σ.1 59)⟩ (v_convert_9 σ k0 F15 G16 G17 X18 n19 hpre_0 hpre_1 hr14_0 hr14_1 hr14_2) hP hS dX12_convert_84
  · have c1 : k1.toInt = 4 := by have h := z_eq c1; rw [show (4 : Int32).toInt = 4 from by decide +kernel] at h; exact h
    refine lv_aload_n hx hb dX12_convert_5 rfl (lv_at hl 0 rfl) ?_
    refine lv_iconst (v := 0) hx hb dX12_convert_6 (by decide +kernel) ?_
    refine rp_59 C hP hS wm_220 dX12_convert_7 (fun H locs hP hS => ?_)
    refine lv_aload_n hx hb dX12_convert_10 rfl (lv_at hl 0 rfl) ?_
    refine lv_iload_n hx hb dX12_convert_11 rfl (lv_at hl 1 rfl) ?_
    refine r_callVv (As := [.int k0]) (rest := []) C hP hS hl.1 ⟨Nat.zero_le _, Nat.zero_le _⟩ (M_spell l D cy sz0 sa ad (rS σ 59 (0 : Int32)) H.size k0 (v_convert_10 k0 hpre_0 hpre_1)) (n := 1) ⟨wm_253, wm_227, by decide +kernel⟩ ⟨wm_254, wm_255, wm_10⟩ rfl rfl (lv_room (Nat.le_of_ble_eq_true rfl)) ⟨Nat.le_of_ble_eq_true rfl, Nat.le_of_ble_eq_true rfl⟩ dX12_convert_12 (fun u H locs hr20 hP hS => ?_)
    obtain ⟨F21, n22⟩ := u
    have hr20 : 0 ≤ n22.toInt ∧ n22.toInt ≤ 48 := hr20
    obtain ⟨hr20_0, hr20_1⟩ := hr20
    have hP : RP D cy ad (rS (rA (rS σ 59 (0 : Int32)) 58 F21) 59 n22) H := hP
    refine lv_aload_n hx hb dX12_convert_15 rfl (lv_at hl 0 rfl) ?_
    refine lv_iload_n hx hb dX12_convert_16 rfl (lv_at hl 1 rfl) ?_
    refine r_callVv (As := [.int k0]) (rest := []) C hP hS hl.1 ⟨Nat.zero_le _, Nat.zero_le _⟩ (M_settle l D cy sz0 sa ad (rS (rA (rS σ 59 (0 : Int32)) 58 F21) 59 n22) H.size k0 (v_convert_11 k0 n22 hpre_0 hpre_1 hr20_0 hr20_1)) (n := 1) ⟨wm_256, wm_240, by decide +kernel⟩ ⟨wm_257, wm_258, wm_10⟩ rfl rfl (lv_room (Nat.le_of_ble_eq_true rfl)) ⟨Nat.le_of_ble_eq_true rfl, Nat.le_of_ble_eq_true rfl⟩ dX12_convert_17 (fun u H locs hr23 hP hS => ?_)
    obtain ⟨F24, G25, G26, X27⟩ := u
    have hr23 : Cell1 (σ.2.1 51) F24 (σ.2.2.1 52) G25 (σ.2.2.2) X27 k0.toNatClampNeg (fun k v r => k = 4) := hr23
    have hP : RP D cy ad (rR (rJ (rJ (rA (rS (rA (rS σ 59 (0 : Int32)) 58 F21) 59 n22) 51 F24) 52 G25) 53 G26) X27) H := hP
    refine lv_goto (tgt := 84) hx hb dX12_convert_20 (by decide) ?_
    have hP : RP D cy ad (rS (rA (rS (rR (rJ (rJ (rA σ 51 F24) 52 G25) 53 G26) X27) 56 (σ.1 56)) 58 F21) 59 n22) H := RP.cong hP (Eq.trans (b := (σ.1 0)) rfl rfl) (Eq.trans (b := (σ.1 1)) rfl rfl) (Eq.trans (b := (σ.2.1 2)) rfl rfl) (Eq.trans (b := (σ.1 3)) rfl rfl) (Eq.trans (b := (σ.2.1 4)) rfl rfl) (Eq.trans (b := (σ.2.1 5)) rfl rfl) (Eq.trans (b := (σ.2.2.1 6)) rfl rfl) (Eq.trans (b := (σ.2.1 7)) rfl rfl) (Eq.trans (b := (σ.1 8)) rfl rfl) (Eq.trans (b := (σ.1 9)) rfl rfl) (Eq.trans (b := (σ.1 10)) rfl rfl) (Eq.trans (b := (σ.2.1 11)) rfl rfl) (Eq.trans (b := (σ.2.2.1 12)) rfl rfl) (Eq.trans (b := (σ.2.1 13)) rfl rfl) (Eq.trans (b := (σ.1 14)) rfl rfl) (Eq.trans (b := (σ.1 15)) rfl rfl) (Eq.trans (b := (σ.1 16)) rfl rfl) (Eq.trans (b := (σ.1 17)) rfl rfl) (Eq.trans (b := (σ.1 18)) rfl rfl) (Eq.trans (b := (σ.1 19)) rfl rfl) (Eq.trans (b := (σ.2.1 20)) rfl rfl) (Eq.trans (b := (σ.2.1 21)) rfl rfl) (Eq.trans (b := (σ.2.1 22)) rfl rfl) (Eq.trans (b := (σ.2.1 23)) rfl rfl) (Eq.trans (b := (σ.2.1 24)) rfl rfl) (Eq.trans (b := (σ.2.1 25)) rfl rfl) (Eq.trans (b := (σ.2.1 26)) rfl rfl) (Eq.trans (b := (σ.2.1 27)) rfl rfl) (Eq.trans (b := (σ.2.1 28)) rfl rfl) (Eq.trans (b := (σ.1 29)) rfl rfl) (Eq.trans (b := (σ.2.1 30)) rfl rfl) (Eq.trans (b := (σ.2.1 31)) rfl rfl) (Eq.trans (b := (σ.2.1 32)) rfl rfl) (Eq.trans (b := (σ.1 33)) rfl rfl) (Eq.trans (b := (σ.1 34)) rfl rfl) (Eq.trans (b := (σ.1 35)) rfl rfl) (Eq.trans (b := (σ.2.1 36)) rfl rfl) (Eq.trans (b := (σ.2.1 37)) rfl rfl) (Eq.trans (b := (σ.2.1 38)) rfl rfl) (Eq.trans (b := (σ.2.1 39)) rfl rfl) (Eq.trans (b := (σ.2.1 40)) rfl rfl) (Eq.trans (b := (σ.2.1 41)) rfl rfl) (Eq.trans (b := (σ.2.1 42)) rfl rfl) (Eq.trans (b := (σ.2.1 43)) rfl rfl) (Eq.trans (b := (σ.2.1 44)) rfl rfl) (Eq.trans (b := (σ.2.1 45)) rfl rfl) (Eq.trans (b := (σ.2.1 46)) rfl rfl) (Eq.trans (b := (σ.1 47)) rfl rfl) (Eq.trans (b := (σ.2.1 48)) rfl rfl) (Eq.trans (b := (σ.1 49)) rfl rfl) (Eq.trans (b := (σ.2.1 50)) rfl rfl) (Eq.trans (b := F24) rfl rfl) (Eq.trans (b := G25) rfl rfl) (Eq.trans (b := G26) rfl rfl) (Eq.trans (b := X27) rfl rfl) (Eq.trans (b := (σ.1 55)) rfl rfl) (Eq.trans (b := (σ.1 56)) rfl rfl) (Eq.trans (b := (σ.1 57)) rfl rfl) (Eq.trans (b := F21) rfl rfl) (Eq.trans (b := n22) rfl rfl)
    exact r_retv C ⟨F24, G25, G26, X27, (σ.1 56), F21, n22⟩ (v_convert_12 σ k0 F24 G25 G26 X27 hpre_0 hpre_1 hpre_2 hpre_3 hr23) hP hS dX12_convert_84

-- pre:fitsType@3 @3
theorem v_fit_1 (σ : RS) (k0 : Int32) (k1 : Int32) (hpre_1 : 0 ≤ (σ.1 35).toInt) (hpre_2 : (σ.1 35).toInt ≤ 5) (hpre_3 : CLS (σ.1 35).toInt (σ.2.1 36) (σ.2.1 37) (σ.2.1 40)) (hpre_4 : 0 ≤ k0.toInt) (hpre_5 : k0.toInt < 980) (hpre_6 : CV (σ.2.1 51) (σ.2.2.1 52) (σ.1 35).toInt (σ.1 47).toInt k0.toNatClampNeg) (hpre_7 : 0 ≤ k1.toInt) (hpre_8 : k1.toInt ≤ 12) : 0 ≤ (σ.1 35).toInt ∧ (σ.1 35).toInt ≤ 5 ∧ CLS (σ.1 35).toInt (σ.2.1 36) (σ.2.1 37) (σ.2.1 40) ∧ 0 ≤ k0.toInt ∧ k0.toInt < 980 ∧ CV (σ.2.1 51) (σ.2.2.1 52) (σ.1 35).toInt (σ.1 47).toInt k0.toNatClampNeg ∧ 0 ≤ k1.toInt ∧ k1.toInt ≤ 12 := by
  refine ⟨?_, ?_, ?_, ?_, ?_, ?_, ?_, ?_⟩ <;> first | assumption | omega | (subst_vars; omega) | trivial
-- pre:convertible@13 @13
theorem v_fit_2 (σ : RS) (k0 : Int32) (k1 : Int32) (r1 : Int32) (hpre_0 : BLS (σ.2.1 46)) (hpre_1 : 0 ≤ (σ.1 35).toInt) (hpre_2 : (σ.1 35).toInt ≤ 5) (hpre_3 : CLS (σ.1 35).toInt (σ.2.1 36) (σ.2.1 37) (σ.2.1 40)) (hpre_4 : 0 ≤ k0.toInt) (hpre_5 : k0.toInt < 980) (hpre_6 : CV (σ.2.1 51) (σ.2.2.1 52) (σ.1 35).toInt (σ.1 47).toInt k0.toNatClampNeg) (hpre_7 : 0 ≤ k1.toInt) (hpre_8 : k1.toInt ≤ 12) (hr1_0 : r1.toInt = 0 ∨ r1.toInt = 1) (hr1_1 : ¬ r1.toInt = 0 → k1.toInt = 5 ∨ ((σ.2.1 51) k0.toNatClampNeg).toInt = k1.toInt ∨ ((σ.2.1 51) k0.toNatClampNeg).toInt = 0 ∨ 8 ≤ ((σ.2.1 51) k0.toNatClampNeg).toInt) (c2 : r1.toInt = 0) : BLS (σ.2.1 46) ∧ 0 ≤ (σ.1 35).toInt ∧ (σ.1 35).toInt ≤ 5 ∧ CLS (σ.1 35).toInt (σ.2.1 36) (σ.2.1 37) (σ.2.1 40) ∧ 0 ≤ k0.toInt ∧ k0.toInt < 980 ∧ CV (σ.2.1 51) (σ.2.2.1 52) (σ.1 35).toInt (σ.1 47).toInt k0.toNatClampNeg ∧ 0 ≤ k1.toInt ∧ k1.toInt ≤ 12 := by
  refine ⟨?_, ?_, ?_, ?_, ?_, ?_, ?_, ?_, ?_⟩ <;> first | assumption | omega | (subst_vars; omega) | trivial
-- post @34
theorem v_fit_3 (σ : RS) (k0 : Int32) (k1 : Int32) (r1 : Int32) (r3 : Int32) (hpre_1 : 0 ≤ (σ.1 35).toInt) (hpre_2 : (σ.1 35).toInt ≤ 5) (hpre_3 : CLS (σ.1 35).toInt (σ.2.1 36) (σ.2.1 37) (σ.2.1 40)) (hpre_4 : 0 ≤ k0.toInt) (hpre_5 : k0.toInt < 980) (hpre_6 : CV (σ.2.1 51) (σ.2.2.1 52) (σ.1 35).toInt (σ.1 47).toInt k0.toNatClampNeg) (hpre_7 : 0 ≤ k1.toInt) (hpre_8 : k1.toInt ≤ 12) (hr1_0 : r1.toInt = 0 ∨ r1.toInt = 1) (hr1_1 : ¬ r1.toInt = 0 → k1.toInt = 5 ∨ ((σ.2.1 51) k0.toNatClampNeg).toInt = k1.toInt ∨ ((σ.2.1 51) k0.toNatClampNeg).toInt = 0 ∨ 8 ≤ ((σ.2.1 51) k0.toNatClampNeg).toInt) (c2 : r1.toInt = 0) (hr3_1 : ¬ r3.toInt = 0 → k1.toInt ≤ 4) (c4 : r3.toInt = 0) : 0 ≤ (6 : Int32).toInt ∧ (6 : Int32).toInt ≤ 11 ∧ (((σ.2.1 51) = (σ.2.1 51) ∧ (σ.2.2.1 52) = (σ.2.2.1 52) ∧ (σ.2.2.1 53) = (σ.2.2.1 53) ∧ (σ.2.2.2) = (σ.2.2.2)) ∨ (Cell1 (σ.2.1 51) (σ.2.1 51) (σ.2.2.1 52) (σ.2.2.1 52) (σ.2.2.2) (σ.2.2.2) k0.toNatClampNeg (fun k v r => 1 ≤ k ∧ k ≤ 4 ∧ (k = 3 → FN r)))) := by
  have q6 : (6 : Int32).toInt = 6 := by decide +kernel
  refine ⟨by omega, by omega, ?_⟩
  first
  | exact Or.inl ⟨rfl, rfl, rfl, rfl⟩
  | assumption
  | exact Or.inr (Cell1.imp (by assumption) (fun k v r h => by subst h; exact ⟨by omega, by omega, fun h => by omega⟩))
  | exact Or.inr ⟨_, _, _, rfl, rfl, rfl, by omega, by omega, fun h => by first | omega | (subst_vars; exact fp_i2d _)⟩
-- pre:convert@22 @22
theorem v_fit_4 (σ : RS) (k0 : Int32) (k1 : Int32) (r1 : Int32) (r3 : Int32) (hpre_1 : 0 ≤ (σ.1 35).toInt) (hpre_2 : (σ.1 35).toInt ≤ 5) (hpre_3 : CLS (σ.1 35).toInt (σ.2.1 36) (σ.2.1 37) (σ.2.1 40)) (hpre_4 : 0 ≤ k0.toInt) (hpre_5 : k0.toInt < 980) (hpre_6 : CV (σ.2.1 51) (σ.2.2.1 52) (σ.1 35).toInt (σ.1 47).toInt k0.toNatClampNeg) (hpre_7 : 0 ≤ k1.toInt) (hpre_8 : k1.toInt ≤ 12) (hpre_9 : 0 ≤ (σ.1 56).toInt) (hpre_10 : (σ.1 56).toInt ≤ 11) (hr1_0 : r1.toInt = 0 ∨ r1.toInt = 1) (hr1_1 : ¬ r1.toInt = 0 → k1.toInt = 5 ∨ ((σ.2.1 51) k0.toNatClampNeg).toInt = k1.toInt ∨ ((σ.2.1 51) k0.toNatClampNeg).toInt = 0 ∨ 8 ≤ ((σ.2.1 51) k0.toNatClampNeg).toInt) (c2 : r1.toInt = 0) (hr3_0 : r3.toInt = 0 ∨ r3.toInt = 1) (hr3_1 : ¬ r3.toInt = 0 → k1.toInt ≤ 4) (c4 : ¬ r3.toInt = 0) : 0 ≤ k0.toInt ∧ k0.toInt < 980 ∧ 0 ≤ (σ.1 56).toInt ∧ (σ.1 56).toInt ≤ 11 ∧ 0 ≤ k1.toInt ∧ k1.toInt ≤ 4 := by
  refine ⟨?_, ?_, ?_, ?_, ?_, ?_⟩ <;> first | assumption | omega | (subst_vars; omega) | trivial
-- post @34
theorem v_fit_5 (σ : RS) (k0 : Int32) (k1 : Int32) (r1 : Int32) (r3 : Int32) (F6 : (Nat → Int32)) (G7 : (Nat → Int64)) (G8 : (Nat → Int64)) (X9 : (Nat → UInt64)) (n10 : Int32) (hpre_1 : 0 ≤ (σ.1 35).toInt) (hpre_2 : (σ.1 35).toInt ≤ 5) (hpre_3 : CLS (σ.1 35).toInt (σ.2.1 36) (σ.2.1 37) (σ.2.1 40)) (hpre_4 : 0 ≤ k0.toInt) (hpre_5 : k0.toInt < 980) (hpre_6 : CV (σ.2.1 51) (σ.2.2.1 52) (σ.1 35).toInt (σ.1 47).toInt k0.toNatClampNeg) (hpre_7 : 0 ≤ k1.toInt) (hpre_8 : k1.toInt ≤ 12) (hr1_0 : r1.toInt = 0 ∨ r1.toInt = 1) (hr1_1 : ¬ r1.toInt = 0 → k1.toInt = 5 ∨ ((σ.2.1 51) k0.toNatClampNeg).toInt = k1.toInt ∨ ((σ.2.1 51) k0.toNatClampNeg).toInt = 0 ∨ 8 ≤ ((σ.2.1 51) k0.toNatClampNeg).toInt) (c2 : r1.toInt = 0) (hr3_1 : ¬ r3.toInt = 0 → k1.toInt ≤ 4) (c4 : ¬ r3.toInt = 0) (hr5_0 : 0 ≤ n10.toInt) (hr5_1 : n10.toInt ≤ 11) (hr5_2 : (F6 = (σ.2.1 51) ∧ G7 = (σ.2.2.1 52) ∧ G8 = (σ.2.2.1 53) ∧ X9 = (σ.2.2.2)) ∨ (Cell1 (σ.2.1 51) F6 (σ.2.2.1 52) G7 (σ.2.2.2) X9 k0.toNatClampNeg (fun k v r => 1 ≤ k ∧ k ≤ 4 ∧ (k = 3 → FN r)))) : 0 ≤ n10.toInt ∧ n10.toInt ≤ 11 ∧ ((F6 = (σ.2.1 51) ∧ G7 = (σ.2.2.1 52) ∧ G8 = (σ.2.2.1 53) ∧ X9 = (σ.2.2.2)) ∨ (Cell1 (σ.2.1 51) F6 (σ.2.2.1 52) G7 (σ.2.2.2) X9 k0.toNatClampNeg (fun k v r => 1 ≤ k ∧ k ≤ 4 ∧ (k = 3 → FN r)))) := by
  refine ⟨by omega, by omega, ?_⟩
  first
  | exact Or.inl ⟨rfl, rfl, rfl, rfl⟩
  | assumption
  | exact Or.inr (Cell1.imp (by assumption) (fun k v r h => by subst h; exact ⟨by omega, by omega, fun h => by omega⟩))
  | exact Or.inr ⟨_, _, _, rfl, rfl, rfl, by omega, by omega, fun h => by first | omega | (subst_vars; exact fp_i2d _)⟩
-- post @9
theorem v_fit_6 (σ : RS) (k0 : Int32) (k1 : Int32) (r1 : Int32) (hpre_1 : 0 ≤ (σ.1 35).toInt) (hpre_2 : (σ.1 35).toInt ≤ 5) (hpre_3 : CLS (σ.1 35).toInt (σ.2.1 36) (σ.2.1 37) (σ.2.1 40)) (hpre_4 : 0 ≤ k0.toInt) (hpre_5 : k0.toInt < 980) (hpre_6 : CV (σ.2.1 51) (σ.2.2.1 52) (σ.1 35).toInt (σ.1 47).toInt k0.toNatClampNeg) (hpre_7 : 0 ≤ k1.toInt) (hpre_8 : k1.toInt ≤ 12) (hpre_9 : 0 ≤ (σ.1 56).toInt) (hpre_10 : (σ.1 56).toInt ≤ 11) (hr1_0 : r1.toInt = 0 ∨ r1.toInt = 1) (hr1_1 : ¬ r1.toInt = 0 → k1.toInt = 5 ∨ ((σ.2.1 51) k0.toNatClampNeg).toInt = k1.toInt ∨ ((σ.2.1 51) k0.toNatClampNeg).toInt = 0 ∨ 8 ≤ ((σ.2.1 51) k0.toNatClampNeg).toInt) (c2 : ¬ r1.toInt = 0) : 0 ≤ (σ.1 56).toInt ∧ (σ.1 56).toInt ≤ 11 ∧ (((σ.2.1 51) = (σ.2.1 51) ∧ (σ.2.2.1 52) = (σ.2.2.1 52) ∧ (σ.2.2.1 53) = (σ.2.2.1 53) ∧ (σ.2.2.2) = (σ.2.2.2)) ∨ (Cell1 (σ.2.1 51) (σ.2.1 51) (σ.2.2.1 52) (σ.2.2.1 52) (σ.2.2.2) (σ.2.2.2) k0.toNatClampNeg (fun k v r => 1 ≤ k ∧ k ≤ 4 ∧ (k = 3 → FN r)))) := by
  refine ⟨by omega, by omega, ?_⟩
  first
  | exact Or.inl ⟨rfl, rfl, rfl, rfl⟩
  | assumption
  | exact Or.inr (Cell1.imp (by assumption) (fun k v r h => by subst h; exact ⟨by omega, by omega, fun h => by omega⟩))
  | exact Or.inr ⟨_, _, _, rfl, rfl, rfl, by omega, by omega, fun h => by first | omega | (subst_vars; exact fp_i2d _)⟩
set_option maxHeartbeats 4000000 in
set_option maxRecDepth 100000 in
theorem M_fit (l : Launch) (D : va_G) (cy : Nat → ClassId) (sz0 : Nat) (sa : Nat → Nat) (ad : Nat → Nat) (σ : RS) (sz : Nat) (k0 : Int32) (k1 : Int32) (hpre : BLS (σ.2.1 46) ∧ 0 ≤ (σ.1 35).toInt ∧ (σ.1 35).toInt ≤ 5 ∧ CLS (σ.1 35).toInt (σ.2.1 36) (σ.2.1 37) (σ.2.1 40) ∧ 0 ≤ k0.toInt ∧ k0.toInt < 980 ∧ CV (σ.2.1 51) (σ.2.2.1 52) (σ.1 35).toInt (σ.1 47).toInt k0.toNatClampNeg ∧ 0 ≤ k1.toInt ∧ k1.toInt ≤ 12 ∧ 0 ≤ (σ.1 56).toInt ∧ (σ.1 56).toInt ≤ 11) : Met l yX12_fit (Cond.code yX12_fit cX12_fit 3 none :: GWm) ({ frames := 4, cells := 0, slots := 0, locals := 95 }) (PcR D cy sz0 sa ad [.ref (ad 0), .int k0, .int k1] σ sz) (va_Qv (fun (u : (Nat → Int32) × (Nat → Int64) × (Nat → Int64) × (Nat → UInt64) × Int32 × (Nat → Int32) × Int32) => 0 ≤ u.2.2.2.2.1.toInt ∧ u.2.2.2.2.1.toInt ≤ 11 ∧ ((u.1 = (σ.2.1 51) ∧ u.2.1 = (σ.2.2.1 52) ∧ u.2.2.1 = (σ.2.2.1 53) ∧ u.2.2.2.1 = (σ.2.2.2)) ∨ (Cell1 (σ.2.1 51) u.1 (σ.2.2.1 52) u.2.1 (σ.2.2.2) u.2.2.2.1 k0.toNatClampNeg (fun k v r => 1 ≤ k ∧ k ≤ 4 ∧ (k = 3 → FN r))))) (fun (u : (Nat → Int32) × (Nat → Int64) × (Nat → Int64) × (Nat → UInt64) × Int32 × (Nat → Int32) × Int32) (t : State) => RP D cy ad (rS (rA (rS (rR (rJ (rJ (rA σ 51 u.1) 52 u.2.1) 53 u.2.2.1) u.2.2.2.1) 56 u.2.2.2.2.1) 58 u.2.2.2.2.2.1) 59 u.2.2.2.2.2.2) t.heap) (AR cy ad sz)) 0 0 (AR cy ad sz) := by
  refine RM_of (loc0 := [(0, .ref (ad 0)), (1, .int k0), (2, .int k1)]) (by decide) rfl rfl (Nat.le_of_ble_eq_true rfl) ?_
  intro p e s m below meth c ls hsz C hP hS hl
  have hx := C.1
  have hb := C.2.1
  have hown := C.2.2.2.2.1
  have hw := C.2.2.2.2.2.1
  clear hsz
  obtain ⟨hpre_0, hpre_1, hpre_2, hpre_3, hpre_4, hpre_5, hpre_6, hpre_7, hpre_8, hpre_9, hpre_10⟩ := hpre
  refine lv_aload_n hx hb dX12_fit_0 rfl (lv_at hl 0 rfl) ?_
  refine lv_iload_n hx hb dX12_fit_1 rfl (lv_at hl 1 rfl) ?_
  refine lv_iload_n hx hb dX12_fit_2 rfl (lv_at hl 2 rfl) ?_
  refine r_callVi (As := [.int k0, .int k1]) (rest := []) C hP hS hl.1 ⟨Nat.zero_le _, Nat.zero_le _⟩ (M_fitsType l D cy sz0 sa ad σ s.heap.size k0 k1 (v_fit_1 σ k0 k1 hpre_1 hpre_2 hpre_3 hpre_4 hpre_5 hpre_6 hpre_7 hpre_8)) (n := 2) ⟨wm_272, wm_266, by decide +kernel⟩ ⟨wm_273, wm_274, wm_10⟩ rfl rfl (lv_room (Nat.le_of_ble_eq_true rfl)) ⟨Nat.le_of_ble_eq_true rfl, Nat.le_of_ble_eq_true rfl⟩ dX12_fit_3 (fun r1 u H locs hr1 hP hS => ?_)
  have hr1 : (r1.toInt = 0 ∨ r1.toInt = 1) ∧ (¬ r1.toInt = 0 → k1.toInt = 5 ∨ ((σ.2.1 51) k0.toNatClampNeg).toInt = k1.toInt ∨ ((σ.2.1 51) k0.toNatClampNeg).toInt = 0 ∨ 8 ≤ ((σ.2.1 51) k0.toNatClampNeg).toInt) := hr1
  obtain ⟨hr1_0, hr1_1⟩ := hr1
  refine lv_if_eq (tgt := 10) hx hb dX12_fit_6 (by decide) (fun c2 => ?_) (fun c2 => ?_)
  · have c2 : r1.toInt = 0 := by have h := z_eq c2; rw [show (0 : Int32).toInt = 0 from by decide +kernel] at h; exact h
    refine lv_aload_n hx hb dX12_fit_10 rfl (lv_at hl 0 rfl) ?_
    refine lv_iload_n hx hb dX12_fit_11 rfl (lv_at hl 1 rfl) ?_
    refine lv_iload_n hx hb dX12_fit_12 rfl (lv_at hl 2 rfl) ?_
    refine r_callVi (As := [.int k0, .int k1]) (rest := []) C hP hS hl.1 ⟨Nat.zero_le _, Nat.zero_le _⟩ (M_convertible l D cy sz0 sa ad σ H.size k0 k1 (v_fit_2 σ k0 k1 r1 hpre_0 hpre_1 hpre_2 hpre_3 hpre_4 hpre_5 hpre_6 hpre_7 hpre_8 hr1_0 hr1_1 c2)) (n := 2) ⟨wm_275, wm_270, by decide +kernel⟩ ⟨wm_276, wm_277, wm_10⟩ rfl rfl (lv_room (Nat.le_of_ble_eq_true rfl)) ⟨Nat.le_of_ble_eq_true rfl, Nat.le_of_ble_eq_true rfl⟩ dX12_fit_13 (fun r3 u H locs hr3 hP hS => ?_)
    have hr3 : (r3.toInt = 0 ∨ r3.toInt = 1) ∧ (¬ r3.toInt = 0 → k1.toInt ≤ 4) := hr3
    obtain ⟨hr3_0, hr3_1⟩ := hr3
    refine lv_if_eq (tgt := 28) hx hb dX12_fit_16 (by decide) (fun c4 => ?_) (fun c4 => ?_)
    · have c4 : r3.toInt = 0 := by have h := z_eq c4; rw [show (0 : Int32).toInt = 0 from by decide +kernel] at h; exact h
      refine lv_aload_n hx hb dX12_fit_28 rfl (lv_at hl 0 rfl) ?_
      refine lv_bipush (v := 6) hx hb dX12_fit_29 (by decide +kernel) ?_
      refine rp_56 C hP hS wm_242 dX12_fit_31 (fun H locs hP hS => ?_)
      have hP : RP D cy ad (rS (rA (rS (rR (rJ (rJ (rA σ 51 (σ.2.1 51)) 52 (σ.2.2.1 52)) 53 (σ.2.2.1 53)) (σ.2.2.2)) 56 (6 : Int32)) 58 (σ.2.1 58)) 59 (σ.1 59)) H := RP.cong hP (Eq.trans (b := (σ.1 0)) rfl rfl) (Eq.trans (b := (σ.1 1)) rfl rfl) (Eq.trans (b := (σ.2.1 2)) rfl rfl) (Eq.trans (b := (σ.1 3)) rfl rfl) (Eq.trans (b := (σ.2.1 4)) rfl rfl) (Eq.trans (b := (σ.2.1 5)) rfl rfl) (Eq.trans (b := (σ.2.2.1 6)) rfl rfl) (Eq.trans (b := (σ.2.1 7)) rfl rfl) (Eq.trans (b := (σ.1 8)) rfl rfl) (Eq.trans (b := (σ.1 9)) rfl rfl) (Eq.trans (b := (σ.1 10)) rfl rfl) (Eq.trans (b := (σ.2.1 11)) rfl rfl) (Eq.trans (b := (σ.2.2.1 12)) rfl rfl) (Eq.trans (b := (σ.2.1 13)) rfl rfl) (Eq.trans (b := (σ.1 14)) rfl rfl) (Eq.trans (b := (σ.1 15)) rfl rfl) (Eq.trans (b := (σ.1 16)) rfl rfl) (Eq.trans (b := (σ.1 17)) rfl rfl) (Eq.trans (b := (σ.1 18)) rfl rfl) (Eq.trans (b := (σ.1 19)) rfl rfl) (Eq.trans (b := (σ.2.1 20)) rfl rfl) (Eq.trans (b := (σ.2.1 21)) rfl rfl) (Eq.trans (b := (σ.2.1 22)) rfl rfl) (Eq.trans (b := (σ.2.1 23)) rfl rfl) (Eq.trans (b := (σ.2.1 24)) rfl rfl) (Eq.trans (b := (σ.2.1 25)) rfl rfl) (Eq.trans (b := (σ.2.1 26)) rfl rfl) (Eq.trans (b := (σ.2.1 27)) rfl rfl) (Eq.trans (b := (σ.2.1 28)) rfl rfl) (Eq.trans (b := (σ.1 29)) rfl rfl) (Eq.trans (b := (σ.2.1 30)) rfl rfl) (Eq.trans (b := (σ.2.1 31)) rfl rfl) (Eq.trans (b := (σ.2.1 32)) rfl rfl) (Eq.trans (b := (σ.1 33)) rfl rfl) (Eq.trans (b := (σ.1 34)) rfl rfl) (Eq.trans (b := (σ.1 35)) rfl rfl) (Eq.trans (b := (σ.2.1 36)) rfl rfl) (Eq.trans (b := (σ.2.1 37)) rfl rfl) (Eq.trans (b := (σ.2.1 38)) rfl rfl) (Eq.trans (b := (σ.2.1 39)) rfl rfl) (Eq.trans (b := (σ.2.1 40)) rfl rfl) (Eq.trans (b := (σ.2.1 41)) rfl rfl) (Eq.trans (b := (σ.2.1 42)) rfl rfl) (Eq.trans (b := (σ.2.1 43)) rfl rfl) (Eq.trans (b := (σ.2.1 44)) rfl rfl) (Eq.trans (b := (σ.2.1 45)) rfl rfl) (Eq.trans (b := (σ.2.1 46)) rfl rfl) (Eq.trans (b := (σ.1 47)) rfl rfl) (Eq.trans (b := (σ.2.1 48)) rfl rfl) (Eq.trans (b := (σ.1 49)) rfl rfl) (Eq.trans (b := (σ.2.1 50)) rfl rfl) (Eq.trans (b := (σ.2.1 51)) rfl rfl) (Eq.trans (b := (σ.2.2.1 52)) rfl rfl) (Eq.trans (b := (σ.2.2.1 53)) rfl rfl) (Eq.trans (b := (σ.2.2.2)) rfl rfl) (Eq.trans (b := (σ.1 55)) rfl rfl) (Eq.trans (b := (6 : Int32)) rfl rfl) (Eq.trans (b := (σ.1 57)) rfl rfl) (Eq.trans (b := (σ.2.1 58)) rfl rfl) (Eq.trans (b := (σ.1 59)) rfl rfl)
      exact r_retv C ⟨(σ.2.1 51), (σ.2.2.1 52), (σ.2.2.1 53), (σ.2.2.2), (6 : Int32), (σ.2.1 58), (σ.1 59)⟩ (v_fit_3 σ k0 k1 r1 r3 hpre_1 hpre_2 hpre_3 hpre_4 hpre_5 hpre_6 hpre_7 hpre_8 hr1_0 hr1_1 c2 hr3_1 c4) hP hS dX12_fit_34
    · have c4 : ¬ r3.toInt = 0 := by have h := z_ne c4; rw [show (0 : Int32).toInt = 0 from by decide +kernel] at h; exact h
      refine lv_aload_n hx hb dX12_fit_19 rfl (lv_at hl 0 rfl) ?_
      refine lv_iload_n hx hb dX12_fit_20 rfl (lv_at hl 1 rfl) ?_
      refine lv_iload_n hx hb dX12_fit_21 rfl (lv_at hl 2 rfl) ?_
      refine r_callVv (As := [.int k0, .int k1]) (rest := []) C hP hS hl.1 ⟨Nat.zero_le _, Nat.zero_le _⟩ (M_convert l D cy sz0 sa ad σ H.size k0 k1 (v_fit_4 σ k0 k1 r1 r3 hpre_1 hpre_2 hpre_3 hpre_4 hpre_5 hpre_6 hpre_7 hpre_8 hpre_9 hpre_10 hr1_0 hr1_1 c2 hr3_0 hr3_1 c4)) (n := 2) ⟨wm_278, wm_252, by decide +kernel⟩ ⟨wm_279, wm_280, wm_10⟩ rfl rfl (lv_room (Nat.le_of_ble_eq_true rfl)) ⟨Nat.le_of_ble_eq_true rfl, Nat.le_of_ble_eq_true rfl⟩ dX12_fit_22 (fun u H locs hr5 hP hS => ?_)
      obtain ⟨F6, G7, G8, X9, n10, F11, n12⟩ := u
      have hr5 : 0 ≤ n10.toInt ∧ n10.toInt ≤ 11 ∧ ((F6 = (σ.2.1 51) ∧ G7 = (σ.2.2.1 52) ∧ G8 = (σ.2.2.1 53) ∧ X9 = (σ.2.2.2)) ∨ (Cell1 (σ.2.1 51) F6 (σ.2.2.1 52) G7 (σ.2.2.2) X9 k0.toNatClampNeg (fun k v r => 1 ≤ k ∧ k ≤ 4 ∧ (k = 3 → FN r)))) := hr5
      obtain ⟨hr5_0, hr5_1, hr5_2⟩ := hr5
      have hP : RP D cy ad (rS (rA (rS (rR (rJ (rJ (rA σ 51 F6) 52 G7) 53 G8) X9) 56 n10) 58 F11) 59 n12) H := hP
      refine lv_goto (tgt := 34) hx hb dX12_fit_25 (by decide) ?_
      exact r_retv C ⟨F6, G7, G8, X9, n10, F11, n12⟩ (v_fit_5 σ k0 k1 r1 r3 F6 G7 G8 X9 n10 hpre_1 hpre_2 hpre_3 hpre_4 hpre_5 hpre_6 hpre_7 hpre_8 hr1_0 hr1_1 c2 hr3_1 c4 hr5_0 hr5_1 hr5_2) hP hS dX12_fit_34
  · have c2 : ¬ r1.toInt = 0 := by have h := z_ne c2; rw [show (0 : Int32).toInt = 0 from by decide +kernel] at h; exact h
    have hP : RP D cy ad (rS (rA (rS (rR (rJ (rJ (rA σ 51 (σ.2.1 51)) 52 (σ.2.2.1 52)) 53 (σ.2.2.1 53)) (σ.2.2.2)) 56 (σ.1 56)) 58 (σ.2.1 58)) 59 (σ.1 59)) H := RP.cong hP (Eq.trans (b := (σ.1 0)) rfl rfl) (Eq.trans (b := (σ.1 1)) rfl rfl) (Eq.trans (b := (σ.2.1 2)) rfl rfl) (Eq.trans (b := (σ.1 3)) rfl rfl) (Eq.trans (b := (σ.2.1 4)) rfl rfl) (Eq.trans (b := (σ.2.1 5)) rfl rfl) (Eq.trans (b := (σ.2.2.1 6)) rfl rfl) (Eq.trans (b := (σ.2.1 7)) rfl rfl) (Eq.trans (b := (σ.1 8)) rfl rfl) (Eq.trans (b := (σ.1 9)) rfl rfl) (Eq.trans (b := (σ.1 10)) rfl rfl) (Eq.trans (b := (σ.2.1 11)) rfl rfl) (Eq.trans (b := (σ.2.2.1 12)) rfl rfl) (Eq.trans (b := (σ.2.1 13)) rfl rfl) (Eq.trans (b := (σ.1 14)) rfl rfl) (Eq.trans (b := (σ.1 15)) rfl rfl) (Eq.trans (b := (σ.1 16)) rfl rfl) (Eq.trans (b := (σ.1 17)) rfl rfl) (Eq.trans (b := (σ.1 18)) rfl rfl) (Eq.trans (b := (σ.1 19)) rfl rfl) (Eq.trans (b := (σ.2.1 20)) rfl rfl) (Eq.trans (b := (σ.2.1 21)) rfl rfl) (Eq.trans (b := (σ.2.1 22)) rfl rfl) (Eq.trans (b := (σ.2.1 23)) rfl rfl) (Eq.trans (b := (σ.2.1 24)) rfl rfl) (Eq.trans (b := (σ.2.1 25)) rfl rfl) (Eq.trans (b := (σ.2.1 26)) rfl rfl) (Eq.trans (b := (σ.2.1 27)) rfl rfl) (Eq.trans (b := (σ.2.1 28)) rfl rfl) (Eq.trans (b := (σ.1 29)) rfl rfl) (Eq.trans (b := (σ.2.1 30)) rfl rfl) (Eq.trans (b := (σ.2.1 31)) rfl rfl) (Eq.trans (b := (σ.2.1 32)) rfl rfl) (Eq.trans (b := (σ.1 33)) rfl rfl) (Eq.trans (b := (σ.1 34)) rfl rfl) (Eq.trans (b := (σ.1 35)) rfl rfl) (Eq.trans (b := (σ.2.1 36)) rfl rfl) (Eq.trans (b := (σ.2.1 37)) rfl rfl) (Eq.trans (b := (σ.2.1 38)) rfl rfl) (Eq.trans (b := (σ.2.1 39)) rfl rfl) (Eq.trans (b := (σ.2.1 40)) rfl rfl) (Eq.trans (b := (σ.2.1 41)) rfl rfl) (Eq.trans (b := (σ.2.1 42)) rfl rfl) (Eq.trans (b := (σ.2.1 43)) rfl rfl) (Eq.trans (b := (σ.2.1 44)) rfl rfl) (Eq.trans (b := (σ.2.1 45)) rfl rfl) (Eq.trans (b := (σ.2.1 46)) rfl rfl) (Eq.trans (b := (σ.1 47)) rfl rfl) (Eq.trans (b := (σ.2.1 48)) rfl rfl) (Eq.trans (b := (σ.1 49)) rfl rfl) (Eq.trans (b := (σ.2.1 50)) rfl rfl) (Eq.trans (b := (σ.2.1 51)) rfl rfl) (Eq.trans (b := (σ.2.2.1 52)) rfl rfl) (Eq.trans (b := (σ.2.2.1 53)) rfl rfl) (Eq.trans (b := (σ.2.2.2)) rfl rfl) (Eq.trans (b := (σ.1 55)) rfl rfl) (Eq.trans (b := (σ.1 56)) rfl rfl) (Eq.trans (b := (σ.1 57)) rfl rfl) (Eq.trans (b := (σ.2.1 58)) rfl rfl) (Eq.trans (b := (σ.1 59)) rfl rfl)
    exact r_retv C ⟨(σ.2.1 51), (σ.2.2.1 52), (σ.2.2.1 53), (σ.2.2.2), (σ.1 56), (σ.2.1 58), (σ.1 59)⟩ (v_fit_6 σ k0 k1 r1 hpre_1 hpre_2 hpre_3 hpre_4 hpre_5 hpre_6 hpre_7 hpre_8 hpre_9 hpre_10 hr1_0 hr1_1 c2) hP hS dX12_fit_9
