-- in@8 @8
theorem v_levelNext_1 (σ : RS) (hpre_0 : 0 ≤ (σ.1 14).toInt) (hpre_1 : (σ.1 14).toInt ≤ 41) : vp_in (σ.1 14) 42 := by
  exact vp_in_iff.mpr ⟨by omega, by omega⟩
-- in@23 @23
theorem v_levelNext_2 (σ : RS) (x1 : Int32) (hpre_0 : 0 ≤ (σ.1 14).toInt) (hpre_1 : (σ.1 14).toInt ≤ 41) (ex1 : x1 = (σ.2.1 4) (σ.1 14).toNatClampNeg) (tx1 : x1.toInt = ((σ.2.1 4) (σ.1 14).toNatClampNeg).toInt) (c2 : x1.toInt = 5) : vp_in (σ.1 14) 42 := by
  exact vp_in_iff.mpr ⟨by omega, by omega⟩
-- post @39
theorem v_levelNext_3 (σ : RS) (x1 : Int32) (x3 : Int64) (x4 : Int32) (hpre_0 : 0 ≤ (σ.1 14).toInt) (hpre_1 : (σ.1 14).toInt ≤ 41) (ex1 : x1 = (σ.2.1 4) (σ.1 14).toNatClampNeg) (tx1 : x1.toInt = ((σ.2.1 4) (σ.1 14).toNatClampNeg).toInt) (c2 : x1.toInt = 5) (ex3 : x3 = (σ.2.2.1 6) (σ.1 14).toNatClampNeg) (tx3 : x3.toInt = ((σ.2.2.1 6) (σ.1 14).toNatClampNeg).toInt) (ex4 : x4 = Int64.toInt32 x3) (tx4 : -2147483648 ≤ x3.toInt → x3.toInt < 2147483648 → x4.toInt = x3.toInt) (c5 : x4.toInt = 43) : 0 ≤ (4 : Int32).toInt ∧ (4 : Int32).toInt ≤ 5 ∧ (0 < (4 : Int32).toInt → ((σ.2.1 4) (σ.1 14).toNatClampNeg).toInt = 5) := by
  have q4 : (4 : Int32).toInt = 4 := by decide +kernel
  refine ⟨?_, ?_, ?_⟩ <;> first | assumption | omega | (subst_vars; omega) | trivial
-- post2 @39
theorem v_levelNext_4 (σ : RS) (x1 : Int32) (x3 : Int64) (x4 : Int32) (hpre_0 : 0 ≤ (σ.1 14).toInt) (hpre_1 : (σ.1 14).toInt ≤ 41) (ex1 : x1 = (σ.2.1 4) (σ.1 14).toNatClampNeg) (tx1 : x1.toInt = ((σ.2.1 4) (σ.1 14).toNatClampNeg).toInt) (c2 : x1.toInt = 5) (ex3 : x3 = (σ.2.2.1 6) (σ.1 14).toNatClampNeg) (tx3 : x3.toInt = ((σ.2.2.1 6) (σ.1 14).toNatClampNeg).toInt) (ex4 : x4 = Int64.toInt32 x3) (tx4 : -2147483648 ≤ x3.toInt → x3.toInt < 2147483648 → x4.toInt = x3.toInt) (c5 : x4.toInt = 43) : ((((σ.2.1 4)) (σ.1 14).toNatClampNeg).toInt = 5 → 33 ≤ (((σ.2.2.1 6)) (σ.1 14).toNatClampNeg).toInt ∧ (((σ.2.2.1 6)) (σ.1 14).toNatClampNeg).toInt ≤ 40000) → (4 : Int32).toInt = levC (tz (σ.2.1 4)) (tzl (σ.2.2.1 6)) (mkC ((σ.1 19).toInt).toNat ((σ.1 29).toInt).toNat ((σ.1 14).toInt).toNat ((σ.1 17).toInt) ((σ.1 8).toInt) ((σ.1 9).toInt) ((σ.1 18).toInt) ((σ.1 16).toInt).toNat ((σ.1 33).toInt) ((σ.1 34).toInt) (tz (σ.2.1 20)) (tz (σ.2.1 21)) (tz (σ.2.1 22)) (tz (σ.2.1 23)) (tz (σ.2.1 24)) (tz (σ.2.1 25)) (tz (σ.2.1 26)) (tz (σ.2.1 27)) (tz (σ.2.1 28)) (tz (σ.2.1 30)) (tz (σ.2.1 31)) (tz (σ.2.1 32)) (tz (σ.2.1 11)) (tzl (σ.2.2.1 12))) := by
  have q4 : (4 : Int32).toInt = 4 := by decide +kernel
  intro h8
  try simp only [clampN] at *
  have h7 := h8 (by omega)
  have h6 := tx4 (by omega) (by omega)
  unfold levC
  rw [if_pos (by simp only [xfr_mk, xwa_mk, xnx_mk, xop_mk, xer_mk, xwh_mk, xdn_mk, xwr_mk, xtg_mk, xts_mk, xfm_mk, xbs_mk, xsg_mk, xpa_mk, xcn_mk, xck_mk, xcl_mk, xpl_mk, xam_mk, xoo_mk, xlv_mk, xjm_mk, xst_mk, xwi_mk, tz]; omega)]
  simp only [xfr_mk, xwa_mk, xnx_mk, xop_mk, xer_mk, xwh_mk, xdn_mk, xwr_mk, xtg_mk, xts_mk, xfm_mk, xbs_mk, xsg_mk, xpa_mk, xcn_mk, xck_mk, xcl_mk, xpl_mk, xam_mk, xoo_mk, xlv_mk, xjm_mk, xst_mk, xwi_mk, tzl]
  unfold LVO
  (repeat' split) <;> omega
-- post @59
theorem v_levelNext_5 (σ : RS) (x1 : Int32) (x3 : Int64) (x4 : Int32) (hpre_0 : 0 ≤ (σ.1 14).toInt) (hpre_1 : (σ.1 14).toInt ≤ 41) (ex1 : x1 = (σ.2.1 4) (σ.1 14).toNatClampNeg) (tx1 : x1.toInt = ((σ.2.1 4) (σ.1 14).toNatClampNeg).toInt) (c2 : x1.toInt = 5) (ex3 : x3 = (σ.2.2.1 6) (σ.1 14).toNatClampNeg) (tx3 : x3.toInt = ((σ.2.2.1 6) (σ.1 14).toNatClampNeg).toInt) (ex4 : x4 = Int64.toInt32 x3) (tx4 : -2147483648 ≤ x3.toInt → x3.toInt < 2147483648 → x4.toInt = x3.toInt) (c5 : ¬ x4.toInt = 43) (c6 : ¬ x4.toInt = 45) (c7 : x4.toInt = 42) : 0 ≤ (5 : Int32).toInt ∧ (5 : Int32).toInt ≤ 5 ∧ (0 < (5 : Int32).toInt → ((σ.2.1 4) (σ.1 14).toNatClampNeg).toInt = 5) := by
  have q5 : (5 : Int32).toInt = 5 := by decide +kernel
  refine ⟨?_, ?_, ?_⟩ <;> first | assumption | omega | (subst_vars; omega) | trivial
-- post2 @59
theorem v_levelNext_6 (σ : RS) (x1 : Int32) (x3 : Int64) (x4 : Int32) (hpre_0 : 0 ≤ (σ.1 14).toInt) (hpre_1 : (σ.1 14).toInt ≤ 41) (ex1 : x1 = (σ.2.1 4) (σ.1 14).toNatClampNeg) (tx1 : x1.toInt = ((σ.2.1 4) (σ.1 14).toNatClampNeg).toInt) (c2 : x1.toInt = 5) (ex3 : x3 = (σ.2.2.1 6) (σ.1 14).toNatClampNeg) (tx3 : x3.toInt = ((σ.2.2.1 6) (σ.1 14).toNatClampNeg).toInt) (ex4 : x4 = Int64.toInt32 x3) (tx4 : -2147483648 ≤ x3.toInt → x3.toInt < 2147483648 → x4.toInt = x3.toInt) (c5 : ¬ x4.toInt = 43) (c6 : ¬ x4.toInt = 45) (c7 : x4.toInt = 42) : ((((σ.2.1 4)) (σ.1 14).toNatClampNeg).toInt = 5 → 33 ≤ (((σ.2.2.1 6)) (σ.1 14).toNatClampNeg).toInt ∧ (((σ.2.2.1 6)) (σ.1 14).toNatClampNeg).toInt ≤ 40000) → (5 : Int32).toInt = levC (tz (σ.2.1 4)) (tzl (σ.2.2.1 6)) (mkC ((σ.1 19).toInt).toNat ((σ.1 29).toInt).toNat ((σ.1 14).toInt).toNat ((σ.1 17).toInt) ((σ.1 8).toInt) ((σ.1 9).toInt) ((σ.1 18).toInt) ((σ.1 16).toInt).toNat ((σ.1 33).toInt) ((σ.1 34).toInt) (tz (σ.2.1 20)) (tz (σ.2.1 21)) (tz (σ.2.1 22)) (tz (σ.2.1 23)) (tz (σ.2.1 24)) (tz (σ.2.1 25)) (tz (σ.2.1 26)) (tz (σ.2.1 27)) (tz (σ.2.1 28)) (tz (σ.2.1 30)) (tz (σ.2.1 31)) (tz (σ.2.1 32)) (tz (σ.2.1 11)) (tzl (σ.2.2.1 12))) := by
  have q5 : (5 : Int32).toInt = 5 := by decide +kernel
  intro h8
  try simp only [clampN] at *
  have h7 := h8 (by omega)
  have h6 := tx4 (by omega) (by omega)
  unfold levC
  rw [if_pos (by simp only [xfr_mk, xwa_mk, xnx_mk, xop_mk, xer_mk, xwh_mk, xdn_mk, xwr_mk, xtg_mk, xts_mk, xfm_mk, xbs_mk, xsg_mk, xpa_mk, xcn_mk, xck_mk, xcl_mk, xpl_mk, xam_mk, xoo_mk, xlv_mk, xjm_mk, xst_mk, xwi_mk, tz]; omega)]
  simp only [xfr_mk, xwa_mk, xnx_mk, xop_mk, xer_mk, xwh_mk, xdn_mk, xwr_mk, xtg_mk, xts_mk, xfm_mk, xbs_mk, xsg_mk, xpa_mk, xcn_mk, xck_mk, xcl_mk, xpl_mk, xam_mk, xoo_mk, xlv_mk, xjm_mk, xst_mk, xwi_mk, tzl]
  unfold LVO
  (repeat' split) <;> omega
-- post @59
theorem v_levelNext_7 (σ : RS) (x1 : Int32) (x3 : Int64) (x4 : Int32) (hpre_0 : 0 ≤ (σ.1 14).toInt) (hpre_1 : (σ.1 14).toInt ≤ 41) (ex1 : x1 = (σ.2.1 4) (σ.1 14).toNatClampNeg) (tx1 : x1.toInt = ((σ.2.1 4) (σ.1 14).toNatClampNeg).toInt) (c2 : x1.toInt = 5) (ex3 : x3 = (σ.2.2.1 6) (σ.1 14).toNatClampNeg) (tx3 : x3.toInt = ((σ.2.2.1 6) (σ.1 14).toNatClampNeg).toInt) (ex4 : x4 = Int64.toInt32 x3) (tx4 : -2147483648 ≤ x3.toInt → x3.toInt < 2147483648 → x4.toInt = x3.toInt) (c5 : ¬ x4.toInt = 43) (c6 : ¬ x4.toInt = 45) (c7 : ¬ x4.toInt = 42) (c8 : x4.toInt = 47) : 0 ≤ (5 : Int32).toInt ∧ (5 : Int32).toInt ≤ 5 ∧ (0 < (5 : Int32).toInt → ((σ.2.1 4) (σ.1 14).toNatClampNeg).toInt = 5) := by
  have q5 : (5 : Int32).toInt = 5 := by decide +kernel
  refine ⟨?_, ?_, ?_⟩ <;> first | assumption | omega | (subst_vars; omega) | trivial
-- post2 @59
theorem v_levelNext_8 (σ : RS) (x1 : Int32) (x3 : Int64) (x4 : Int32) (hpre_0 : 0 ≤ (σ.1 14).toInt) (hpre_1 : (σ.1 14).toInt ≤ 41) (ex1 : x1 = (σ.2.1 4) (σ.1 14).toNatClampNeg) (tx1 : x1.toInt = ((σ.2.1 4) (σ.1 14).toNatClampNeg).toInt) (c2 : x1.toInt = 5) (ex3 : x3 = (σ.2.2.1 6) (σ.1 14).toNatClampNeg) (tx3 : x3.toInt = ((σ.2.2.1 6) (σ.1 14).toNatClampNeg).toInt) (ex4 : x4 = Int64.toInt32 x3) (tx4 : -2147483648 ≤ x3.toInt → x3.toInt < 2147483648 → x4.toInt = x3.toInt) (c5 : ¬ x4.toInt = 43) (c6 : ¬ x4.toInt = 45) (c7 : ¬ x4.toInt = 42) (c8 : x4.toInt = 47) : ((((σ.2.1 4)) (σ.1 14).toNatClampNeg).toInt = 5 → 33 ≤ (((σ.2.2.1 6)) (σ.1 14).toNatClampNeg).toInt ∧ (((σ.2.2.1 6)) (σ.1 14).toNatClampNeg).toInt ≤ 40000) → (5 : Int32).toInt = levC (tz (σ.2.1 4)) (tzl (σ.2.2.1 6)) (mkC ((σ.1 19).toInt).toNat ((σ.1 29).toInt).toNat ((σ.1 14).toInt).toNat ((σ.1 17).toInt) ((σ.1 8).toInt) ((σ.1 9).toInt) ((σ.1 18).toInt) ((σ.1 16).toInt).toNat ((σ.1 33).toInt) ((σ.1 34).toInt) (tz (σ.2.1 20)) (tz (σ.2.1 21)) (tz (σ.2.1 22)) (tz (σ.2.1 23)) (tz (σ.2.1 24)) (tz (σ.2.1 25)) (tz (σ.2.1 26)) (tz (σ.2.1 27)) (tz (σ.2.1 28)) (tz (σ.2.1 30)) (tz (σ.2.1 31)) (tz (σ.2.1 32)) (tz (σ.2.1 11)) (tzl (σ.2.2.1 12))) := by
  have q5 : (5 : Int32).toInt = 5 := by decide +kernel
  intro h8
  try simp only [clampN] at *
  have h7 := h8 (by omega)
  have h6 := tx4 (by omega) (by omega)
  unfold levC
  rw [if_pos (by simp only [xfr_mk, xwa_mk, xnx_mk, xop_mk, xer_mk, xwh_mk, xdn_mk, xwr_mk, xtg_mk, xts_mk, xfm_mk, xbs_mk, xsg_mk, xpa_mk, xcn_mk, xck_mk, xcl_mk, xpl_mk, xam_mk, xoo_mk, xlv_mk, xjm_mk, xst_mk, xwi_mk, tz]; omega)]
  simp only [xfr_mk, xwa_mk, xnx_mk, xop_mk, xer_mk, xwh_mk, xdn_mk, xwr_mk, xtg_mk, xts_mk, xfm_mk, xbs_mk, xsg_mk, xpa_mk, xcn_mk, xck_mk, xcl_mk, xpl_mk, xam_mk, xoo_mk, xlv_mk, xjm_mk, xst_mk, xwi_mk, tzl]
  unfold LVO
  (repeat' split) <;> omega
-- post @101
theorem v_levelNext_9 (σ : RS) (x1 : Int32) (x3 : Int64) (x4 : Int32) (hpre_0 : 0 ≤ (σ.1 14).toInt) (hpre_1 : (σ.1 14).toInt ≤ 41) (ex1 : x1 = (σ.2.1 4) (σ.1 14).toNatClampNeg) (tx1 : x1.toInt = ((σ.2.1 4) (σ.1 14).toNatClampNeg).toInt) (c2 : x1.toInt = 5) (ex3 : x3 = (σ.2.2.1 6) (σ.1 14).toNatClampNeg) (tx3 : x3.toInt = ((σ.2.2.1 6) (σ.1 14).toNatClampNeg).toInt) (ex4 : x4 = Int64.toInt32 x3) (tx4 : -2147483648 ≤ x3.toInt → x3.toInt < 2147483648 → x4.toInt = x3.toInt) (c5 : ¬ x4.toInt = 43) (c6 : ¬ x4.toInt = 45) (c7 : ¬ x4.toInt = 42) (c8 : ¬ x4.toInt = 47) (c9 : ¬ x4.toInt = 37) (c10 : x4.toInt = 60) : 0 ≤ (3 : Int32).toInt ∧ (3 : Int32).toInt ≤ 5 ∧ (0 < (3 : Int32).toInt → ((σ.2.1 4) (σ.1 14).toNatClampNeg).toInt = 5) := by
  have q3 : (3 : Int32).toInt = 3 := by decide +kernel
  refine ⟨?_, ?_, ?_⟩ <;> first | assumption | omega | (subst_vars; omega) | trivial
-- post2 @101
theorem v_levelNext_10 (σ : RS) (x1 : Int32) (x3 : Int64) (x4 : Int32) (hpre_0 : 0 ≤ (σ.1 14).toInt) (hpre_1 : (σ.1 14).toInt ≤ 41) (ex1 : x1 = (σ.2.1 4) (σ.1 14).toNatClampNeg) (tx1 : x1.toInt = ((σ.2.1 4) (σ.1 14).toNatClampNeg).toInt) (c2 : x1.toInt = 5) (ex3 : x3 = (σ.2.2.1 6) (σ.1 14).toNatClampNeg) (tx3 : x3.toInt = ((σ.2.2.1 6) (σ.1 14).toNatClampNeg).toInt) (ex4 : x4 = Int64.toInt32 x3) (tx4 : -2147483648 ≤ x3.toInt → x3.toInt < 2147483648 → x4.toInt = x3.toInt) (c5 : ¬ x4.toInt = 43) (c6 : ¬ x4.toInt = 45) (c7 : ¬ x4.toInt = 42) (c8 : ¬ x4.toInt = 47) (c9 : ¬ x4.toInt = 37) (c10 : x4.toInt = 60) : ((((σ.2.1 4)) (σ.1 14).toNatClampNeg).toInt = 5 → 33 ≤ (((σ.2.2.1 6)) (σ.1 14).toNatClampNeg).toInt ∧ (((σ.2.2.1 6)) (σ.1 14).toNatClampNeg).toInt ≤ 40000) → (3 : Int32).toInt = levC (tz (σ.2.1 4)) (tzl (σ.2.2.1 6)) (mkC ((σ.1 19).toInt).toNat ((σ.1 29).toInt).toNat ((σ.1 14).toInt).toNat ((σ.1 17).toInt) ((σ.1 8).toInt) ((σ.1 9).toInt) ((σ.1 18).toInt) ((σ.1 16).toInt).toNat ((σ.1 33).toInt) ((σ.1 34).toInt) (tz (σ.2.1 20)) (tz (σ.2.1 21)) (tz (σ.2.1 22)) (tz (σ.2.1 23)) (tz (σ.2.1 24)) (tz (σ.2.1 25)) (tz (σ.2.1 26)) (tz (σ.2.1 27)) (tz (σ.2.1 28)) (tz (σ.2.1 30)) (tz (σ.2.1 31)) (tz (σ.2.1 32)) (tz (σ.2.1 11)) (tzl (σ.2.2.1 12))) := by
  have q3 : (3 : Int32).toInt = 3 := by decide +kernel
  intro h8
  try simp only [clampN] at *
  have h7 := h8 (by omega)
  have h6 := tx4 (by omega) (by omega)
  unfold levC
  rw [if_pos (by simp only [xfr_mk, xwa_mk, xnx_mk, xop_mk, xer_mk, xwh_mk, xdn_mk, xwr_mk, xtg_mk, xts_mk, xfm_mk, xbs_mk, xsg_mk, xpa_mk, xcn_mk, xck_mk, xcl_mk, xpl_mk, xam_mk, xoo_mk, xlv_mk, xjm_mk, xst_mk, xwi_mk, tz]; omega)]
  simp only [xfr_mk, xwa_mk, xnx_mk, xop_mk, xer_mk, xwh_mk, xdn_mk, xwr_mk, xtg_mk, xts_mk, xfm_mk, xbs_mk, xsg_mk, xpa_mk, xcn_mk, xck_mk, xcl_mk, xpl_mk, xam_mk, xoo_mk, xlv_mk, xjm_mk, xst_mk, xwi_mk, tzl]
  unfold LVO
  (repeat' split) <;> omega
-- post @101
theorem v_levelNext_11 (σ : RS) (x1 : Int32) (x3 : Int64) (x4 : Int32) (hpre_0 : 0 ≤ (σ.1 14).toInt) (hpre_1 : (σ.1 14).toInt ≤ 41) (ex1 : x1 = (σ.2.1 4) (σ.1 14).toNatClampNeg) (tx1 : x1.toInt = ((σ.2.1 4) (σ.1 14).toNatClampNeg).toInt) (c2 : x1.toInt = 5) (ex3 : x3 = (σ.2.2.1 6) (σ.1 14).toNatClampNeg) (tx3 : x3.toInt = ((σ.2.2.1 6) (σ.1 14).toNatClampNeg).toInt) (ex4 : x4 = Int64.toInt32 x3) (tx4 : -2147483648 ≤ x3.toInt → x3.toInt < 2147483648 → x4.toInt = x3.toInt) (c5 : ¬ x4.toInt = 43) (c6 : ¬ x4.toInt = 45) (c7 : ¬ x4.toInt = 42) (c8 : ¬ x4.toInt = 47) (c9 : ¬ x4.toInt = 37) (c10 : ¬ x4.toInt = 60) (c11 : x4.toInt = 62) : 0 ≤ (3 : Int32).toInt ∧ (3 : Int32).toInt ≤ 5 ∧ (0 < (3 : Int32).toInt → ((σ.2.1 4) (σ.1 14).toNatClampNeg).toInt = 5) := by
  have q3 : (3 : Int32).toInt = 3 := by decide +kernel
  refine ⟨?_, ?_, ?_⟩ <;> first | assumption | omega | (subst_vars; omega) | trivial
-- post2 @101
theorem v_levelNext_12 (σ : RS) (x1 : Int32) (x3 : Int64) (x4 : Int32) (hpre_0 : 0 ≤ (σ.1 14).toInt) (hpre_1 : (σ.1 14).toInt ≤ 41) (ex1 : x1 = (σ.2.1 4) (σ.1 14).toNatClampNeg) (tx1 : x1.toInt = ((σ.2.1 4) (σ.1 14).toNatClampNeg).toInt) (c2 : x1.toInt = 5) (ex3 : x3 = (σ.2.2.1 6) (σ.1 14).toNatClampNeg) (tx3 : x3.toInt = ((σ.2.2.1 6) (σ.1 14).toNatClampNeg).toInt) (ex4 : x4 = Int64.toInt32 x3) (tx4 : -2147483648 ≤ x3.toInt → x3.toInt < 2147483648 → x4.toInt = x3.toInt) (c5 : ¬ x4.toInt = 43) (c6 : ¬ x4.toInt = 45) (c7 : ¬ x4.toInt = 42) (c8 : ¬ x4.toInt = 47) (c9 : ¬ x4.toInt = 37) (c10 : ¬ x4.toInt = 60) (c11 : x4.toInt = 62) : ((((σ.2.1 4)) (σ.1 14).toNatClampNeg).toInt = 5 → 33 ≤ (((σ.2.2.1 6)) (σ.1 14).toNatClampNeg).toInt ∧ (((σ.2.2.1 6)) (σ.1 14).toNatClampNeg).toInt ≤ 40000) → (3 : Int32).toInt = levC (tz (σ.2.1 4)) (tzl (σ.2.2.1 6)) (mkC ((σ.1 19).toInt).toNat ((σ.1 29).toInt).toNat ((σ.1 14).toInt).toNat ((σ.1 17).toInt) ((σ.1 8).toInt) ((σ.1 9).toInt) ((σ.1 18).toInt) ((σ.1 16).toInt).toNat ((σ.1 33).toInt) ((σ.1 34).toInt) (tz (σ.2.1 20)) (tz (σ.2.1 21)) (tz (σ.2.1 22)) (tz (σ.2.1 23)) (tz (σ.2.1 24)) (tz (σ.2.1 25)) (tz (σ.2.1 26)) (tz (σ.2.1 27)) (tz (σ.2.1 28)) (tz (σ.2.1 30)) (tz (σ.2.1 31)) (tz (σ.2.1 32)) (tz (σ.2.1 11)) (tzl (σ.2.2.1 12))) := by
  have q3 : (3 : Int32).toInt = 3 := by decide +kernel
  intro h8
  try simp only [clampN] at *
  have h7 := h8 (by omega)
  have h6 := tx4 (by omega) (by omega)
  unfold levC
  rw [if_pos (by simp only [xfr_mk, xwa_mk, xnx_mk, xop_mk, xer_mk, xwh_mk, xdn_mk, xwr_mk, xtg_mk, xts_mk, xfm_mk, xbs_mk, xsg_mk, xpa_mk, xcn_mk, xck_mk, xcl_mk, xpl_mk, xam_mk, xoo_mk, xlv_mk, xjm_mk, xst_mk, xwi_mk, tz]; omega)]
  simp only [xfr_mk, xwa_mk, xnx_mk, xop_mk, xer_mk, xwh_mk, xdn_mk, xwr_mk, xtg_mk, xts_mk, xfm_mk, xbs_mk, xsg_mk, xpa_mk, xcn_mk, xck_mk, xcl_mk, xpl_mk, xam_mk, xoo_mk, xlv_mk, xjm_mk, xst_mk, xwi_mk, tzl]
  unfold LVO
  (repeat' split) <;> omega
-- post @101
theorem v_levelNext_13 (σ : RS) (x1 : Int32) (x3 : Int64) (x4 : Int32) (hpre_0 : 0 ≤ (σ.1 14).toInt) (hpre_1 : (σ.1 14).toInt ≤ 41) (ex1 : x1 = (σ.2.1 4) (σ.1 14).toNatClampNeg) (tx1 : x1.toInt = ((σ.2.1 4) (σ.1 14).toNatClampNeg).toInt) (c2 : x1.toInt = 5) (ex3 : x3 = (σ.2.2.1 6) (σ.1 14).toNatClampNeg) (tx3 : x3.toInt = ((σ.2.2.1 6) (σ.1 14).toNatClampNeg).toInt) (ex4 : x4 = Int64.toInt32 x3) (tx4 : -2147483648 ≤ x3.toInt → x3.toInt < 2147483648 → x4.toInt = x3.toInt) (c5 : ¬ x4.toInt = 43) (c6 : ¬ x4.toInt = 45) (c7 : ¬ x4.toInt = 42) (c8 : ¬ x4.toInt = 47) (c9 : ¬ x4.toInt = 37) (c10 : ¬ x4.toInt = 60) (c11 : ¬ x4.toInt = 62) (c12 : x4.toInt = 15421) : 0 ≤ (3 : Int32).toInt ∧ (3 : Int32).toInt ≤ 5 ∧ (0 < (3 : Int32).toInt → ((σ.2.1 4) (σ.1 14).toNatClampNeg).toInt = 5) := by
  have q3 : (3 : Int32).toInt = 3 := by decide +kernel
  refine ⟨?_, ?_, ?_⟩ <;> first | assumption | omega | (subst_vars; omega) | trivial
-- post2 @101
theorem v_levelNext_14 (σ : RS) (x1 : Int32) (x3 : Int64) (x4 : Int32) (hpre_0 : 0 ≤ (σ.1 14).toInt) (hpre_1 : (σ.1 14).toInt ≤ 41) (ex1 : x1 = (σ.2.1 4) (σ.1 14).toNatClampNeg) (tx1 : x1.toInt = ((σ.2.1 4) (σ.1 14).toNatClampNeg).toInt) (c2 : x1.toInt = 5) (ex3 : x3 = (σ.2.2.1 6) (σ.1 14).toNatClampNeg) (tx3 : x3.toInt = ((σ.2.2.1 6) (σ.1 14).toNatClampNeg).toInt) (ex4 : x4 = Int64.toInt32 x3) (tx4 : -2147483648 ≤ x3.toInt → x3.toInt < 2147483648 → x4.toInt = x3.toInt) (c5 : ¬ x4.toInt = 43) (c6 : ¬ x4.toInt = 45) (c7 : ¬ x4.toInt = 42) (c8 : ¬ x4.toInt = 47) (c9 : ¬ x4.toInt = 37) (c10 : ¬ x4.toInt = 60) (c11 : ¬ x4.toInt = 62) (c12 : x4.toInt = 15421) : ((((σ.2.1 4)) (σ.1 14).toNatClampNeg).toInt = 5 → 33 ≤ (((σ.2.2.1 6)) (σ.1 14).toNatClampNeg).toInt ∧ (((σ.2.2.1 6)) (σ.1 14).toNatClampNeg).toInt ≤ 40000) → (3 : Int32).toInt = levC (tz (σ.2.1 4)) (tzl (σ.2.2.1 6)) (mkC ((σ.1 19).toInt).toNat ((σ.1 29).toInt).toNat ((σ.1 14).toInt).toNat ((σ.1 17).toInt) ((σ.1 8).toInt) ((σ.1 9).toInt) ((σ.1 18).toInt) ((σ.1 16).toInt).toNat ((σ.1 33).toInt) ((σ.1 34).toInt) (tz (σ.2.1 20)) (tz (σ.2.1 21)) (tz (σ.2.1 22)) (tz (σ.2.1 23)) (tz (σ.2.1 24)) (tz (σ.2.1 25)) (tz (σ.2.1 26)) (tz (σ.2.1 27)) (tz (σ.2.1 28)) (tz (σ.2.1 30)) (tz (σ.2.1 31)) (tz (σ.2.1 32)) (tz (σ.2.1 11)) (tzl (σ.2.2.1 12))) := by
  have q3 : (3 : Int32).toInt = 3 := by decide +kernel
  intro h8
  try simp only [clampN] at *
  have h7 := h8 (by omega)
  have h6 := tx4 (by omega) (by omega)
  unfold levC
  rw [if_pos (by simp only [xfr_mk, xwa_mk, xnx_mk, xop_mk, xer_mk, xwh_mk, xdn_mk, xwr_mk, xtg_mk, xts_mk, xfm_mk, xbs_mk, xsg_mk, xpa_mk, xcn_mk, xck_mk, xcl_mk, xpl_mk, xam_mk, xoo_mk, xlv_mk, xjm_mk, xst_mk, xwi_mk, tz]; omega)]
  simp only [xfr_mk, xwa_mk, xnx_mk, xop_mk, xer_mk, xwh_mk, xdn_mk, xwr_mk, xtg_mk, xts_mk, xfm_mk, xbs_mk, xsg_mk, xpa_mk, xcn_mk, xck_mk, xcl_mk, xpl_mk, xam_mk, xoo_mk, xlv_mk, xjm_mk, xst_mk, xwi_mk, tzl]
  unfold LVO
  (repeat' split) <;> omega
-- post @101
theorem v_levelNext_15 (σ : RS) (x1 : Int32) (x3 : Int64) (x4 : Int32) (hpre_0 : 0 ≤ (σ.1 14).toInt) (hpre_1 : (σ.1 14).toInt ≤ 41) (ex1 : x1 = (σ.2.1 4) (σ.1 14).toNatClampNeg) (tx1 : x1.toInt = ((σ.2.1 4) (σ.1 14).toNatClampNeg).toInt) (c2 : x1.toInt = 5) (ex3 : x3 = (σ.2.2.1 6) (σ.1 14).toNatClampNeg) (tx3 : x3.toInt = ((σ.2.2.1 6) (σ.1 14).toNatClampNeg).toInt) (ex4 : x4 = Int64.toInt32 x3) (tx4 : -2147483648 ≤ x3.toInt → x3.toInt < 2147483648 → x4.toInt = x3.toInt) (c5 : ¬ x4.toInt = 43) (c6 : ¬ x4.toInt = 45) (c7 : ¬ x4.toInt = 42) (c8 : ¬ x4.toInt = 47) (c9 : ¬ x4.toInt = 37) (c10 : ¬ x4.toInt = 60) (c11 : ¬ x4.toInt = 62) (c12 : ¬ x4.toInt = 15421) (c13 : x4.toInt = 15933) : 0 ≤ (3 : Int32).toInt ∧ (3 : Int32).toInt ≤ 5 ∧ (0 < (3 : Int32).toInt → ((σ.2.1 4) (σ.1 14).toNatClampNeg).toInt = 5) := by
  have q3 : (3 : Int32).toInt = 3 := by decide +kernel
  refine ⟨?_, ?_, ?_⟩ <;> first | assumption | omega | (subst_vars; omega) | trivial
-- post2 @101
theorem v_levelNext_16 (σ : RS) (x1 : Int32) (x3 : Int64) (x4 : Int32) (hpre_0 : 0 ≤ (σ.1 14).toInt) (hpre_1 : (σ.1 14).toInt ≤ 41) (ex1 : x1 = (σ.2.1 4) (σ.1 14).toNatClampNeg) (tx1 : x1.toInt = ((σ.2.1 4) (σ.1 14).toNatClampNeg).toInt) (c2 : x1.toInt = 5) (ex3 : x3 = (σ.2.2.1 6) (σ.1 14).toNatClampNeg) (tx3 : x3.toInt = ((σ.2.2.1 6) (σ.1 14).toNatClampNeg).toInt) (ex4 : x4 = Int64.toInt32 x3) (tx4 : -2147483648 ≤ x3.toInt → x3.toInt < 2147483648 → x4.toInt = x3.toInt) (c5 : ¬ x4.toInt = 43) (c6 : ¬ x4.toInt = 45) (c7 : ¬ x4.toInt = 42) (c8 : ¬ x4.toInt = 47) (c9 : ¬ x4.toInt = 37) (c10 : ¬ x4.toInt = 60) (c11 : ¬ x4.toInt = 62) (c12 : ¬ x4.toInt = 15421) (c13 : x4.toInt = 15933) : ((((σ.2.1 4)) (σ.1 14).toNatClampNeg).toInt = 5 → 33 ≤ (((σ.2.2.1 6)) (σ.1 14).toNatClampNeg).toInt ∧ (((σ.2.2.1 6)) (σ.1 14).toNatClampNeg).toInt ≤ 40000) → (3 : Int32).toInt = levC (tz (σ.2.1 4)) (tzl (σ.2.2.1 6)) (mkC ((σ.1 19).toInt).toNat ((σ.1 29).toInt).toNat ((σ.1 14).toInt).toNat ((σ.1 17).toInt) ((σ.1 8).toInt) ((σ.1 9).toInt) ((σ.1 18).toInt) ((σ.1 16).toInt).toNat ((σ.1 33).toInt) ((σ.1 34).toInt) (tz (σ.2.1 20)) (tz (σ.2.1 21)) (tz (σ.2.1 22)) (tz (σ.2.1 23)) (tz (σ.2.1 24)) (tz (σ.2.1 25)) (tz (σ.2.1 26)) (tz (σ.2.1 27)) (tz (σ.2.1 28)) (tz (σ.2.1 30)) (tz (σ.2.1 31)) (tz (σ.2.1 32)) (tz (σ.2.1 11)) (tzl (σ.2.2.1 12))) := by
  have q3 : (3 : Int32).toInt = 3 := by decide +kernel
  intro h8
  try simp only [clampN] at *
  have h7 := h8 (by omega)
  have h6 := tx4 (by omega) (by omega)
  unfold levC
  rw [if_pos (by simp only [xfr_mk, xwa_mk, xnx_mk, xop_mk, xer_mk, xwh_mk, xdn_mk, xwr_mk, xtg_mk, xts_mk, xfm_mk, xbs_mk, xsg_mk, xpa_mk, xcn_mk, xck_mk, xcl_mk, xpl_mk, xam_mk, xoo_mk, xlv_mk, xjm_mk, xst_mk, xwi_mk, tz]; omega)]
  simp only [xfr_mk, xwa_mk, xnx_mk, xop_mk, xer_mk, xwh_mk, xdn_mk, xwr_mk, xtg_mk, xts_mk, xfm_mk, xbs_mk, xsg_mk, xpa_mk, xcn_mk, xck_mk, xcl_mk, xpl_mk, xam_mk, xoo_mk, xlv_mk, xjm_mk, xst_mk, xwi_mk, tzl]
  unfold LVO
  (repeat' split) <;> omega
-- post @101
theorem v_levelNext_17 (σ : RS) (x1 : Int32) (x3 : Int64) (x4 : Int32) (hpre_0 : 0 ≤ (σ.1 14).toInt) (hpre_1 : (σ.1 14).toInt ≤ 41) (ex1 : x1 = (σ.2.1 4) (σ.1 14).toNatClampNeg) (tx1 : x1.toInt = ((σ.2.1 4) (σ.1 14).toNatClampNeg).toInt) (c2 : x1.toInt = 5) (ex3 : x3 = (σ.2.2.1 6) (σ.1 14).toNatClampNeg) (tx3 : x3.toInt = ((σ.2.2.1 6) (σ.1 14).toNatClampNeg).toInt) (ex4 : x4 = Int64.toInt32 x3) (tx4 : -2147483648 ≤ x3.toInt → x3.toInt < 2147483648 → x4.toInt = x3.toInt) (c5 : ¬ x4.toInt = 43) (c6 : ¬ x4.toInt = 45) (c7 : ¬ x4.toInt = 42) (c8 : ¬ x4.toInt = 47) (c9 : ¬ x4.toInt = 37) (c10 : ¬ x4.toInt = 60) (c11 : ¬ x4.toInt = 62) (c12 : ¬ x4.toInt = 15421) (c13 : ¬ x4.toInt = 15933) (c14 : x4.toInt = 15677) : 0 ≤ (3 : Int32).toInt ∧ (3 : Int32).toInt ≤ 5 ∧ (0 < (3 : Int32).toInt → ((σ.2.1 4) (σ.1 14).toNatClampNeg).toInt = 5) := by
  have q3 : (3 : Int32).toInt = 3 := by decide +kernel
  refine ⟨?_, ?_, ?_⟩ <;> first | assumption | omega | (subst_vars; omega) | trivial
-- post2 @101
theorem v_levelNext_18 (σ : RS) (x1 : Int32) (x3 : Int64) (x4 : Int32) (hpre_0 : 0 ≤ (σ.1 14).toInt) (hpre_1 : (σ.1 14).toInt ≤ 41) (ex1 : x1 = (σ.2.1 4) (σ.1 14).toNatClampNeg) (tx1 : x1.toInt = ((σ.2.1 4) (σ.1 14).toNatClampNeg).toInt) (c2 : x1.toInt = 5) (ex3 : x3 = (σ.2.2.1 6) (σ.1 14).toNatClampNeg) (tx3 : x3.toInt = ((σ.2.2.1 6) (σ.1 14).toNatClampNeg).toInt) (ex4 : x4 = Int64.toInt32 x3) (tx4 : -2147483648 ≤ x3.toInt → x3.toInt < 2147483648 → x4.toInt = x3.toInt) (c5 : ¬ x4.toInt = 43) (c6 : ¬ x4.toInt = 45) (c7 : ¬ x4.toInt = 42) (c8 : ¬ x4.toInt = 47) (c9 : ¬ x4.toInt = 37) (c10 : ¬ x4.toInt = 60) (c11 : ¬ x4.toInt = 62) (c12 : ¬ x4.toInt = 15421) (c13 : ¬ x4.toInt = 15933) (c14 : x4.toInt = 15677) : ((((σ.2.1 4)) (σ.1 14).toNatClampNeg).toInt = 5 → 33 ≤ (((σ.2.2.1 6)) (σ.1 14).toNatClampNeg).toInt ∧ (((σ.2.2.1 6)) (σ.1 14).toNatClampNeg).toInt ≤ 40000) → (3 : Int32).toInt = levC (tz (σ.2.1 4)) (tzl (σ.2.2.1 6)) (mkC ((σ.1 19).toInt).toNat ((σ.1 29).toInt).toNat ((σ.1 14).toInt).toNat ((σ.1 17).toInt) ((σ.1 8).toInt) ((σ.1 9).toInt) ((σ.1 18).toInt) ((σ.1 16).toInt).toNat ((σ.1 33).toInt) ((σ.1 34).toInt) (tz (σ.2.1 20)) (tz (σ.2.1 21)) (tz (σ.2.1 22)) (tz (σ.2.1 23)) (tz (σ.2.1 24)) (tz (σ.2.1 25)) (tz (σ.2.1 26)) (tz (σ.2.1 27)) (tz (σ.2.1 28)) (tz (σ.2.1 30)) (tz (σ.2.1 31)) (tz (σ.2.1 32)) (tz (σ.2.1 11)) (tzl (σ.2.2.1 12))) := by
  have q3 : (3 : Int32).toInt = 3 := by decide +kernel
  intro h8
  try simp only [clampN] at *
  have h7 := h8 (by omega)
  have h6 := tx4 (by omega) (by omega)
  unfold levC
  rw [if_pos (by simp only [xfr_mk, xwa_mk, xnx_mk, xop_mk, xer_mk, xwh_mk, xdn_mk, xwr_mk, xtg_mk, xts_mk, xfm_mk, xbs_mk, xsg_mk, xpa_mk, xcn_mk, xck_mk, xcl_mk, xpl_mk, xam_mk, xoo_mk, xlv_mk, xjm_mk, xst_mk, xwi_mk, tz]; omega)]
  simp only [xfr_mk, xwa_mk, xnx_mk, xop_mk, xer_mk, xwh_mk, xdn_mk, xwr_mk, xtg_mk, xts_mk, xfm_mk, xbs_mk, xsg_mk, xpa_mk, xcn_mk, xck_mk, xcl_mk, xpl_mk, xam_mk, xoo_mk, xlv_mk, xjm_mk, xst_mk, xwi_mk, tzl]
  unfold LVO
  (repeat' split) <;> omega
-- post @125
theorem v_levelNext_19 (σ : RS) (x1 : Int32) (x3 : Int64) (x4 : Int32) (hpre_0 : 0 ≤ (σ.1 14).toInt) (hpre_1 : (σ.1 14).toInt ≤ 41) (ex1 : x1 = (σ.2.1 4) (σ.1 14).toNatClampNeg) (tx1 : x1.toInt = ((σ.2.1 4) (σ.1 14).toNatClampNeg).toInt) (c2 : x1.toInt = 5) (ex3 : x3 = (σ.2.2.1 6) (σ.1 14).toNatClampNeg) (tx3 : x3.toInt = ((σ.2.2.1 6) (σ.1 14).toNatClampNeg).toInt) (ex4 : x4 = Int64.toInt32 x3) (tx4 : -2147483648 ≤ x3.toInt → x3.toInt < 2147483648 → x4.toInt = x3.toInt) (c5 : ¬ x4.toInt = 43) (c6 : ¬ x4.toInt = 45) (c7 : ¬ x4.toInt = 42) (c8 : ¬ x4.toInt = 47) (c9 : ¬ x4.toInt = 37) (c10 : ¬ x4.toInt = 60) (c11 : ¬ x4.toInt = 62) (c12 : ¬ x4.toInt = 15421) (c13 : ¬ x4.toInt = 15933) (c14 : ¬ x4.toInt = 15677) (c15 : ¬ x4.toInt = 8509) (c16 : ¬ x4.toInt = 9766) (c17 : ¬ x4.toInt = 31868) : 0 ≤ (0 : Int32).toInt ∧ (0 : Int32).toInt ≤ 5 ∧ (0 < (0 : Int32).toInt → ((σ.2.1 4) (σ.1 14).toNatClampNeg).toInt = 5) := by
  have q0 : (0 : Int32).toInt = 0 := by decide +kernel
  refine ⟨?_, ?_, ?_⟩ <;> first | assumption | omega | (subst_vars; omega) | trivial
-- post2 @125
theorem v_levelNext_20 (σ : RS) (x1 : Int32) (x3 : Int64) (x4 : Int32) (hpre_0 : 0 ≤ (σ.1 14).toInt) (hpre_1 : (σ.1 14).toInt ≤ 41) (ex1 : x1 = (σ.2.1 4) (σ.1 14).toNatClampNeg) (tx1 : x1.toInt = ((σ.2.1 4) (σ.1 14).toNatClampNeg).toInt) (c2 : x1.toInt = 5) (ex3 : x3 = (σ.2.2.1 6) (σ.1 14).toNatClampNeg) (tx3 : x3.toInt = ((σ.2.2.1 6) (σ.1 14).toNatClampNeg).toInt) (ex4 : x4 = Int64.toInt32 x3) (tx4 : -2147483648 ≤ x3.toInt → x3.toInt < 2147483648 → x4.toInt = x3.toInt) (c5 : ¬ x4.toInt = 43) (c6 : ¬ x4.toInt = 45) (c7 : ¬ x4.toInt = 42) (c8 : ¬ x4.toInt = 47) (c9 : ¬ x4.toInt = 37) (c10 : ¬ x4.toInt = 60) (c11 : ¬ x4.toInt = 62) (c12 : ¬ x4.toInt = 15421) (c13 : ¬ x4.toInt = 15933) (c14 : ¬ x4.toInt = 15677) (c15 : ¬ x4.toInt = 8509) (c16 : ¬ x4.toInt = 9766) (c17 : ¬ x4.toInt = 31868) : ((((σ.2.1 4)) (σ.1 14).toNatClampNeg).toInt = 5 → 33 ≤ (((σ.2.2.1 6)) (σ.1 14).toNatClampNeg).toInt ∧ (((σ.2.2.1 6)) (σ.1 14).toNatClampNeg).toInt ≤ 40000) → (0 : Int32).toInt = levC (tz (σ.2.1 4)) (tzl (σ.2.2.1 6)) (mkC ((σ.1 19).toInt).toNat ((σ.1 29).toInt).toNat ((σ.1 14).toInt).toNat ((σ.1 17).toInt) ((σ.1 8).toInt) ((σ.1 9).toInt) ((σ.1 18).toInt) ((σ.1 16).toInt).toNat ((σ.1 33).toInt) ((σ.1 34).toInt) (tz (σ.2.1 20)) (tz (σ.2.1 21)) (tz (σ.2.1 22)) (tz (σ.2.1 23)) (tz (σ.2.1 24)) (tz (σ.2.1 25)) (tz (σ.2.1 26)) (tz (σ.2.1 27)) (tz (σ.2.1 28)) (tz (σ.2.1 30)) (tz (σ.2.1 31)) (tz (σ.2.1 32)) (tz (σ.2.1 11)) (tzl (σ.2.2.1 12))) := by
  have q0 : (0 : Int32).toInt = 0 := by decide +kernel
  intro h8
  try simp only [clampN] at *
  have h7 := h8 (by omega)
  have h6 := tx4 (by omega) (by omega)
  unfold levC
  rw [if_pos (by simp only [xfr_mk, xwa_mk, xnx_mk, xop_mk, xer_mk, xwh_mk, xdn_mk, xwr_mk, xtg_mk, xts_mk, xfm_mk, xbs_mk, xsg_mk, xpa_mk, xcn_mk, xck_mk, xcl_mk, xpl_mk, xam_mk, xoo_mk, xlv_mk, xjm_mk, xst_mk, xwi_mk, tz]; omega)]
  simp only [xfr_mk, xwa_mk, xnx_mk, xop_mk, xer_mk, xwh_mk, xdn_mk, xwr_mk, xtg_mk, xts_mk, xfm_mk, xbs_mk, xsg_mk, xpa_mk, xcn_mk, xck_mk, xcl_mk, xpl_mk, xam_mk, xoo_mk, xlv_mk, xjm_mk, xst_mk, xwi_mk, tzl]
  unfold LVO
  (repeat' split) <;> omega
-- post @125
theorem v_levelNext_21 (σ : RS) (x1 : Int32) (x3 : Int64) (x4 : Int32) (hpre_0 : 0 ≤ (σ.1 14).toInt) (hpre_1 : (σ.1 14).toInt ≤ 41) (ex1 : x1 = (σ.2.1 4) (σ.1 14).toNatClampNeg) (tx1 : x1.toInt = ((σ.2.1 4) (σ.1 14).toNatClampNeg).toInt) (c2 : x1.toInt = 5) (ex3 : x3 = (σ.2.2.1 6) (σ.1 14).toNatClampNeg) (tx3 : x3.toInt = ((σ.2.2.1 6) (σ.1 14).toNatClampNeg).toInt) (ex4 : x4 = Int64.toInt32 x3) (tx4 : -2147483648 ≤ x3.toInt → x3.toInt < 2147483648 → x4.toInt = x3.toInt) (c5 : ¬ x4.toInt = 43) (c6 : ¬ x4.toInt = 45) (c7 : ¬ x4.toInt = 42) (c8 : ¬ x4.toInt = 47) (c9 : ¬ x4.toInt = 37) (c10 : ¬ x4.toInt = 60) (c11 : ¬ x4.toInt = 62) (c12 : ¬ x4.toInt = 15421) (c13 : ¬ x4.toInt = 15933) (c14 : ¬ x4.toInt = 15677) (c15 : ¬ x4.toInt = 8509) (c16 : ¬ x4.toInt = 9766) (c17 : x4.toInt = 31868) : 0 ≤ (1 : Int32).toInt ∧ (1 : Int32).toInt ≤ 5 ∧ (0 < (1 : Int32).toInt → ((σ.2.1 4) (σ.1 14).toNatClampNeg).toInt = 5) := by
  have q1 : (1 : Int32).toInt = 1 := by decide +kernel
  refine ⟨?_, ?_, ?_⟩ <;> first | assumption | omega | (subst_vars; omega) | trivial
-- post2 @125
theorem v_levelNext_22 (σ : RS) (x1 : Int32) (x3 : Int64) (x4 : Int32) (hpre_0 : 0 ≤ (σ.1 14).toInt) (hpre_1 : (σ.1 14).toInt ≤ 41) (ex1 : x1 = (σ.2.1 4) (σ.1 14).toNatClampNeg) (tx1 : x1.toInt = ((σ.2.1 4) (σ.1 14).toNatClampNeg).toInt) (c2 : x1.toInt = 5) (ex3 : x3 = (σ.2.2.1 6) (σ.1 14).toNatClampNeg) (tx3 : x3.toInt = ((σ.2.2.1 6) (σ.1 14).toNatClampNeg).toInt) (ex4 : x4 = Int64.toInt32 x3) (tx4 : -2147483648 ≤ x3.toInt → x3.toInt < 2147483648 → x4.toInt = x3.toInt) (c5 : ¬ x4.toInt = 43) (c6 : ¬ x4.toInt = 45) (c7 : ¬ x4.toInt = 42) (c8 : ¬ x4.toInt = 47) (c9 : ¬ x4.toInt = 37) (c10 : ¬ x4.toInt = 60) (c11 : ¬ x4.toInt = 62) (c12 : ¬ x4.toInt = 15421) (c13 : ¬ x4.toInt = 15933) (c14 : ¬ x4.toInt = 15677) (c15 : ¬ x4.toInt = 8509) (c16 : ¬ x4.toInt = 9766) (c17 : x4.toInt = 31868) : ((((σ.2.1 4)) (σ.1 14).toNatClampNeg).toInt = 5 → 33 ≤ (((σ.2.2.1 6)) (σ.1 14).toNatClampNeg).toInt ∧ (((σ.2.2.1 6)) (σ.1 14).toNatClampNeg).toInt ≤ 40000) → (1 : Int32).toInt = levC (tz (σ.2.1 4)) (tzl (σ.2.2.1 6)) (mkC ((σ.1 19).toInt).toNat ((σ.1 29).toInt).toNat ((σ.1 14).toInt).toNat ((σ.1 17).toInt) ((σ.1 8).toInt) ((σ.1 9).toInt) ((σ.1 18).toInt) ((σ.1 16).toInt).toNat ((σ.1 33).toInt) ((σ.1 34).toInt) (tz (σ.2.1 20)) (tz (σ.2.1 21)) (tz (σ.2.1 22)) (tz (σ.2.1 23)) (tz (σ.2.1 24)) (tz (σ.2.1 25)) (tz (σ.2.1 26)) (tz (σ.2.1 27)) (tz (σ.2.1 28)) (tz (σ.2.1 30)) (tz (σ.2.1 31)) (tz (σ.2.1 32)) (tz (σ.2.1 11)) (tzl (σ.2.2.1 12))) := by
  have q1 : (1 : Int32).toInt = 1 := by decide +kernel
  intro h8
  try simp only [clampN] at *
  have h7 := h8 (by omega)
  have h6 := tx4 (by omega) (by omega)
  unfold levC
  rw [if_pos (by simp only [xfr_mk, xwa_mk, xnx_mk, xop_mk, xer_mk, xwh_mk, xdn_mk, xwr_mk, xtg_mk, xts_mk, xfm_mk, xbs_mk, xsg_mk, xpa_mk, xcn_mk, xck_mk, xcl_mk, xpl_mk, xam_mk, xoo_mk, xlv_mk, xjm_mk, xst_mk, xwi_mk, tz]; omega)]
  simp only [xfr_mk, xwa_mk, xnx_mk, xop_mk, xer_mk, xwh_mk, xdn_mk, xwr_mk, xtg_mk, xts_mk, xfm_mk, xbs_mk, xsg_mk, xpa_mk, xcn_mk, xck_mk, xcl_mk, xpl_mk, xam_mk, xoo_mk, xlv_mk, xjm_mk, xst_mk, xwi_mk, tzl]
  unfold LVO
  (repeat' split) <;> omega
-- post @125
theorem v_levelNext_23 (σ : RS) (x1 : Int32) (x3 : Int64) (x4 : Int32) (hpre_0 : 0 ≤ (σ.1 14).toInt) (hpre_1 : (σ.1 14).toInt ≤ 41) (ex1 : x1 = (σ.2.1 4) (σ.1 14).toNatClampNeg) (tx1 : x1.toInt = ((σ.2.1 4) (σ.1 14).toNatClampNeg).toInt) (c2 : x1.toInt = 5) (ex3 : x3 = (σ.2.2.1 6) (σ.1 14).toNatClampNeg) (tx3 : x3.toInt = ((σ.2.2.1 6) (σ.1 14).toNatClampNeg).toInt) (ex4 : x4 = Int64.toInt32 x3) (tx4 : -2147483648 ≤ x3.toInt → x3.toInt < 2147483648 → x4.toInt = x3.toInt) (c5 : ¬ x4.toInt = 43) (c6 : ¬ x4.toInt = 45) (c7 : ¬ x4.toInt = 42) (c8 : ¬ x4.toInt = 47) (c9 : ¬ x4.toInt = 37) (c10 : ¬ x4.toInt = 60) (c11 : ¬ x4.toInt = 62) (c12 : ¬ x4.toInt = 15421) (c13 : ¬ x4.toInt = 15933) (c14 : ¬ x4.toInt = 15677) (c15 : ¬ x4.toInt = 8509) (c16 : x4.toInt = 9766) : 0 ≤ (2 : Int32).toInt ∧ (2 : Int32).toInt ≤ 5 ∧ (0 < (2 : Int32).toInt → ((σ.2.1 4) (σ.1 14).toNatClampNeg).toInt = 5) := by
  have q2 : (2 : Int32).toInt = 2 := by decide +kernel
  refine ⟨?_, ?_, ?_⟩ <;> first | assumption | omega | (subst_vars; omega) | trivial
-- post2 @125
theorem v_levelNext_24 (σ : RS) (x1 : Int32) (x3 : Int64) (x4 : Int32) (hpre_0 : 0 ≤ (σ.1 14).toInt) (hpre_1 : (σ.1 14).toInt ≤ 41) (ex1 : x1 = (σ.2.1 4) (σ.1 14).toNatClampNeg) (tx1 : x1.toInt = ((σ.2.1 4) (σ.1 14).toNatClampNeg).toInt) (c2 : x1.toInt = 5) (ex3 : x3 = (σ.2.2.1 6) (σ.1 14).toNatClampNeg) (tx3 : x3.toInt = ((σ.2.2.1 6) (σ.1 14).toNatClampNeg).toInt) (ex4 : x4 = Int64.toInt32 x3) (tx4 : -2147483648 ≤ x3.toInt → x3.toInt < 2147483648 → x4.toInt = x3.toInt) (c5 : ¬ x4.toInt = 43) (c6 : ¬ x4.toInt = 45) (c7 : ¬ x4.toInt = 42) (c8 : ¬ x4.toInt = 47) (c9 : ¬ x4.toInt = 37) (c10 : ¬ x4.toInt = 60) (c11 : ¬ x4.toInt = 62) (c12 : ¬ x4.toInt = 15421) (c13 : ¬ x4.toInt = 15933) (c14 : ¬ x4.toInt = 15677) (c15 : ¬ x4.toInt = 8509) (c16 : x4.toInt = 9766) : ((((σ.2.1 4)) (σ.1 14).toNatClampNeg).toInt = 5 → 33 ≤ (((σ.2.2.1 6)) (σ.1 14).toNatClampNeg).toInt ∧ (((σ.2.2.1 6)) (σ.1 14).toNatClampNeg).toInt ≤ 40000) → (2 : Int32).toInt = levC (tz (σ.2.1 4)) (tzl (σ.2.2.1 6)) (mkC ((σ.1 19).toInt).toNat ((σ.1 29).toInt).toNat ((σ.1 14).toInt).toNat ((σ.1 17).toInt) ((σ.1 8).toInt) ((σ.1 9).toInt) ((σ.1 18).toInt) ((σ.1 16).toInt).toNat ((σ.1 33).toInt) ((σ.1 34).toInt) (tz (σ.2.1 20)) (tz (σ.2.1 21)) (tz (σ.2.1 22)) (tz (σ.2.1 23)) (tz (σ.2.1 24)) (tz (σ.2.1 25)) (tz (σ.2.1 26)) (tz (σ.2.1 27)) (tz (σ.2.1 28)) (tz (σ.2.1 30)) (tz (σ.2.1 31)) (tz (σ.2.1 32)) (tz (σ.2.1 11)) (tzl (σ.2.2.1 12))) := by
  have q2 : (2 : Int32).toInt = 2 := by decide +kernel
  intro h8
  try simp only [clampN] at *
  have h7 := h8 (by omega)
  have h6 := tx4 (by omega) (by omega)
  unfold levC
  rw [if_pos (by simp only [xfr_mk, xwa_mk, xnx_mk, xop_mk, xer_mk, xwh_mk, xdn_mk, xwr_mk, xtg_mk, xts_mk, xfm_mk, xbs_mk, xsg_mk, xpa_mk, xcn_mk, xck_mk, xcl_mk, xpl_mk, xam_mk, xoo_mk, xlv_mk, xjm_mk, xst_mk, xwi_mk, tz]; omega)]
  simp only [xfr_mk, xwa_mk, xnx_mk, xop_mk, xer_mk, xwh_mk, xdn_mk, xwr_mk, xtg_mk, xts_mk, xfm_mk, xbs_mk, xsg_mk, xpa_mk, xcn_mk, xck_mk, xcl_mk, xpl_mk, xam_mk, xoo_mk, xlv_mk, xjm_mk, xst_mk, xwi_mk, tzl]
  unfold LVO
  (repeat' split) <;> omega
-- post @101
theorem v_levelNext_25 (σ : RS) (x1 : Int32) (x3 : Int64) (x4 : Int32) (hpre_0 : 0 ≤ (σ.1 14).toInt) (hpre_1 : (σ.1 14).toInt ≤ 41) (ex1 : x1 = (σ.2.1 4) (σ.1 14).toNatClampNeg) (tx1 : x1.toInt = ((σ.2.1 4) (σ.1 14).toNatClampNeg).toInt) (c2 : x1.toInt = 5) (ex3 : x3 = (σ.2.2.1 6) (σ.1 14).toNatClampNeg) (tx3 : x3.toInt = ((σ.2.2.1 6) (σ.1 14).toNatClampNeg).toInt) (ex4 : x4 = Int64.toInt32 x3) (tx4 : -2147483648 ≤ x3.toInt → x3.toInt < 2147483648 → x4.toInt = x3.toInt) (c5 : ¬ x4.toInt = 43) (c6 : ¬ x4.toInt = 45) (c7 : ¬ x4.toInt = 42) (c8 : ¬ x4.toInt = 47) (c9 : ¬ x4.toInt = 37) (c10 : ¬ x4.toInt = 60) (c11 : ¬ x4.toInt = 62) (c12 : ¬ x4.toInt = 15421) (c13 : ¬ x4.toInt = 15933) (c14 : ¬ x4.toInt = 15677) (c15 : x4.toInt = 8509) : 0 ≤ (3 : Int32).toInt ∧ (3 : Int32).toInt ≤ 5 ∧ (0 < (3 : Int32).toInt → ((σ.2.1 4) (σ.1 14).toNatClampNeg).toInt = 5) := by
  have q3 : (3 : Int32).toInt = 3 := by decide +kernel
  refine ⟨?_, ?_, ?_⟩ <;> first | assumption | omega | (subst_vars; omega) | trivial
-- post2 @101
theorem v_levelNext_26 (σ : RS) (x1 : Int32) (x3 : Int64) (x4 : Int32) (hpre_0 : 0 ≤ (σ.1 14).toInt) (hpre_1 : (σ.1 14).toInt ≤ 41) (ex1 : x1 = (σ.2.1 4) (σ.1 14).toNatClampNeg) (tx1 : x1.toInt = ((σ.2.1 4) (σ.1 14).toNatClampNeg).toInt) (c2 : x1.toInt = 5) (ex3 : x3 = (σ.2.2.1 6) (σ.1 14).toNatClampNeg) (tx3 : x3.toInt = ((σ.2.2.1 6) (σ.1 14).toNatClampNeg).toInt) (ex4 : x4 = Int64.toInt32 x3) (tx4 : -2147483648 ≤ x3.toInt → x3.toInt < 2147483648 → x4.toInt = x3.toInt) (c5 : ¬ x4.toInt = 43) (c6 : ¬ x4.toInt = 45) (c7 : ¬ x4.toInt = 42) (c8 : ¬ x4.toInt = 47) (c9 : ¬ x4.toInt = 37) (c10 : ¬ x4.toInt = 60) (c11 : ¬ x4.toInt = 62) (c12 : ¬ x4.toInt = 15421) (c13 : ¬ x4.toInt = 15933) (c14 : ¬ x4.toInt = 15677) (c15 : x4.toInt = 8509) : ((((σ.2.1 4)) (σ.1 14).toNatClampNeg).toInt = 5 → 33 ≤ (((σ.2.2.1 6)) (σ.1 14).toNatClampNeg).toInt ∧ (((σ.2.2.1 6)) (σ.1 14).toNatClampNeg).toInt ≤ 40000) → (3 : Int32).toInt = levC (tz (σ.2.1 4)) (tzl (σ.2.2.1 6)) (mkC ((σ.1 19).toInt).toNat ((σ.1 29).toInt).toNat ((σ.1 14).toInt).toNat ((σ.1 17).toInt) ((σ.1 8).toInt) ((σ.1 9).toInt) ((σ.1 18).toInt) ((σ.1 16).toInt).toNat ((σ.1 33).toInt) ((σ.1 34).toInt) (tz (σ.2.1 20)) (tz (σ.2.1 21)) (tz (σ.2.1 22)) (tz (σ.2.1 23)) (tz (σ.2.1 24)) (tz (σ.2.1 25)) (tz (σ.2.1 26)) (tz (σ.2.1 27)) (tz (σ.2.1 28)) (tz (σ.2.1 30)) (tz (σ.2.1 31)) (tz (σ.2.1 32)) (tz (σ.2.1 11)) (tzl (σ.2.2.1 12))) := by
  have q3 : (3 : Int32).toInt = 3 := by decide +kernel
  intro h8
  try simp only [clampN] at *
  have h7 := h8 (by omega)
  have h6 := tx4 (by omega) (by omega)
  unfold levC
  rw [if_pos (by simp only [xfr_mk, xwa_mk, xnx_mk, xop_mk, xer_mk, xwh_mk, xdn_mk, xwr_mk, xtg_mk, xts_mk, xfm_mk, xbs_mk, xsg_mk, xpa_mk, xcn_mk, xck_mk, xcl_mk, xpl_mk, xam_mk, xoo_mk, xlv_mk, xjm_mk, xst_mk, xwi_mk, tz]; omega)]
  simp only [xfr_mk, xwa_mk, xnx_mk, xop_mk, xer_mk, xwh_mk, xdn_mk, xwr_mk, xtg_mk, xts_mk, xfm_mk, xbs_mk, xsg_mk, xpa_mk, xcn_mk, xck_mk, xcl_mk, xpl_mk, xam_mk, xoo_mk, xlv_mk, xjm_mk, xst_mk, xwi_mk, tzl]
  unfold LVO
  (repeat' split) <;> omega
-- post @59
theorem v_levelNext_27 (σ : RS) (x1 : Int32) (x3 : Int64) (x4 : Int32) (hpre_0 : 0 ≤ (σ.1 14).toInt) (hpre_1 : (σ.1 14).toInt ≤ 41) (ex1 : x1 = (σ.2.1 4) (σ.1 14).toNatClampNeg) (tx1 : x1.toInt = ((σ.2.1 4) (σ.1 14).toNatClampNeg).toInt) (c2 : x1.toInt = 5) (ex3 : x3 = (σ.2.2.1 6) (σ.1 14).toNatClampNeg) (tx3 : x3.toInt = ((σ.2.2.1 6) (σ.1 14).toNatClampNeg).toInt) (ex4 : x4 = Int64.toInt32 x3) (tx4 : -2147483648 ≤ x3.toInt → x3.toInt < 2147483648 → x4.toInt = x3.toInt) (c5 : ¬ x4.toInt = 43) (c6 : ¬ x4.toInt = 45) (c7 : ¬ x4.toInt = 42) (c8 : ¬ x4.toInt = 47) (c9 : x4.toInt = 37) : 0 ≤ (5 : Int32).toInt ∧ (5 : Int32).toInt ≤ 5 ∧ (0 < (5 : Int32).toInt → ((σ.2.1 4) (σ.1 14).toNatClampNeg).toInt = 5) := by
  have q5 : (5 : Int32).toInt = 5 := by decide +kernel
  refine ⟨?_, ?_, ?_⟩ <;> first | assumption | omega | (subst_vars; omega) | trivial
-- post2 @59
theorem v_levelNext_28 (σ : RS) (x1 : Int32) (x3 : Int64) (x4 : Int32) (hpre_0 : 0 ≤ (σ.1 14).toInt) (hpre_1 : (σ.1 14).toInt ≤ 41) (ex1 : x1 = (σ.2.1 4) (σ.1 14).toNatClampNeg) (tx1 : x1.toInt = ((σ.2.1 4) (σ.1 14).toNatClampNeg).toInt) (c2 : x1.toInt = 5) (ex3 : x3 = (σ.2.2.1 6) (σ.1 14).toNatClampNeg) (tx3 : x3.toInt = ((σ.2.2.1 6) (σ.1 14).toNatClampNeg).toInt) (ex4 : x4 = Int64.toInt32 x3) (tx4 : -2147483648 ≤ x3.toInt → x3.toInt < 2147483648 → x4.toInt = x3.toInt) (c5 : ¬ x4.toInt = 43) (c6 : ¬ x4.toInt = 45) (c7 : ¬ x4.toInt = 42) (c8 : ¬ x4.toInt = 47) (c9 : x4.toInt = 37) : ((((σ.2.1 4)) (σ.1 14).toNatClampNeg).toInt = 5 → 33 ≤ (((σ.2.2.1 6)) (σ.1 14).toNatClampNeg).toInt ∧ (((σ.2.2.1 6)) (σ.1 14).toNatClampNeg).toInt ≤ 40000) → (5 : Int32).toInt = levC (tz (σ.2.1 4)) (tzl (σ.2.2.1 6)) (mkC ((σ.1 19).toInt).toNat ((σ.1 29).toInt).toNat ((σ.1 14).toInt).toNat ((σ.1 17).toInt) ((σ.1 8).toInt) ((σ.1 9).toInt) ((σ.1 18).toInt) ((σ.1 16).toInt).toNat ((σ.1 33).toInt) ((σ.1 34).toInt) (tz (σ.2.1 20)) (tz (σ.2.1 21)) (tz (σ.2.1 22)) (tz (σ.2.1 23)) (tz (σ.2.1 24)) (tz (σ.2.1 25)) (tz (σ.2.1 26)) (tz (σ.2.1 27)) (tz (σ.2.1 28)) (tz (σ.2.1 30)) (tz (σ.2.1 31)) (tz (σ.2.1 32)) (tz (σ.2.1 11)) (tzl (σ.2.2.1 12))) := by
  have q5 : (5 : Int32).toInt = 5 := by decide +kernel
  intro h8
  try simp only [clampN] at *
  have h7 := h8 (by omega)
  have h6 := tx4 (by omega) (by omega)
  unfold levC
  rw [if_pos (by simp only [xfr_mk, xwa_mk, xnx_mk, xop_mk, xer_mk, xwh_mk, xdn_mk, xwr_mk, xtg_mk, xts_mk, xfm_mk, xbs_mk, xsg_mk, xpa_mk, xcn_mk, xck_mk, xcl_mk, xpl_mk, xam_mk, xoo_mk, xlv_mk, xjm_mk, xst_mk, xwi_mk, tz]; omega)]
  simp only [xfr_mk, xwa_mk, xnx_mk, xop_mk, xer_mk, xwh_mk, xdn_mk, xwr_mk, xtg_mk, xts_mk, xfm_mk, xbs_mk, xsg_mk, xpa_mk, xcn_mk, xck_mk, xcl_mk, xpl_mk, xam_mk, xoo_mk, xlv_mk, xjm_mk, xst_mk, xwi_mk, tzl]
  unfold LVO
  (repeat' split) <;> omega
-- post @39
theorem v_levelNext_29 (σ : RS) (x1 : Int32) (x3 : Int64) (x4 : Int32) (hpre_0 : 0 ≤ (σ.1 14).toInt) (hpre_1 : (σ.1 14).toInt ≤ 41) (ex1 : x1 = (σ.2.1 4) (σ.1 14).toNatClampNeg) (tx1 : x1.toInt = ((σ.2.1 4) (σ.1 14).toNatClampNeg).toInt) (c2 : x1.toInt = 5) (ex3 : x3 = (σ.2.2.1 6) (σ.1 14).toNatClampNeg) (tx3 : x3.toInt = ((σ.2.2.1 6) (σ.1 14).toNatClampNeg).toInt) (ex4 : x4 = Int64.toInt32 x3) (tx4 : -2147483648 ≤ x3.toInt → x3.toInt < 2147483648 → x4.toInt = x3.toInt) (c5 : ¬ x4.toInt = 43) (c6 : x4.toInt = 45) : 0 ≤ (4 : Int32).toInt ∧ (4 : Int32).toInt ≤ 5 ∧ (0 < (4 : Int32).toInt → ((σ.2.1 4) (σ.1 14).toNatClampNeg).toInt = 5) := by
  have q4 : (4 : Int32).toInt = 4 := by decide +kernel
  refine ⟨?_, ?_, ?_⟩ <;> first | assumption | omega | (subst_vars; omega) | trivial
-- post2 @39
theorem v_levelNext_30 (σ : RS) (x1 : Int32) (x3 : Int64) (x4 : Int32) (hpre_0 : 0 ≤ (σ.1 14).toInt) (hpre_1 : (σ.1 14).toInt ≤ 41) (ex1 : x1 = (σ.2.1 4) (σ.1 14).toNatClampNeg) (tx1 : x1.toInt = ((σ.2.1 4) (σ.1 14).toNatClampNeg).toInt) (c2 : x1.toInt = 5) (ex3 : x3 = (σ.2.2.1 6) (σ.1 14).toNatClampNeg) (tx3 : x3.toInt = ((σ.2.2.1 6) (σ.1 14).toNatClampNeg).toInt) (ex4 : x4 = Int64.toInt32 x3) (tx4 : -2147483648 ≤ x3.toInt → x3.toInt < 2147483648 → x4.toInt = x3.toInt) (c5 : ¬ x4.toInt = 43) (c6 : x4.toInt = 45) : ((((σ.2.1 4)) (σ.1 14).toNatClampNeg).toInt = 5 → 33 ≤ (((σ.2.2.1 6)) (σ.1 14).toNatClampNeg).toInt ∧ (((σ.2.2.1 6)) (σ.1 14).toNatClampNeg).toInt ≤ 40000) → (4 : Int32).toInt = levC (tz (σ.2.1 4)) (tzl (σ.2.2.1 6)) (mkC ((σ.1 19).toInt).toNat ((σ.1 29).toInt).toNat ((σ.1 14).toInt).toNat ((σ.1 17).toInt) ((σ.1 8).toInt) ((σ.1 9).toInt) ((σ.1 18).toInt) ((σ.1 16).toInt).toNat ((σ.1 33).toInt) ((σ.1 34).toInt) (tz (σ.2.1 20)) (tz (σ.2.1 21)) (tz (σ.2.1 22)) (tz (σ.2.1 23)) (tz (σ.2.1 24)) (tz (σ.2.1 25)) (tz (σ.2.1 26)) (tz (σ.2.1 27)) (tz (σ.2.1 28)) (tz (σ.2.1 30)) (tz (σ.2.1 31)) (tz (σ.2.1 32)) (tz (σ.2.1 11)) (tzl (σ.2.2.1 12))) := by
  have q4 : (4 : Int32).toInt = 4 := by decide +kernel
  intro h8
  try simp only [clampN] at *
  have h7 := h8 (by omega)
  have h6 := tx4 (by omega) (by omega)
  unfold levC
  rw [if_pos (by simp only [xfr_mk, xwa_mk, xnx_mk, xop_mk, xer_mk, xwh_mk, xdn_mk, xwr_mk, xtg_mk, xts_mk, xfm_mk, xbs_mk, xsg_mk, xpa_mk, xcn_mk, xck_mk, xcl_mk, xpl_mk, xam_mk, xoo_mk, xlv_mk, xjm_mk, xst_mk, xwi_mk, tz]; omega)]
  simp only [xfr_mk, xwa_mk, xnx_mk, xop_mk, xer_mk, xwh_mk, xdn_mk, xwr_mk, xtg_mk, xts_mk, xfm_mk, xbs_mk, xsg_mk, xpa_mk, xcn_mk, xck_mk, xcl_mk, xpl_mk, xam_mk, xoo_mk, xlv_mk, xjm_mk, xst_mk, xwi_mk, tzl]
  unfold LVO
  (repeat' split) <;> omega
-- post @14
theorem v_levelNext_31 (σ : RS) (x1 : Int32) (hpre_0 : 0 ≤ (σ.1 14).toInt) (hpre_1 : (σ.1 14).toInt ≤ 41) (ex1 : x1 = (σ.2.1 4) (σ.1 14).toNatClampNeg) (tx1 : x1.toInt = ((σ.2.1 4) (σ.1 14).toNatClampNeg).toInt) (c2 : ¬ x1.toInt = 5) : 0 ≤ (0 : Int32).toInt ∧ (0 : Int32).toInt ≤ 5 ∧ (0 < (0 : Int32).toInt → ((σ.2.1 4) (σ.1 14).toNatClampNeg).toInt = 5) := by
  have q0 : (0 : Int32).toInt = 0 := by decide +kernel
  refine ⟨?_, ?_, ?_⟩ <;> first | assumption | omega | (subst_vars; omega) | trivial
-- post2 @14
theorem v_levelNext_32 (σ : RS) (x1 : Int32) (hpre_0 : 0 ≤ (σ.1 14).toInt) (hpre_1 : (σ.1 14).toInt ≤ 41) (ex1 : x1 = (σ.2.1 4) (σ.1 14).toNatClampNeg) (tx1 : x1.toInt = ((σ.2.1 4) (σ.1 14).toNatClampNeg).toInt) (c2 : ¬ x1.toInt = 5) : ((((σ.2.1 4)) (σ.1 14).toNatClampNeg).toInt = 5 → 33 ≤ (((σ.2.2.1 6)) (σ.1 14).toNatClampNeg).toInt ∧ (((σ.2.2.1 6)) (σ.1 14).toNatClampNeg).toInt ≤ 40000) → (0 : Int32).toInt = levC (tz (σ.2.1 4)) (tzl (σ.2.2.1 6)) (mkC ((σ.1 19).toInt).toNat ((σ.1 29).toInt).toNat ((σ.1 14).toInt).toNat ((σ.1 17).toInt) ((σ.1 8).toInt) ((σ.1 9).toInt) ((σ.1 18).toInt) ((σ.1 16).toInt).toNat ((σ.1 33).toInt) ((σ.1 34).toInt) (tz (σ.2.1 20)) (tz (σ.2.1 21)) (tz (σ.2.1 22)) (tz (σ.2.1 23)) (tz (σ.2.1 24)) (tz (σ.2.1 25)) (tz (σ.2.1 26)) (tz (σ.2.1 27)) (tz (σ.2.1 28)) (tz (σ.2.1 30)) (tz (σ.2.1 31)) (tz (σ.2.1 32)) (tz (σ.2.1 11)) (tzl (σ.2.2.1 12))) := by
  have q0 : (0 : Int32).toInt = 0 := by decide +kernel
  intro h8
  try simp only [clampN] at *
  unfold levC
  rw [if_neg (by simp only [xfr_mk, xwa_mk, xnx_mk, xop_mk, xer_mk, xwh_mk, xdn_mk, xwr_mk, xtg_mk, xts_mk, xfm_mk, xbs_mk, xsg_mk, xpa_mk, xcn_mk, xck_mk, xcl_mk, xpl_mk, xam_mk, xoo_mk, xlv_mk, xjm_mk, xst_mk, xwi_mk, tz]; omega)]
  try omega
set_option maxHeartbeats 4000000 in
set_option maxRecDepth 100000 in
theorem M_levelNext (l : Launch) (D : va_G) (cy : Nat → ClassId) (sz0 : Nat) (sa : Nat → Nat) (ad : Nat → Nat) (σ : RS) (sz : Nat)  (hpre : 0 ≤ (σ.1 14).toInt ∧ (σ.1 14).toInt ≤ 41) : Met l yX12_levelNext (Cond.code yX12_levelNext cX12_levelNext 2 (some .int) :: GWm) ({ frames := 0, cells := 0, slots := 0, locals := 0 }) (PcR D cy sz0 sa ad [.ref (ad 0)] σ sz) (va_Qi (fun (r : Int32) (u : Unit) => (0 ≤ r.toInt ∧ r.toInt ≤ 5 ∧ (0 < r.toInt → ((σ.2.1 4) (σ.1 14).toNatClampNeg).toInt = 5)) ∧ (((((σ.2.1 4)) (σ.1 14).toNatClampNeg).toInt = 5 → 33 ≤ (((σ.2.2.1 6)) (σ.1 14).toNatClampNeg).toInt ∧ (((σ.2.2.1 6)) (σ.1 14).toNatClampNeg).toInt ≤ 40000) → r.toInt = levC (tz (σ.2.1 4)) (tzl (σ.2.2.1 6)) (mkC ((σ.1 19).toInt).toNat ((σ.1 29).toInt).toNat ((σ.1 14).toInt).toNat ((σ.1 17).toInt) ((σ.1 8).toInt) ((σ.1 9).toInt) ((σ.1 18).toInt) ((σ.1 16).toInt).toNat ((σ.1 33).toInt) ((σ.1 34).toInt) (tz (σ.2.1 20)) (tz (σ.2.1 21)) (tz (σ.2.1 22)) (tz (σ.2.1 23)) (tz (σ.2.1 24)) (tz (σ.2.1 25)) (tz (σ.2.1 26)) (tz (σ.2.1 27)) (tz (σ.2.1 28)) (tz (σ.2.1 30)) (tz (σ.2.1 31)) (tz (σ.2.1 32)) (tz (σ.2.1 11)) (tzl (σ.2.2.1 12))))) (fun (u : Unit) (t : State) => RP D cy ad σ t.heap) (AR cy ad sz)) 0 0 (AR cy ad sz) := by
  refine RM_of (loc0 := [(0, .ref (ad 0))]) (by decide) rfl rfl (Nat.le_of_ble_eq_true rfl) ?_
  intro p e s m below meth c ls hsz C hP hS hl
  have hx := C.1
  have hb := C.2.1
  have hown := C.2.2.2.2.1
  have hw := C.2.2.2.2.2.1
  clear hsz
  obtain ⟨hpre_0, hpre_1⟩ := hpre
  refine lv_aload_n hx hb dX12_levelNext_0 rfl (lv_at hl 0 rfl) ?_
  refine rg_4 C hP wm_16 dX12_levelNext_1 ?_
  refine lv_aload_n hx hb dX12_levelNext_4 rfl (lv_at hl 0 rfl) ?_
  refine rg_14 (v := (σ.1 14)) C hP rfl wm_62 dX12_levelNext_5 ?_
  refine ra_4 (f := (σ.2.1 4)) C hP rfl (v_levelNext_1 σ hpre_0 hpre_1) dX12_levelNext_8 (fun x1 ex1 => ?_)
  have tx1 : x1.toInt = ((σ.2.1 4) (σ.1 14).toNatClampNeg).toInt := by rw [ex1]
  refine lv_iconst (v := 5) hx hb dX12_levelNext_9 (by decide +kernel) ?_
  refine lv_icmp_eq (tgt := 15) hx hb dX12_levelNext_10 (by decide) (fun c2 => ?_) (fun c2 => ?_)
  · have c2 : x1.toInt = 5 := by have h := z_eq c2; rw [show (5 : Int32).toInt = 5 from by decide +kernel] at h; exact h
    refine lv_aload_n hx hb dX12_levelNext_15 rfl (lv_at hl 0 rfl) ?_
    refine rg_6 C hP wm_19 dX12_levelNext_16 ?_
    refine lv_aload_n hx hb dX12_levelNext_19 rfl (lv_at hl 0 rfl) ?_
    refine rg_14 (v := (σ.1 14)) C hP rfl wm_62 dX12_levelNext_20 ?_
    refine ra_6 (f := (σ.2.2.1 6)) C hP rfl (v_levelNext_2 σ x1 hpre_0 hpre_1 ex1 tx1 c2) dX12_levelNext_23 (fun x3 ex3 => ?_)
    have tx3 : x3.toInt = ((σ.2.2.1 6) (σ.1 14).toNatClampNeg).toInt := by rw [ex3]
    refine lv_l2i hx hb dX12_levelNext_24 rfl ?_
    refine lv_topi (fun x4 ex4 => ?_)
    have tx4 : -2147483648 ≤ x3.toInt → x3.toInt < 2147483648 → x4.toInt = x3.toInt := z_l2i ex4
    refine lv_istore_n (lv' := [(1, .int x4), (0, .ref (ad 0))]) hx hb dX12_levelNext_25 rfl hl (by decide) rfl (fun ls hl => ?_)
    refine lv_iload_n hx hb dX12_levelNext_26 rfl (lv_at hl 0 rfl) ?_
    refine lv_bipush (v := 43) hx hb dX12_levelNext_27 (by decide +kernel) ?_
    refine lv_icmp_eq (tgt := 38) hx hb dX12_levelNext_29 (by decide) (fun c5 => ?_) (fun c5 => ?_)
    · have c5 : x4.toInt = 43 := by have h := z_eq c5; rw [show (43 : Int32).toInt = 43 from by decide +kernel] at h; exact h
      refine lv_iconst (v := 4) hx hb dX12_levelNext_38 (by decide +kernel) ?_
      exact r_reti C () ⟨(v_levelNext_3 σ x1 x3 x4 hpre_0 hpre_1 ex1 tx1 c2 ex3 tx3 ex4 tx4 c5), (v_levelNext_4 σ x1 x3 x4 hpre_0 hpre_1 ex1 tx1 c2 ex3 tx3 ex4 tx4 c5)⟩ hP hS dX12_levelNext_39
    · have c5 : ¬ x4.toInt = 43 := by have h := z_ne c5; rw [show (43 : Int32).toInt = 43 from by decide +kernel] at h; exact h
      refine lv_iload_n hx hb dX12_levelNext_32 rfl (lv_at hl 0 rfl) ?_
      refine lv_bipush (v := 45) hx hb dX12_levelNext_33 (by decide +kernel) ?_
      refine lv_icmp_ne (tgt := 40) hx hb dX12_levelNext_35 (by decide) (fun c6 => ?_) (fun c6 => ?_)
      · have c6 : ¬ x4.toInt = 45 := by have h := z_ne c6; rw [show (45 : Int32).toInt = 45 from by decide +kernel] at h; exact h
        refine lv_iload_n hx hb dX12_levelNext_40 rfl (lv_at hl 0 rfl) ?_
        refine lv_bipush (v := 42) hx hb dX12_levelNext_41 (by decide +kernel) ?_
        refine lv_icmp_eq (tgt := 58) hx hb dX12_levelNext_43 (by decide) (fun c7 => ?_) (fun c7 => ?_)
        · have c7 : x4.toInt = 42 := by have h := z_eq c7; rw [show (42 : Int32).toInt = 42 from by decide +kernel] at h; exact h
          refine lv_iconst (v := 5) hx hb dX12_levelNext_58 (by decide +kernel) ?_
          exact r_reti C () ⟨(v_levelNext_5 σ x1 x3 x4 hpre_0 hpre_1 ex1 tx1 c2 ex3 tx3 ex4 tx4 c5 c6 c7), (v_levelNext_6 σ x1 x3 x4 hpre_0 hpre_1 ex1 tx1 c2 ex3 tx3 ex4 tx4 c5 c6 c7)⟩ hP hS dX12_levelNext_59
        · have c7 : ¬ x4.toInt = 42 := by have h := z_ne c7; rw [show (42 : Int32).toInt = 42 from by decide +kernel] at h; exact h
          refine lv_iload_n hx hb dX12_levelNext_46 rfl (lv_at hl 0 rfl) ?_
          refine lv_bipush (v := 47) hx hb dX12_levelNext_47 (by decide +kernel) ?_
          refine lv_icmp_eq (tgt := 58) hx hb dX12_levelNext_49 (by decide) (fun c8 => ?_) (fun c8 => ?_)
          · have c8 : x4.toInt = 47 := by have h := z_eq c8; rw [show (47 : Int32).toInt = 47 from by decide +kernel] at h; exact h
            refine lv_iconst (v := 5) hx hb dX12_levelNext_58 (by decide +kernel) ?_
            exact r_reti C () ⟨(v_levelNext_7 σ x1 x3 x4 hpre_0 hpre_1 ex1 tx1 c2 ex3 tx3 ex4 tx4 c5 c6 c7 c8), (v_levelNext_8 σ x1 x3 x4 hpre_0 hpre_1 ex1 tx1 c2 ex3 tx3 ex4 tx4 c5 c6 c7 c8)⟩ hP hS dX12_levelNext_59
          · have c8 : ¬ x4.toInt = 47 := by have h := z_ne c8; rw [show (47 : Int32).toInt = 47 from by decide +kernel] at h; exact h
            refine lv_iload_n hx hb dX12_levelNext_52 rfl (lv_at hl 0 rfl) ?_
            refine lv_bipush (v := 37) hx hb dX12_levelNext_53 (by decide +kernel) ?_
            refine lv_icmp_ne (tgt := 60) hx hb dX12_levelNext_55 (by decide) (fun c9 => ?_) (fun c9 => ?_)
            · have c9 : ¬ x4.toInt = 37 := by have h := z_ne c9; rw [show (37 : Int32).toInt = 37 from by decide +kernel] at h; exact h
              refine lv_iload_n hx hb dX12_levelNext_60 rfl (lv_at hl 0 rfl) ?_
              refine lv_bipush (v := 60) hx hb dX12_levelNext_61 (by decide +kernel) ?_
              refine lv_icmp_eq (tgt := 100) hx hb dX12_levelNext_63 (by decide) (fun c10 => ?_) (fun c10 => ?_)
              · have c10 : x4.toInt = 60 := by have h := z_eq c10; rw [show (60 : Int32).toInt = 60 from by decide +kernel] at h; exact h
                refine lv_iconst (v := 3) hx hb dX12_levelNext_100 (by decide +kernel) ?_
                exact r_reti C () ⟨(v_levelNext_9 σ x1 x3 x4 hpre_0 hpre_1 ex1 tx1 c2 ex3 tx3 ex4 tx4 c5 c6 c7 c8 c9 c10), (v_levelNext_10 σ x1 x3 x4 hpre_0 hpre_1 ex1 tx1 c2 ex3 tx3 ex4 tx4 c5 c6 c7 c8 c9 c10)⟩ hP hS dX12_levelNext_101
              · have c10 : ¬ x4.toInt = 60 := by have h := z_ne c10; rw [show (60 : Int32).toInt = 60 from by decide +kernel] at h; exact h
                refine lv_iload_n hx hb dX12_levelNext_66 rfl (lv_at hl 0 rfl) ?_
                refine lv_bipush (v := 62) hx hb dX12_levelNext_67 (by decide +kernel) ?_
                refine lv_icmp_eq (tgt := 100) hx hb dX12_levelNext_69 (by decide) (fun c11 => ?_) (fun c11 => ?_)
                · have c11 : x4.toInt = 62 := by have h := z_eq c11; rw [show (62 : Int32).toInt = 62 from by decide +kernel] at h; exact h
                  refine lv_iconst (v := 3) hx hb dX12_levelNext_100 (by decide +kernel) ?_
                  exact r_reti C () ⟨(v_levelNext_11 σ x1 x3 x4 hpre_0 hpre_1 ex1 tx1 c2 ex3 tx3 ex4 tx4 c5 c6 c7 c8 c9 c10 c11), (v_levelNext_12 σ x1 x3 x4 hpre_0 hpre_1 ex1 tx1 c2 ex3 tx3 ex4 tx4 c5 c6 c7 c8 c9 c10 c11)⟩ hP hS dX12_levelNext_101
                · have c11 : ¬ x4.toInt = 62 := by have h := z_ne c11; rw [show (62 : Int32).toInt = 62 from by decide +kernel] at h; exact h
                  refine lv_iload_n hx hb dX12_levelNext_72 rfl (lv_at hl 0 rfl) ?_
                  refine lv_sipush (v := 15421) hx hb dX12_levelNext_73 (by decide +kernel) ?_
                  refine lv_icmp_eq (tgt := 100) hx hb dX12_levelNext_76 (by decide) (fun c12 => ?_) (fun c12 => ?_)
                  · have c12 : x4.toInt = 15421 := by have h := z_eq c12; rw [show (15421 : Int32).toInt = 15421 from by decide +kernel] at h; exact h
                    refine lv_iconst (v := 3) hx hb dX12_levelNext_100 (by decide +kernel) ?_
                    exact r_reti C () ⟨(v_levelNext_13 σ x1 x3 x4 hpre_0 hpre_1 ex1 tx1 c2 ex3 tx3 ex4 tx4 c5 c6 c7 c8 c9 c10 c11 c12), (v_levelNext_14 σ x1 x3 x4 hpre_0 hpre_1 ex1 tx1 c2 ex3 tx3 ex4 tx4 c5 c6 c7 c8 c9 c10 c11 c12)⟩ hP hS dX12_levelNext_101
                  · have c12 : ¬ x4.toInt = 15421 := by have h := z_ne c12; rw [show (15421 : Int32).toInt = 15421 from by decide +kernel] at h; exact h
                    refine lv_iload_n hx hb dX12_levelNext_79 rfl (lv_at hl 0 rfl) ?_
                    refine lv_sipush (v := 15933) hx hb dX12_levelNext_80 (by decide +kernel) ?_
                    refine lv_icmp_eq (tgt := 100) hx hb dX12_levelNext_83 (by decide) (fun c13 => ?_) (fun c13 => ?_)
                    · have c13 : x4.toInt = 15933 := by have h := z_eq c13; rw [show (15933 : Int32).toInt = 15933 from by decide +kernel] at h; exact h
                      refine lv_iconst (v := 3) hx hb dX12_levelNext_100 (by decide +kernel) ?_
                      exact r_reti C () ⟨(v_levelNext_15 σ x1 x3 x4 hpre_0 hpre_1 ex1 tx1 c2 ex3 tx3 ex4 tx4 c5 c6 c7 c8 c9 c10 c11 c12 c13), (v_levelNext_16 σ x1 x3 x4 hpre_0 hpre_1 ex1 tx1 c2 ex3 tx3 ex4 tx4 c5 c6 c7 c8 c9 c10 c11 c12 c13)⟩ hP hS dX12_levelNext_101
                    · have c13 : ¬ x4.toInt = 15933 := by have h := z_ne c13; rw [show (15933 : Int32).toInt = 15933 from by decide +kernel] at h; exact h
                      refine lv_iload_n hx hb dX12_levelNext_86 rfl (lv_at hl 0 rfl) ?_
                      refine lv_sipush (v := 15677) hx hb dX12_levelNext_87 (by decide +kernel) ?_
                      refine lv_icmp_eq (tgt := 100) hx hb dX12_levelNext_90 (by decide) (fun c14 => ?_) (fun c14 => ?_)
                      · have c14 : x4.toInt = 15677 := by have h := z_eq c14; rw [show (15677 : Int32).toInt = 15677 from by decide +kernel] at h; exact h
                        refine lv_iconst (v := 3) hx hb dX12_levelNext_100 (by decide +kernel) ?_
                        exact r_reti C () ⟨(v_levelNext_17 σ x1 x3 x4 hpre_0 hpre_1 ex1 tx1 c2 ex3 tx3 ex4 tx4 c5 c6 c7 c8 c9 c10 c11 c12 c13 c14), (v_levelNext_18 σ x1 x3 x4 hpre_0 hpre_1 ex1 tx1 c2 ex3 tx3 ex4 tx4 c5 c6 c7 c8 c9 c10 c11 c12 c13 c14)⟩ hP hS dX12_levelNext_101
                      · have c14 : ¬ x4.toInt = 15677 := by have h := z_ne c14; rw [show (15677 : Int32).toInt = 15677 from by decide +kernel] at h; exact h
                        refine lv_iload_n hx hb dX12_levelNext_93 rfl (lv_at hl 0 rfl) ?_
                        refine lv_sipush (v := 8509) hx hb dX12_levelNext_94 (by decide +kernel) ?_
                        refine lv_icmp_ne (tgt := 102) hx hb dX12_levelNext_97 (by decide) (fun c15 => ?_) (fun c15 => ?_)
                        · have c15 : ¬ x4.toInt = 8509 := by have h := z_ne c15; rw [show (8509 : Int32).toInt = 8509 from by decide +kernel] at h; exact h
                          refine lv_iload_n hx hb dX12_levelNext_102 rfl (lv_at hl 0 rfl) ?_
                          refine lv_sipush (v := 9766) hx hb dX12_levelNext_103 (by decide +kernel) ?_
                          refine lv_icmp_ne (tgt := 113) hx hb dX12_levelNext_106 (by decide) (fun c16 => ?_) (fun c16 => ?_)
                          · have c16 : ¬ x4.toInt = 9766 := by have h := z_ne c16; rw [show (9766 : Int32).toInt = 9766 from by decide +kernel] at h; exact h
                            refine lv_iload_n hx hb dX12_levelNext_113 rfl (lv_at hl 0 rfl) ?_
                            refine lv_sipush (v := 31868) hx hb dX12_levelNext_114 (by decide +kernel) ?_
                            refine lv_icmp_ne (tgt := 124) hx hb dX12_levelNext_117 (by decide) (fun c17 => ?_) (fun c17 => ?_)
                            · have c17 : ¬ x4.toInt = 31868 := by have h := z_ne c17; rw [show (31868 : Int32).toInt = 31868 from by decide +kernel] at h; exact h
                              refine lv_iconst (v := 0) hx hb dX12_levelNext_124 (by decide +kernel) ?_
                              exact r_reti C () ⟨(v_levelNext_19 σ x1 x3 x4 hpre_0 hpre_1 ex1 tx1 c2 ex3 tx3 ex4 tx4 c5 c6 c7 c8 c9 c10 c11 c12 c13 c14 c15 c16 c17), (v_levelNext_20 σ x1 x3 x4 hpre_0 hpre_1 ex1 tx1 c2 ex3 tx3 ex4 tx4 c5 c6 c7 c8 c9 c10 c11 c12 c13 c14 c15 c16 c17)⟩ hP hS dX12_levelNext_125
                            · have c17 : x4.toInt = 31868 := by have h := z_eq c17; rw [show (31868 : Int32).toInt = 31868 from by decide +kernel] at h; exact h
                              refine lv_iconst (v := 1) hx hb dX12_levelNext_120 (by decide +kernel) ?_
                              refine lv_goto (tgt := 125) hx hb dX12_levelNext_121 (by decide) ?_
                              exact r_reti C () ⟨(v_levelNext_21 σ x1 x3 x4 hpre_0 hpre_1 ex1 tx1 c2 ex3 tx3 ex4 tx4 c5 c6 c7 c8 c9 c10 c11 c12 c13 c14 c15 c16 c17), (v_levelNext_22 σ x1 x3 x4 hpre_0 hpre_1 ex1 tx1 c2 ex3 tx3 ex4 tx4 c5 c6 c7 c8 c9 c10 c11 c12 c13 c14 c15 c16 c17)⟩ hP hS dX12_levelNext_125
                          · have c16 : x4.toInt = 9766 := by have h := z_eq c16; rw [show (9766 : Int32).toInt = 9766 from by decide +kernel] at h; exact h
                            refine lv_iconst (v := 2) hx hb dX12_levelNext_109 (by decide +kernel) ?_
                            refine lv_goto (tgt := 125) hx hb dX12_levelNext_110 (by decide) ?_
                            exact r_reti C () ⟨(v_levelNext_23 σ x1 x3 x4 hpre_0 hpre_1 ex1 tx1 c2 ex3 tx3 ex4 tx4 c5 c6 c7 c8 c9 c10 c11 c12 c13 c14 c15 c16), (v_levelNext_24 σ x1 x3 x4 hpre_0 hpre_1 ex1 tx1 c2 ex3 tx3 ex4 tx4 c5 c6 c7 c8 c9 c10 c11 c12 c13 c14 c15 c16)⟩ hP hS dX12_levelNext_125
                        · have c15 : x4.toInt = 8509 := by have h := z_eq c15; rw [show (8509 : Int32).toInt = 8509 from by decide +kernel] at h; exact h
                          refine lv_iconst (v := 3) hx hb dX12_levelNext_100 (by decide +kernel) ?_
                          exact r_reti C () ⟨(v_levelNext_25 σ x1 x3 x4 hpre_0 hpre_1 ex1 tx1 c2 ex3 tx3 ex4 tx4 c5 c6 c7 c8 c9 c10 c11 c12 c13 c14 c15), (v_levelNext_26 σ x1 x3 x4 hpre_0 hpre_1 ex1 tx1 c2 ex3 tx3 ex4 tx4 c5 c6 c7 c8 c9 c10 c11 c12 c13 c14 c15)⟩ hP hS dX12_levelNext_101
            · have c9 : x4.toInt = 37 := by have h := z_eq c9; rw [show (37 : Int32).toInt = 37 from by decide +kernel] at h; exact h
              refine lv_iconst (v := 5) hx hb dX12_levelNext_58 (by decide +kernel) ?_
              exact r_reti C () ⟨(v_levelNext_27 σ x1 x3 x4 hpre_0 hpre_1 ex1 tx1 c2 ex3 tx3 ex4 tx4 c5 c6 c7 c8 c9), (v_levelNext_28 σ x1 x3 x4 hpre_0 hpre_1 ex1 tx1 c2 ex3 tx3 ex4 tx4 c5 c6 c7 c8 c9)⟩ hP hS dX12_levelNext_59
      · have c6 : x4.toInt = 45 := by have h := z_eq c6; rw [show (45 : Int32).toInt = 45 from by decide +kernel] at h; exact h
        refine lv_iconst (v := 4) hx hb dX12_levelNext_38 (by decide +kernel) ?_
        exact r_reti C () ⟨(v_levelNext_29 σ x1 x3 x4 hpre_0 hpre_1 ex1 tx1 c2 ex3 tx3 ex4 tx4 c5 c6), (v_levelNext_30 σ x1 x3 x4 hpre_0 hpre_1 ex1 tx1 c2 ex3 tx3 ex4 tx4 c5 c6)⟩ hP hS dX12_levelNext_39
  · have c2 : ¬ x1.toInt = 5 := by have h := z_ne c2; rw [show (5 : Int32).toInt = 5 from by decide +kernel] at h; exact h
    refine lv_iconst (v := 0) hx hb dX12_levelNext_13 (by decide +kernel) ?_
    exact r_reti C () ⟨(v_levelNext_31 σ x1 hpre_0 hpre_1 ex1 tx1 c2), (v_levelNext_32 σ x1 hpre_0 hpre_1 ex1 tx1 c2)⟩ hP hS dX12_levelNext_14

-- post @115
theorem v_stepOf_1   : 16 ≤ (26 : Int32).toInt ∧ (26 : Int32).toInt ≤ 26 := by
  have q26 : (26 : Int32).toInt = 26 := by decide +kernel
  refine ⟨?_, ?_⟩ <;> first | assumption | omega | (subst_vars; omega) | trivial
-- post2 @115
theorem v_stepOf_2 (k0 : Int32) (c1 : ¬ k0.toInt = 43) (c2 : ¬ k0.toInt = 45) (c3 : ¬ k0.toInt = 42) (c4 : ¬ k0.toInt = 47) (c5 : ¬ k0.toInt = 37) (c6 : ¬ k0.toInt = 60) (c7 : ¬ k0.toInt = 62) (c8 : ¬ k0.toInt = 15421) (c9 : ¬ k0.toInt = 15933) (c10 : ¬ k0.toInt = 15677) : (26 : Int32).toInt = stp9 k0.toInt := by
  have q26 : (26 : Int32).toInt = 26 := by decide +kernel
  unfold stp9
  (repeat' split) <;> omega
-- post @115
theorem v_stepOf_3   : 16 ≤ (25 : Int32).toInt ∧ (25 : Int32).toInt ≤ 26 := by
  have q25 : (25 : Int32).toInt = 25 := by decide +kernel
  refine ⟨?_, ?_⟩ <;> first | assumption | omega | (subst_vars; omega) | trivial
-- post2 @115
theorem v_stepOf_4 (k0 : Int32) (c1 : ¬ k0.toInt = 43) (c2 : ¬ k0.toInt = 45) (c3 : ¬ k0.toInt = 42) (c4 : ¬ k0.toInt = 47) (c5 : ¬ k0.toInt = 37) (c6 : ¬ k0.toInt = 60) (c7 : ¬ k0.toInt = 62) (c8 : ¬ k0.toInt = 15421) (c9 : ¬ k0.toInt = 15933) (c10 : k0.toInt = 15677) : (25 : Int32).toInt = stp9 k0.toInt := by
  have q25 : (25 : Int32).toInt = 25 := by decide +kernel
  unfold stp9
  (repeat' split) <;> omega
-- post @115
theorem v_stepOf_5   : 16 ≤ (24 : Int32).toInt ∧ (24 : Int32).toInt ≤ 26 := by
  have q24 : (24 : Int32).toInt = 24 := by decide +kernel
  refine ⟨?_, ?_⟩ <;> first | assumption | omega | (subst_vars; omega) | trivial
-- post2 @115
theorem v_stepOf_6 (k0 : Int32) (c1 : ¬ k0.toInt = 43) (c2 : ¬ k0.toInt = 45) (c3 : ¬ k0.toInt = 42) (c4 : ¬ k0.toInt = 47) (c5 : ¬ k0.toInt = 37) (c6 : ¬ k0.toInt = 60) (c7 : ¬ k0.toInt = 62) (c8 : ¬ k0.toInt = 15421) (c9 : k0.toInt = 15933) : (24 : Int32).toInt = stp9 k0.toInt := by
  have q24 : (24 : Int32).toInt = 24 := by decide +kernel
  unfold stp9
  (repeat' split) <;> omega
-- post @115
theorem v_stepOf_7   : 16 ≤ (23 : Int32).toInt ∧ (23 : Int32).toInt ≤ 26 := by
  have q23 : (23 : Int32).toInt = 23 := by decide +kernel
  refine ⟨?_, ?_⟩ <;> first | assumption | omega | (subst_vars; omega) | trivial
-- post2 @115
theorem v_stepOf_8 (k0 : Int32) (c1 : ¬ k0.toInt = 43) (c2 : ¬ k0.toInt = 45) (c3 : ¬ k0.toInt = 42) (c4 : ¬ k0.toInt = 47) (c5 : ¬ k0.toInt = 37) (c6 : ¬ k0.toInt = 60) (c7 : ¬ k0.toInt = 62) (c8 : k0.toInt = 15421) : (23 : Int32).toInt = stp9 k0.toInt := by
  have q23 : (23 : Int32).toInt = 23 := by decide +kernel
  unfold stp9
  (repeat' split) <;> omega
-- post @115
theorem v_stepOf_9   : 16 ≤ (22 : Int32).toInt ∧ (22 : Int32).toInt ≤ 26 := by
  have q22 : (22 : Int32).toInt = 22 := by decide +kernel
  refine ⟨?_, ?_⟩ <;> first | assumption | omega | (subst_vars; omega) | trivial
-- post2 @115
theorem v_stepOf_10 (k0 : Int32) (c1 : ¬ k0.toInt = 43) (c2 : ¬ k0.toInt = 45) (c3 : ¬ k0.toInt = 42) (c4 : ¬ k0.toInt = 47) (c5 : ¬ k0.toInt = 37) (c6 : ¬ k0.toInt = 60) (c7 : k0.toInt = 62) : (22 : Int32).toInt = stp9 k0.toInt := by
  have q22 : (22 : Int32).toInt = 22 := by decide +kernel
  unfold stp9
  (repeat' split) <;> omega
-- post @115
theorem v_stepOf_11   : 16 ≤ (21 : Int32).toInt ∧ (21 : Int32).toInt ≤ 26 := by
  have q21 : (21 : Int32).toInt = 21 := by decide +kernel
  refine ⟨?_, ?_⟩ <;> first | assumption | omega | (subst_vars; omega) | trivial
-- post2 @115
theorem v_stepOf_12 (k0 : Int32) (c1 : ¬ k0.toInt = 43) (c2 : ¬ k0.toInt = 45) (c3 : ¬ k0.toInt = 42) (c4 : ¬ k0.toInt = 47) (c5 : ¬ k0.toInt = 37) (c6 : k0.toInt = 60) : (21 : Int32).toInt = stp9 k0.toInt := by
  have q21 : (21 : Int32).toInt = 21 := by decide +kernel
  unfold stp9
  (repeat' split) <;> omega
-- post @115
theorem v_stepOf_13   : 16 ≤ (20 : Int32).toInt ∧ (20 : Int32).toInt ≤ 26 := by
  have q20 : (20 : Int32).toInt = 20 := by decide +kernel
  refine ⟨?_, ?_⟩ <;> first | assumption | omega | (subst_vars; omega) | trivial
-- post2 @115
theorem v_stepOf_14 (k0 : Int32) (c1 : ¬ k0.toInt = 43) (c2 : ¬ k0.toInt = 45) (c3 : ¬ k0.toInt = 42) (c4 : ¬ k0.toInt = 47) (c5 : k0.toInt = 37) : (20 : Int32).toInt = stp9 k0.toInt := by
  have q20 : (20 : Int32).toInt = 20 := by decide +kernel
  unfold stp9
  (repeat' split) <;> omega
-- post @115
theorem v_stepOf_15   : 16 ≤ (19 : Int32).toInt ∧ (19 : Int32).toInt ≤ 26 := by
  have q19 : (19 : Int32).toInt = 19 := by decide +kernel
  refine ⟨?_, ?_⟩ <;> first | assumption | omega | (subst_vars; omega) | trivial
-- post2 @115
theorem v_stepOf_16 (k0 : Int32) (c1 : ¬ k0.toInt = 43) (c2 : ¬ k0.toInt = 45) (c3 : ¬ k0.toInt = 42) (c4 : k0.toInt = 47) : (19 : Int32).toInt = stp9 k0.toInt := by
  have q19 : (19 : Int32).toInt = 19 := by decide +kernel
  unfold stp9
  (repeat' split) <;> omega
-- post @115
theorem v_stepOf_17   : 16 ≤ (18 : Int32).toInt ∧ (18 : Int32).toInt ≤ 26 := by
  have q18 : (18 : Int32).toInt = 18 := by decide +kernel
  refine ⟨?_, ?_⟩ <;> first | assumption | omega | (subst_vars; omega) | trivial
-- post2 @115
theorem v_stepOf_18 (k0 : Int32) (c1 : ¬ k0.toInt = 43) (c2 : ¬ k0.toInt = 45) (c3 : k0.toInt = 42) : (18 : Int32).toInt = stp9 k0.toInt := by
  have q18 : (18 : Int32).toInt = 18 := by decide +kernel
  unfold stp9
  (repeat' split) <;> omega
-- post @115
theorem v_stepOf_19   : 16 ≤ (17 : Int32).toInt ∧ (17 : Int32).toInt ≤ 26 := by
  have q17 : (17 : Int32).toInt = 17 := by decide +kernel
  refine ⟨?_, ?_⟩ <;> first | assumption | omega | (subst_vars; omega) | trivial
-- post2 @115
theorem v_stepOf_20 (k0 : Int32) (c1 : ¬ k0.toInt = 43) (c2 : k0.toInt = 45) : (17 : Int32).toInt = stp9 k0.toInt := by
  have q17 : (17 : Int32).toInt = 17 := by decide +kernel
  unfold stp9
  (repeat' split) <;> omega
-- post @115
theorem v_stepOf_21   : 16 ≤ (16 : Int32).toInt ∧ (16 : Int32).toInt ≤ 26 := by
  have q16 : (16 : Int32).toInt = 16 := by decide +kernel
  refine ⟨?_, ?_⟩ <;> first | assumption | omega | (subst_vars; omega) | trivial
-- post2 @115
theorem v_stepOf_22 (k0 : Int32) (c1 : k0.toInt = 43) : (16 : Int32).toInt = stp9 k0.toInt := by
  have q16 : (16 : Int32).toInt = 16 := by decide +kernel
  unfold stp9
  (repeat' split) <;> omega
set_option maxHeartbeats 4000000 in
set_option maxRecDepth 100000 in
theorem M_stepOf (l : Launch) (D : va_G) (cy : Nat → ClassId) (sz0 : Nat) (sa : Nat → Nat) (ad : Nat → Nat) (σ : RS) (sz : Nat) (k0 : Int32) (hpre : True) : Met l yX12_stepOf (Cond.code yX12_stepOf cX12_stepOf 1 (some .int) :: GWm) ({ frames := 0, cells := 0, slots := 0, locals := 0 }) (PcR D cy sz0 sa ad [.int k0] σ sz) (va_Qi (fun (r : Int32) (u : Unit) => (16 ≤ r.toInt ∧ r.toInt ≤ 26) ∧ (r.toInt = stp9 k0.toInt)) (fun (u : Unit) (t : State) => RP D cy ad σ t.heap) (AR cy ad sz)) 0 0 (AR cy ad sz) := by
  refine RM_of (loc0 := [(0, .int k0)]) (by decide) rfl rfl (Nat.le_of_ble_eq_true rfl) ?_
  intro p e s m below meth c ls hsz C hP hS hl
  have hx := C.1
  have hb := C.2.1
  have hown := C.2.2.2.2.1
  have hw := C.2.2.2.2.2.1
  clear hsz
  refine lv_iload_n hx hb dX12_stepOf_0 rfl (lv_at hl 0 rfl) ?_
  refine lv_bipush (v := 43) hx hb dX12_stepOf_1 (by decide +kernel) ?_
  refine lv_icmp_ne (tgt := 11) hx hb dX12_stepOf_3 (by decide) (fun c1 => ?_) (fun c1 => ?_)
  · have c1 : ¬ k0.toInt = 43 := by have h := z_ne c1; rw [show (43 : Int32).toInt = 43 from by decide +kernel] at h; exact h
    refine lv_iload_n hx hb dX12_stepOf_11 rfl (lv_at hl 0 rfl) ?_
    refine lv_bipush (v := 45) hx hb dX12_stepOf_12 (by decide +kernel) ?_
    refine lv_icmp_ne (tgt := 22) hx hb dX12_stepOf_14 (by decide) (fun c2 => ?_) (fun c2 => ?_)
    · have c2 : ¬ k0.toInt = 45 := by have h := z_ne c2; rw [show (45 : Int32).toInt = 45 from by decide +kernel] at h; exact h
      refine lv_iload_n hx hb dX12_stepOf_22 rfl (lv_at hl 0 rfl) ?_
      refine lv_bipush (v := 42) hx hb dX12_stepOf_23 (by decide +kernel) ?_
      refine lv_icmp_ne (tgt := 33) hx hb dX12_stepOf_25 (by decide) (fun c3 => ?_) (fun c3 => ?_)
      · have c3 : ¬ k0.toInt = 42 := by have h := z_ne c3; rw [show (42 : Int32).toInt = 42 from by decide +kernel] at h; exact h
        refine lv_iload_n hx hb dX12_stepOf_33 rfl (lv_at hl 0 rfl) ?_
        refine lv_bipush (v := 47) hx hb dX12_stepOf_34 (by decide +kernel) ?_
        refine lv_icmp_ne (tgt := 44) hx hb dX12_stepOf_36 (by decide) (fun c4 => ?_) (fun c4 => ?_)
        · have c4 : ¬ k0.toInt = 47 := by have h := z_ne c4; rw [show (47 : Int32).toInt = 47 from by decide +kernel] at h; exact h
          refine lv_iload_n hx hb dX12_stepOf_44 rfl (lv_at hl 0 rfl) ?_
          refine lv_bipush (v := 37) hx hb dX12_stepOf_45 (by decide +kernel) ?_
          refine lv_icmp_ne (tgt := 55) hx hb dX12_stepOf_47 (by decide) (fun c5 => ?_) (fun c5 => ?_)
          · have c5 : ¬ k0.toInt = 37 := by have h := z_ne c5; rw [show (37 : Int32).toInt = 37 from by decide +kernel] at h; exact h
            refine lv_iload_n hx hb dX12_stepOf_55 rfl (lv_at hl 0 rfl) ?_
            refine lv_bipush (v := 60) hx hb dX12_stepOf_56 (by decide +kernel) ?_
            refine lv_icmp_ne (tgt := 66) hx hb dX12_stepOf_58 (by decide) (fun c6 => ?_) (fun c6 => ?_)
            · have c6 : ¬ k0.toInt = 60 := by have h := z_ne c6; rw [show (60 : Int32).toInt = 60 from by decide +kernel] at h; exact h
              refine lv_iload_n hx hb dX12_stepOf_66 rfl (lv_at hl 0 rfl) ?_
              refine lv_bipush (v := 62) hx hb dX12_stepOf_67 (by decide +kernel) ?_
              refine lv_icmp_ne (tgt := 77) hx hb dX12_stepOf_69 (by decide) (fun c7 => ?_) (fun c7 => ?_)
              · have c7 : ¬ k0.toInt = 62 := by have h := z_ne c7; rw [show (62 : Int32).toInt = 62 from by decide +kernel] at h; exact h
                refine lv_iload_n hx hb dX12_stepOf_77 rfl (lv_at hl 0 rfl) ?_
                refine lv_sipush (v := 15421) hx hb dX12_stepOf_78 (by decide +kernel) ?_
                refine lv_icmp_ne (tgt := 89) hx hb dX12_stepOf_81 (by decide) (fun c8 => ?_) (fun c8 => ?_)
                · have c8 : ¬ k0.toInt = 15421 := by have h := z_ne c8; rw [show (15421 : Int32).toInt = 15421 from by decide +kernel] at h; exact h
                  refine lv_iload_n hx hb dX12_stepOf_89 rfl (lv_at hl 0 rfl) ?_
                  refine lv_sipush (v := 15933) hx hb dX12_stepOf_90 (by decide +kernel) ?_
                  refine lv_icmp_ne (tgt := 101) hx hb dX12_stepOf_93 (by decide) (fun c9 => ?_) (fun c9 => ?_)
                  · have c9 : ¬ k0.toInt = 15933 := by have h := z_ne c9; rw [show (15933 : Int32).toInt = 15933 from by decide +kernel] at h; exact h
                    refine lv_iload_n hx hb dX12_stepOf_101 rfl (lv_at hl 0 rfl) ?_
                    refine lv_sipush (v := 15677) hx hb dX12_stepOf_102 (by decide +kernel) ?_
                    refine lv_icmp_ne (tgt := 113) hx hb dX12_stepOf_105 (by decide) (fun c10 => ?_) (fun c10 => ?_)
                    · have c10 : ¬ k0.toInt = 15677 := by have h := z_ne c10; rw [show (15677 : Int32).toInt = 15677 from by decide +kernel] at h; exact h
                      refine lv_bipush (v := 26) hx hb dX12_stepOf_113 (by decide +kernel) ?_
                      exact r_reti C () ⟨(v_stepOf_1  ), (v_stepOf_2 k0 c1 c2 c3 c4 c5 c6 c7 c8 c9 c10)⟩ hP hS dX12_stepOf_115
                    · have c10 : k0.toInt = 15677 := by have h := z_eq c10; rw [show (15677 : Int32).toInt = 15677 from by decide +kernel] at h; exact h
                      refine lv_bipush (v := 25) hx hb dX12_stepOf_108 (by decide +kernel) ?_
                      refine lv_goto (tgt := 115) hx hb dX12_stepOf_110 (by decide) ?_
                      exact r_reti C () ⟨(v_stepOf_3  ), (v_stepOf_4 k0 c1 c2 c3 c4 c5 c6 c7 c8 c9 c10)⟩ hP hS dX12_stepOf_115
                  · have c9 : k0.toInt = 15933 := by have h := z_eq c9; rw [show (15933 : Int32).toInt = 15933 from by decide +kernel] at h; exact h
                    refine lv_bipush (v := 24) hx hb dX12_stepOf_96 (by decide +kernel) ?_
                    refine lv_goto (tgt := 115) hx hb dX12_stepOf_98 (by decide) ?_
                    exact r_reti C () ⟨(v_stepOf_5  ), (v_stepOf_6 k0 c1 c2 c3 c4 c5 c6 c7 c8 c9)⟩ hP hS dX12_stepOf_115
                · have c8 : k0.toInt = 15421 := by have h := z_eq c8; rw [show (15421 : Int32).toInt = 15421 from by decide +kernel] at h; exact h
                  refine lv_bipush (v := 23) hx hb dX12_stepOf_84 (by decide +kernel) ?_
                  refine lv_goto (tgt := 115) hx hb dX12_stepOf_86 (by decide) ?_
                  exact r_reti C () ⟨(v_stepOf_7  ), (v_stepOf_8 k0 c1 c2 c3 c4 c5 c6 c7 c8)⟩ hP hS dX12_stepOf_115
              · have c7 : k0.toInt = 62 := by have h := z_eq c7; rw [show (62 : Int32).toInt = 62 from by decide +kernel] at h; exact h
                refine lv_bipush (v := 22) hx hb dX12_stepOf_72 (by decide +kernel) ?_
                refine lv_goto (tgt := 115) hx hb dX12_stepOf_74 (by decide) ?_
                exact r_reti C () ⟨(v_stepOf_9  ), (v_stepOf_10 k0 c1 c2 c3 c4 c5 c6 c7)⟩ hP hS dX12_stepOf_115
            · have c6 : k0.toInt = 60 := by have h := z_eq c6; rw [show (60 : Int32).toInt = 60 from by decide +kernel] at h; exact h
              refine lv_bipush (v := 21) hx hb dX12_stepOf_61 (by decide +kernel) ?_
              refine lv_goto (tgt := 115) hx hb dX12_stepOf_63 (by decide) ?_
              exact r_reti C () ⟨(v_stepOf_11  ), (v_stepOf_12 k0 c1 c2 c3 c4 c5 c6)⟩ hP hS dX12_stepOf_115
          · have c5 : k0.toInt = 37 := by have h := z_eq c5; rw [show (37 : Int32).toInt = 37 from by decide +kernel] at h; exact h
            refine lv_bipush (v := 20) hx hb dX12_stepOf_50 (by decide +kernel) ?_
            refine lv_goto (tgt := 115) hx hb dX12_stepOf_52 (by decide) ?_
            exact r_reti C () ⟨(v_stepOf_13  ), (v_stepOf_14 k0 c1 c2 c3 c4 c5)⟩ hP hS dX12_stepOf_115
        · have c4 : k0.toInt = 47 := by have h := z_eq c4; rw [show (47 : Int32).toInt = 47 from by decide +kernel] at h; exact h
          refine lv_bipush (v := 19) hx hb dX12_stepOf_39 (by decide +kernel) ?_
          refine lv_goto (tgt := 115) hx hb dX12_stepOf_41 (by decide) ?_
          exact r_reti C () ⟨(v_stepOf_15  ), (v_stepOf_16 k0 c1 c2 c3 c4)⟩ hP hS dX12_stepOf_115
      · have c3 : k0.toInt = 42 := by have h := z_eq c3; rw [show (42 : Int32).toInt = 42 from by decide +kernel] at h; exact h
        refine lv_bipush (v := 18) hx hb dX12_stepOf_28 (by decide +kernel) ?_
        refine lv_goto (tgt := 115) hx hb dX12_stepOf_30 (by decide) ?_
        exact r_reti C () ⟨(v_stepOf_17  ), (v_stepOf_18 k0 c1 c2 c3)⟩ hP hS dX12_stepOf_115
    · have c2 : k0.toInt = 45 := by have h := z_eq c2; rw [show (45 : Int32).toInt = 45 from by decide +kernel] at h; exact h
      refine lv_bipush (v := 17) hx hb dX12_stepOf_17 (by decide +kernel) ?_
      refine lv_goto (tgt := 115) hx hb dX12_stepOf_19 (by decide) ?_
      exact r_reti C () ⟨(v_stepOf_19  ), (v_stepOf_20 k0 c1 c2)⟩ hP hS dX12_stepOf_115
  · have c1 : k0.toInt = 43 := by have h := z_eq c1; rw [show (43 : Int32).toInt = 43 from by decide +kernel] at h; exact h
    refine lv_bipush (v := 16) hx hb dX12_stepOf_6 (by decide +kernel) ?_
    refine lv_goto (tgt := 115) hx hb dX12_stepOf_8 (by decide) ?_
    exact r_reti C () ⟨(v_stepOf_21  ), (v_stepOf_22 k0 c1)⟩ hP hS dX12_stepOf_115

-- nw@13 @13
theorem v_compared_1 (σ : RS) (x1 : Int32) (hpre_0 : 1 ≤ (σ.1 19).toInt) (hpre_1 : (σ.1 19).toInt ≤ 8) (hpre_4 : 0 ≤ ((σ.2.1 21) ((σ.1 19).toInt - 1).toNat).toInt) (ex1 : x1 = (σ.1 19) - (1 : Int32)) : x1.toInt = (σ.1 19).toInt - 1 := by
  have q1 : (1 : Int32).toInt = 1 := by decide +kernel
  have w1 : (1 : Int32).toInt = 1 := by decide +kernel
  rw [ex1, z_sub (by omega) (by omega)]; first | done | omega
-- in@14 @14
theorem v_compared_2 (σ : RS) (x1 : Int32) (hpre_0 : 1 ≤ (σ.1 19).toInt) (hpre_1 : (σ.1 19).toInt ≤ 8) (hpre_4 : 0 ≤ ((σ.2.1 21) ((σ.1 19).toInt - 1).toNat).toInt) (ex1 : x1 = (σ.1 19) - (1 : Int32)) (tx1 : x1.toInt = (σ.1 19).toInt - 1) : vp_in x1 8 := by
  have q1 : (1 : Int32).toInt = 1 := by decide +kernel
  exact vp_in_iff.mpr ⟨by omega, by omega⟩
-- post2 @38
theorem v_compared_3 (σ : RS) (x1 : Int32) (x2 : Int32) (hpre_0 : 1 ≤ (σ.1 19).toInt) (hpre_1 : (σ.1 19).toInt ≤ 8) (hpre_2 : 0 ≤ (σ.1 29).toInt) (hpre_3 : (σ.1 29).toInt ≤ 40) (hpre_4 : 0 ≤ ((σ.2.1 21) ((σ.1 19).toInt - 1).toNat).toInt) (ex1 : x1 = (σ.1 19) - (1 : Int32)) (tx1 : x1.toInt = (σ.1 19).toInt - 1) (ex2 : x2 = (σ.2.1 21) x1.toNatClampNeg) (tx2 : x2.toInt = ((σ.2.1 21) ((σ.1 19).toInt - 1).toNat).toInt) (c3 : (σ.1 29).toInt ≤ x2.toInt) : (¬ (0 : Int32).toInt = 0 → cmpd (mkC ((σ.1 19).toInt).toNat ((σ.1 29).toInt).toNat ((σ.1 14).toInt).toNat ((σ.1 17).toInt) ((σ.1 8).toInt) ((σ.1 9).toInt) ((σ.1 18).toInt) ((σ.1 16).toInt).toNat ((σ.1 33).toInt) ((σ.1 34).toInt) (tz (σ.2.1 20)) (tz (σ.2.1 21)) (tz (σ.2.1 22)) (tz (σ.2.1 23)) (tz (σ.2.1 24)) (tz (σ.2.1 25)) (tz (σ.2.1 26)) (tz (σ.2.1 27)) (tz (σ.2.1 28)) (tz (σ.2.1 30)) (tz (σ.2.1 31)) (tz (σ.2.1 32)) (tz (σ.2.1 11)) (tzl (σ.2.2.1 12)))) ∧ ((0 : Int32).toInt = 0 → ¬ cmpd (mkC ((σ.1 19).toInt).toNat ((σ.1 29).toInt).toNat ((σ.1 14).toInt).toNat ((σ.1 17).toInt) ((σ.1 8).toInt) ((σ.1 9).toInt) ((σ.1 18).toInt) ((σ.1 16).toInt).toNat ((σ.1 33).toInt) ((σ.1 34).toInt) (tz (σ.2.1 20)) (tz (σ.2.1 21)) (tz (σ.2.1 22)) (tz (σ.2.1 23)) (tz (σ.2.1 24)) (tz (σ.2.1 25)) (tz (σ.2.1 26)) (tz (σ.2.1 27)) (tz (σ.2.1 28)) (tz (σ.2.1 30)) (tz (σ.2.1 31)) (tz (σ.2.1 32)) (tz (σ.2.1 11)) (tzl (σ.2.2.1 12)))) := by
  have q0 : (0 : Int32).toInt = 0 := by decide +kernel
  have q1 : (1 : Int32).toInt = 1 := by decide +kernel
  have wx1 : x1.toInt.toNat = (σ.1 19).toInt.toNat - 1 := (by omega)
  have wn0 : ((σ.1 19).toInt - 1).toNat = (σ.1 19).toInt.toNat - 1 := (by omega)
  try simp only [clampN, wx1, wn0] at *
  constructor <;> intro h9 <;> first | (exfalso; omega) | (refine ⟨?_, ?_⟩ <;> (simp only [xfr_mk, xwa_mk, xnx_mk, xop_mk, xer_mk, xwh_mk, xdn_mk, xwr_mk, xtg_mk, xts_mk, xfm_mk, xbs_mk, xsg_mk, xpa_mk, xcn_mk, xck_mk, xcl_mk, xpl_mk, xam_mk, xoo_mk, xlv_mk, xjm_mk, xst_mk, xwi_mk, tz]; omega)) | (rintro ⟨u, v⟩; simp only [xfr_mk, xwa_mk, xnx_mk, xop_mk, xer_mk, xwh_mk, xdn_mk, xwr_mk, xtg_mk, xts_mk, xfm_mk, xbs_mk, xsg_mk, xpa_mk, xcn_mk, xck_mk, xcl_mk, xpl_mk, xam_mk, xoo_mk, xlv_mk, xjm_mk, xst_mk, xwi_mk, tz] at u v; omega)
-- bool@ret @38
theorem v_compared_4   : (0 : Int32) = 0 ∨ (0 : Int32) = 1 := by
  have q0 : (0 : Int32).toInt = 0 := by decide +kernel
  first | exact Or.inl rfl | exact Or.inr rfl | exact bool_of (by omega)
-- nw@27 @27
theorem v_compared_5 (σ : RS) (x1 : Int32) (x2 : Int32) (x4 : Int32) (hpre_0 : 1 ≤ (σ.1 19).toInt) (hpre_1 : (σ.1 19).toInt ≤ 8) (hpre_2 : 0 ≤ (σ.1 29).toInt) (hpre_3 : (σ.1 29).toInt ≤ 40) (hpre_4 : 0 ≤ ((σ.2.1 21) ((σ.1 19).toInt - 1).toNat).toInt) (ex1 : x1 = (σ.1 19) - (1 : Int32)) (tx1 : x1.toInt = (σ.1 19).toInt - 1) (ex2 : x2 = (σ.2.1 21) x1.toNatClampNeg) (tx2 : x2.toInt = ((σ.2.1 21) ((σ.1 19).toInt - 1).toNat).toInt) (c3 : x2.toInt < (σ.1 29).toInt) (ex4 : x4 = (σ.1 29) - (1 : Int32)) : x4.toInt = (σ.1 29).toInt - 1 := by
  have q1 : (1 : Int32).toInt = 1 := by decide +kernel
  have w1 : (1 : Int32).toInt = 1 := by decide +kernel
  rw [ex4, z_sub (by omega) (by omega)]; first | done | omega
-- in@28 @28
theorem v_compared_6 (σ : RS) (x1 : Int32) (x2 : Int32) (x4 : Int32) (hpre_0 : 1 ≤ (σ.1 19).toInt) (hpre_1 : (σ.1 19).toInt ≤ 8) (hpre_2 : 0 ≤ (σ.1 29).toInt) (hpre_3 : (σ.1 29).toInt ≤ 40) (hpre_4 : 0 ≤ ((σ.2.1 21) ((σ.1 19).toInt - 1).toNat).toInt) (ex1 : x1 = (σ.1 19) - (1 : Int32)) (tx1 : x1.toInt = (σ.1 19).toInt - 1) (ex2 : x2 = (σ.2.1 21) x1.toNatClampNeg) (tx2 : x2.toInt = ((σ.2.1 21) ((σ.1 19).toInt - 1).toNat).toInt) (c3 : x2.toInt < (σ.1 29).toInt) (ex4 : x4 = (σ.1 29) - (1 : Int32)) (tx4 : x4.toInt = (σ.1 29).toInt - 1) : vp_in x4 48 := by
  have q1 : (1 : Int32).toInt = 1 := by decide +kernel
  exact vp_in_iff.mpr ⟨by omega, by omega⟩
-- post2 @38
theorem v_compared_7 (σ : RS) (x1 : Int32) (x2 : Int32) (x4 : Int32) (x5 : Int32) (hpre_0 : 1 ≤ (σ.1 19).toInt) (hpre_1 : (σ.1 19).toInt ≤ 8) (hpre_2 : 0 ≤ (σ.1 29).toInt) (hpre_3 : (σ.1 29).toInt ≤ 40) (hpre_4 : 0 ≤ ((σ.2.1 21) ((σ.1 19).toInt - 1).toNat).toInt) (ex1 : x1 = (σ.1 19) - (1 : Int32)) (tx1 : x1.toInt = (σ.1 19).toInt - 1) (ex2 : x2 = (σ.2.1 21) x1.toNatClampNeg) (tx2 : x2.toInt = ((σ.2.1 21) ((σ.1 19).toInt - 1).toNat).toInt) (c3 : x2.toInt < (σ.1 29).toInt) (ex4 : x4 = (σ.1 29) - (1 : Int32)) (tx4 : x4.toInt = (σ.1 29).toInt - 1) (ex5 : x5 = (σ.2.1 31) x4.toNatClampNeg) (tx5 : x5.toInt = ((σ.2.1 31) ((σ.1 29).toInt - 1).toNat).toInt) (c6 : ¬ x5.toInt = 3) : (¬ (0 : Int32).toInt = 0 → cmpd (mkC ((σ.1 19).toInt).toNat ((σ.1 29).toInt).toNat ((σ.1 14).toInt).toNat ((σ.1 17).toInt) ((σ.1 8).toInt) ((σ.1 9).toInt) ((σ.1 18).toInt) ((σ.1 16).toInt).toNat ((σ.1 33).toInt) ((σ.1 34).toInt) (tz (σ.2.1 20)) (tz (σ.2.1 21)) (tz (σ.2.1 22)) (tz (σ.2.1 23)) (tz (σ.2.1 24)) (tz (σ.2.1 25)) (tz (σ.2.1 26)) (tz (σ.2.1 27)) (tz (σ.2.1 28)) (tz (σ.2.1 30)) (tz (σ.2.1 31)) (tz (σ.2.1 32)) (tz (σ.2.1 11)) (tzl (σ.2.2.1 12)))) ∧ ((0 : Int32).toInt = 0 → ¬ cmpd (mkC ((σ.1 19).toInt).toNat ((σ.1 29).toInt).toNat ((σ.1 14).toInt).toNat ((σ.1 17).toInt) ((σ.1 8).toInt) ((σ.1 9).toInt) ((σ.1 18).toInt) ((σ.1 16).toInt).toNat ((σ.1 33).toInt) ((σ.1 34).toInt) (tz (σ.2.1 20)) (tz (σ.2.1 21)) (tz (σ.2.1 22)) (tz (σ.2.1 23)) (tz (σ.2.1 24)) (tz (σ.2.1 25)) (tz (σ.2.1 26)) (tz (σ.2.1 27)) (tz (σ.2.1 28)) (tz (σ.2.1 30)) (tz (σ.2.1 31)) (tz (σ.2.1 32)) (tz (σ.2.1 11)) (tzl (σ.2.2.1 12)))) := by
  have q0 : (0 : Int32).toInt = 0 := by decide +kernel
  have q1 : (1 : Int32).toInt = 1 := by decide +kernel
  have wx1 : x1.toInt.toNat = (σ.1 19).toInt.toNat - 1 := (by omega)
  have wx4 : x4.toInt.toNat = (σ.1 29).toInt.toNat - 1 := (by omega)
  have wn0 : ((σ.1 19).toInt - 1).toNat = (σ.1 19).toInt.toNat - 1 := (by omega)
  have wn1 : ((σ.1 29).toInt - 1).toNat = (σ.1 29).toInt.toNat - 1 := (by omega)
  try simp only [clampN, wx1, wx4, wn0, wn1] at *
  constructor <;> intro h9 <;> first | (exfalso; omega) | (refine ⟨?_, ?_⟩ <;> (simp only [xfr_mk, xwa_mk, xnx_mk, xop_mk, xer_mk, xwh_mk, xdn_mk, xwr_mk, xtg_mk, xts_mk, xfm_mk, xbs_mk, xsg_mk, xpa_mk, xcn_mk, xck_mk, xcl_mk, xpl_mk, xam_mk, xoo_mk, xlv_mk, xjm_mk, xst_mk, xwi_mk, tz]; omega)) | (rintro ⟨u, v⟩; simp only [xfr_mk, xwa_mk, xnx_mk, xop_mk, xer_mk, xwh_mk, xdn_mk, xwr_mk, xtg_mk, xts_mk, xfm_mk, xbs_mk, xsg_mk, xpa_mk, xcn_mk, xck_mk, xcl_mk, xpl_mk, xam_mk, xoo_mk, xlv_mk, xjm_mk, xst_mk, xwi_mk, tz] at u v; omega)
-- post2 @38
theorem v_compared_8 (σ : RS) (x1 : Int32) (x2 : Int32) (x4 : Int32) (x5 : Int32) (hpre_0 : 1 ≤ (σ.1 19).toInt) (hpre_1 : (σ.1 19).toInt ≤ 8) (hpre_2 : 0 ≤ (σ.1 29).toInt) (hpre_3 : (σ.1 29).toInt ≤ 40) (hpre_4 : 0 ≤ ((σ.2.1 21) ((σ.1 19).toInt - 1).toNat).toInt) (ex1 : x1 = (σ.1 19) - (1 : Int32)) (tx1 : x1.toInt = (σ.1 19).toInt - 1) (ex2 : x2 = (σ.2.1 21) x1.toNatClampNeg) (tx2 : x2.toInt = ((σ.2.1 21) ((σ.1 19).toInt - 1).toNat).toInt) (c3 : x2.toInt < (σ.1 29).toInt) (ex4 : x4 = (σ.1 29) - (1 : Int32)) (tx4 : x4.toInt = (σ.1 29).toInt - 1) (ex5 : x5 = (σ.2.1 31) x4.toNatClampNeg) (tx5 : x5.toInt = ((σ.2.1 31) ((σ.1 29).toInt - 1).toNat).toInt) (c6 : x5.toInt = 3) : (¬ (1 : Int32).toInt = 0 → cmpd (mkC ((σ.1 19).toInt).toNat ((σ.1 29).toInt).toNat ((σ.1 14).toInt).toNat ((σ.1 17).toInt) ((σ.1 8).toInt) ((σ.1 9).toInt) ((σ.1 18).toInt) ((σ.1 16).toInt).toNat ((σ.1 33).toInt) ((σ.1 34).toInt) (tz (σ.2.1 20)) (tz (σ.2.1 21)) (tz (σ.2.1 22)) (tz (σ.2.1 23)) (tz (σ.2.1 24)) (tz (σ.2.1 25)) (tz (σ.2.1 26)) (tz (σ.2.1 27)) (tz (σ.2.1 28)) (tz (σ.2.1 30)) (tz (σ.2.1 31)) (tz (σ.2.1 32)) (tz (σ.2.1 11)) (tzl (σ.2.2.1 12)))) ∧ ((1 : Int32).toInt = 0 → ¬ cmpd (mkC ((σ.1 19).toInt).toNat ((σ.1 29).toInt).toNat ((σ.1 14).toInt).toNat ((σ.1 17).toInt) ((σ.1 8).toInt) ((σ.1 9).toInt) ((σ.1 18).toInt) ((σ.1 16).toInt).toNat ((σ.1 33).toInt) ((σ.1 34).toInt) (tz (σ.2.1 20)) (tz (σ.2.1 21)) (tz (σ.2.1 22)) (tz (σ.2.1 23)) (tz (σ.2.1 24)) (tz (σ.2.1 25)) (tz (σ.2.1 26)) (tz (σ.2.1 27)) (tz (σ.2.1 28)) (tz (σ.2.1 30)) (tz (σ.2.1 31)) (tz (σ.2.1 32)) (tz (σ.2.1 11)) (tzl (σ.2.2.1 12)))) := by
  have q1 : (1 : Int32).toInt = 1 := by decide +kernel
  have wx1 : x1.toInt.toNat = (σ.1 19).toInt.toNat - 1 := (by omega)
  have wx4 : x4.toInt.toNat = (σ.1 29).toInt.toNat - 1 := (by omega)
  have wn0 : ((σ.1 19).toInt - 1).toNat = (σ.1 19).toInt.toNat - 1 := (by omega)
  have wn1 : ((σ.1 29).toInt - 1).toNat = (σ.1 29).toInt.toNat - 1 := (by omega)
  try simp only [clampN, wx1, wx4, wn0, wn1] at *
  constructor <;> intro h9 <;> first | (exfalso; omega) | (refine ⟨?_, ?_⟩ <;> (simp only [xfr_mk, xwa_mk, xnx_mk, xop_mk, xer_mk, xwh_mk, xdn_mk, xwr_mk, xtg_mk, xts_mk, xfm_mk, xbs_mk, xsg_mk, xpa_mk, xcn_mk, xck_mk, xcl_mk, xpl_mk, xam_mk, xoo_mk, xlv_mk, xjm_mk, xst_mk, xwi_mk, tz]; omega)) | (rintro ⟨u, v⟩; simp only [xfr_mk, xwa_mk, xnx_mk, xop_mk, xer_mk, xwh_mk, xdn_mk, xwr_mk, xtg_mk, xts_mk, xfm_mk, xbs_mk, xsg_mk, xpa_mk, xcn_mk, xck_mk, xcl_mk, xpl_mk, xam_mk, xoo_mk, xlv_mk, xjm_mk, xst_mk, xwi_mk, tz] at u v; omega)
-- bool@ret @38
theorem v_compared_9   : (1 : Int32) = 0 ∨ (1 : Int32) = 1 := by
  have q1 : (1 : Int32).toInt = 1 := by decide +kernel
  first | exact Or.inl rfl | exact Or.inr rfl | exact bool_of (by omega)
set_option maxHeartbeats 4000000 in
set_option maxRecDepth 100000 in
theorem M_compared (l : Launch) (D : va_G) (cy : Nat → ClassId) (sz0 : Nat) (sa : Nat → Nat) (ad : Nat → Nat) (σ : RS) (sz : Nat)  (hpre : 1 ≤ (σ.1 19).toInt ∧ (σ.1 19).toInt ≤ 8 ∧ 0 ≤ (σ.1 29).toInt ∧ (σ.1 29).toInt ≤ 40 ∧ 0 ≤ ((σ.2.1 21) ((σ.1 19).toInt - 1).toNat).toInt) : Met l yX12_compared (Cond.code yX12_compared cX12_compared 1 (some .boolean) :: GWm) ({ frames := 0, cells := 0, slots := 0, locals := 0 }) (PcR D cy sz0 sa ad [.ref (ad 0)] σ sz) (va_Qi (fun (r : Int32) (u : Unit) => (True) ∧ ((¬ r.toInt = 0 → cmpd (mkC ((σ.1 19).toInt).toNat ((σ.1 29).toInt).toNat ((σ.1 14).toInt).toNat ((σ.1 17).toInt) ((σ.1 8).toInt) ((σ.1 9).toInt) ((σ.1 18).toInt) ((σ.1 16).toInt).toNat ((σ.1 33).toInt) ((σ.1 34).toInt) (tz (σ.2.1 20)) (tz (σ.2.1 21)) (tz (σ.2.1 22)) (tz (σ.2.1 23)) (tz (σ.2.1 24)) (tz (σ.2.1 25)) (tz (σ.2.1 26)) (tz (σ.2.1 27)) (tz (σ.2.1 28)) (tz (σ.2.1 30)) (tz (σ.2.1 31)) (tz (σ.2.1 32)) (tz (σ.2.1 11)) (tzl (σ.2.2.1 12)))) ∧ (r.toInt = 0 → ¬ cmpd (mkC ((σ.1 19).toInt).toNat ((σ.1 29).toInt).toNat ((σ.1 14).toInt).toNat ((σ.1 17).toInt) ((σ.1 8).toInt) ((σ.1 9).toInt) ((σ.1 18).toInt) ((σ.1 16).toInt).toNat ((σ.1 33).toInt) ((σ.1 34).toInt) (tz (σ.2.1 20)) (tz (σ.2.1 21)) (tz (σ.2.1 22)) (tz (σ.2.1 23)) (tz (σ.2.1 24)) (tz (σ.2.1 25)) (tz (σ.2.1 26)) (tz (σ.2.1 27)) (tz (σ.2.1 28)) (tz (σ.2.1 30)) (tz (σ.2.1 31)) (tz (σ.2.1 32)) (tz (σ.2.1 11)) (tzl (σ.2.2.1 12)))))) (fun (u : Unit) (t : State) => RP D cy ad σ t.heap) (AR cy ad sz)) 0 0 (AR cy ad sz) := by
  refine RM_of (loc0 := [(0, .ref (ad 0))]) (by decide) rfl rfl (Nat.le_of_ble_eq_true rfl) ?_
  intro p e s m below meth c ls hsz C hP hS hl
  have hx := C.1
  have hb := C.2.1
  have hown := C.2.2.2.2.1
  have hw := C.2.2.2.2.2.1
  clear hsz
  obtain ⟨hpre_0, hpre_1, hpre_2, hpre_3, hpre_4⟩ := hpre
  refine lv_aload_n hx hb dX12_compared_0 rfl (lv_at hl 0 rfl) ?_
  refine rg_29 (v := (σ.1 29)) C hP rfl wm_77 dX12_compared_1 ?_
  refine lv_aload_n hx hb dX12_compared_4 rfl (lv_at hl 0 rfl) ?_
  refine rg_21 C hP wm_76 dX12_compared_5 ?_
  refine lv_aload_n hx hb dX12_compared_8 rfl (lv_at hl 0 rfl) ?_
  refine rg_19 (v := (σ.1 19)) C hP rfl wm_70 dX12_compared_9 ?_
  refine lv_iconst (v := 1) hx hb dX12_compared_12 (by decide +kernel) ?_
  refine lv_isub hx hb dX12_compared_13 ?_
  refine lv_topi (fun x1 ex1 => ?_)
  have tx1 : x1.toInt = (σ.1 19).toInt - 1 := (v_compared_1 σ x1 hpre_0 hpre_1 hpre_4 ex1)
  refine ra_21 (f := (σ.2.1 21)) C hP rfl (v_compared_2 σ x1 hpre_0 hpre_1 hpre_4 ex1 tx1) dX12_compared_14 (fun x2 ex2 => ?_)
  have tx2 : x2.toInt = ((σ.2.1 21) ((σ.1 19).toInt - 1).toNat).toInt := by rw [ex2, clampN, tx1]
  refine lv_icmp_le (tgt := 37) hx hb dX12_compared_15 (by decide) (fun c3 => ?_) (fun c3 => ?_)
  · have c3 : (σ.1 29).toInt ≤ x2.toInt := by have h := z_le c3; exact h
    refine lv_iconst (v := 0) hx hb dX12_compared_37 (by decide +kernel) ?_
    exact r_retz C () (v_compared_4  ) ⟨trivial, (v_compared_3 σ x1 x2 hpre_0 hpre_1 hpre_2 hpre_3 hpre_4 ex1 tx1 ex2 tx2 c3)⟩ hP hS dX12_compared_38
  · have c3 : x2.toInt < (σ.1 29).toInt := by have h := z_nle c3; exact h
    refine lv_aload_n hx hb dX12_compared_18 rfl (lv_at hl 0 rfl) ?_
    refine rg_31 C hP wm_122 dX12_compared_19 ?_
    refine lv_aload_n hx hb dX12_compared_22 rfl (lv_at hl 0 rfl) ?_
    refine rg_29 (v := (σ.1 29)) C hP rfl wm_77 dX12_compared_23 ?_
    refine lv_iconst (v := 1) hx hb dX12_compared_26 (by decide +kernel) ?_
    refine lv_isub hx hb dX12_compared_27 ?_
    refine lv_topi (fun x4 ex4 => ?_)
    have tx4 : x4.toInt = (σ.1 29).toInt - 1 := (v_compared_5 σ x1 x2 x4 hpre_0 hpre_1 hpre_2 hpre_3 hpre_4 ex1 tx1 ex2 tx2 c3 ex4)
    refine ra_31 (f := (σ.2.1 31)) C hP rfl (v_compared_6 σ x1 x2 x4 hpre_0 hpre_1 hpre_2 hpre_3 hpre_4 ex1 tx1 ex2 tx2 c3 ex4 tx4) dX12_compared_28 (fun x5 ex5 => ?_)
    have tx5 : x5.toInt = ((σ.2.1 31) ((σ.1 29).toInt - 1).toNat).toInt := by rw [ex5, clampN, tx4]
    refine lv_iconst (v := 3) hx hb dX12_compared_29 (by decide +kernel) ?_
    refine lv_icmp_ne (tgt := 37) hx hb dX12_compared_30 (by decide) (fun c6 => ?_) (fun c6 => ?_)
    · have c6 : ¬ x5.toInt = 3 := by have h := z_ne c6; rw [show (3 : Int32).toInt = 3 from by decide +kernel] at h; exact h
      refine lv_iconst (v := 0) hx hb dX12_compared_37 (by decide +kernel) ?_
      exact r_retz C () (v_compared_4  ) ⟨trivial, (v_compared_7 σ x1 x2 x4 x5 hpre_0 hpre_1 hpre_2 hpre_3 hpre_4 ex1 tx1 ex2 tx2 c3 ex4 tx4 ex5 tx5 c6)⟩ hP hS dX12_compared_38
    · have c6 : x5.toInt = 3 := by have h := z_eq c6; rw [show (3 : Int32).toInt = 3 from by decide +kernel] at h; exact h
      refine lv_iconst (v := 1) hx hb dX12_compared_33 (by decide +kernel) ?_
      refine lv_goto (tgt := 38) hx hb dX12_compared_34 (by decide) ?_
      exact r_retz C () (v_compared_9  ) ⟨trivial, (v_compared_8 σ x1 x2 x4 x5 hpre_0 hpre_1 hpre_2 hpre_3 hpre_4 ex1 tx1 ex2 tx2 c3 ex4 tx4 ex5 tx5 c6)⟩ hP hS dX12_compared_38
