/-! the model: the BOOK kept; whose HABIT -/
theorem m_isLine {g : fm_g} {d i k v : Nat} {w : WD} {t : fm_S} (hF : FX t) (hW : MW t w) (hw : wOK w) (hH : MH t k) (hi : i < wl w) (hv : v < wn w) (hst : kst k ≤ wn w) : ev g (d + 1) mX12_isLine 0 [some (.ref (432 : Nat)), some (.int (Int32.ofNat i)), some (.int (Int32.ofNat v)), none] [] t = some (.inl (some (.int (bi ((wB w i).2.2 = vlB w v (wB w i).2.1 k)))), t) := by
  obtain ⟨h51, h52, h53, h54, h55⟩ := id hH
  obtain ⟨q1, q2, q3⟩ := hW.2.2.2.2.2.2 i hi
  obtain ⟨b1, b2, b3⟩ := hw.2.2.2.2.2.2 i hi
  have hl := hw.2.2.2.2.2.1
  have hvl := vlB_le (w := w) (v := v) (kind := (wB w i).2.1) (k := k)
  have r31 := hF.u 432 31 450 (by decide +kernel)
  have e1 := m_isWarm (g := g) (d := d) hF hW hw hH hv hst
  have hb : bi (kwm w v k = true) = Int32.ofNat (if kwm w v k = true then 1 else 0) := by unfold bi; split <;> rfl
  generalize hkd : (wB w i).2.1 = kind at *
  generalize hx : (wB w i).2.2 = x at *
  have fin : ∀ y, y = vlB w v kind k → ((Int32.ofNat y = Int32.ofNat x) ↔ (x = vlB w v kind k)) := fun y hy => by
    rw [n32_eq (by omega) (by omega), hy]
    exact eq_comm
  have : kind = 0 ∨ kind = 1 ∨ kind = 2 := by omega
  rcases this with rfl | rfl | rfl
  · have f := fin (kcard k) rfl
    by_cases c : x = vlB w v 0 k
    · rw [bi_t c]
      simp (disch := first | exact jm_lt0 | (apply jm_ltx; (repeat (first | exact jw_0 | apply jw_i | apply jw_r | apply jw_l)); omega) | omega | assumption | exact sa_432 | exact sa_450 | exact n32_inA sb_432 (by omega) (by omega) | exact n32_inA sb_450 (by omega) (by omega) | (refine n32_inA (by assumption) ?_ ?_ <;> omega) | exact bi01 | (rw [sa_432]; omega) | (rw [sa_450]; omega) | decide) only [sX12_isLine_0, sX12_isLine_1, sX12_isLine_4, sX12_isLine_5, sX12_isLine_6, sX12_isLine_7, sX12_isLine_8, sX12_isLine_9, sX12_isLine_10, sX12_isLine_13, sX12_isLine_14, sX12_isLine_17, sX12_isLine_20, sX12_isLine_21, sX12_isLine_24, sX12_isLine_25, sX12_isLine_26, sX12_isLine_27, sX12_isLine_28, sX12_isLine_29, sX12_isLine_30, sX12_isLine_31, sX12_isLine_34, sX12_isLine_35, sX12_isLine_36, sX12_isLine_39, sX12_isLine_42, sX12_isLine_43, kX12_isLine_46_AIIN, sX12_isLine_46, sX12_isLine_47, kX12_isLine_50_AIIN, sX12_isLine_50, sX12_isLine_51, sX12_isLine_54, sX12_isLine_55, sX12_isLine_58, kX12_isLine_59_AIIN, sX12_isLine_59, sX12_isLine_60, sX12_isLine_61, sX12_isLine_62, sX12_isLine_65, sX12_isLine_66, sX12_isLine_67, sX12_isLine_68, sX12_isLine_69, sX12_isLine_70, sX12_isLine_71, sX12_isLine_74, sX12_isLine_75, kX12_isLine_78_AINI, sX12_isLine_78, kX12_isLine_79_AINI, sX12_isLine_79, evK_n, evK_v, evK_x, gI_pI, gJ_pI, gR_pI, gI_pJ, gJ_pJ, gR_pJ, gI_pR, gJ_pR, gR_pR, n32_cl, if_true, if_false, not_true_eq_false, not_false_eq_true, and_true, true_and, and_false, false_and, and_self, or_true, true_or, or_false, false_or, or_self, ne_eq, Decidable.not_not, Nat.reduceEqDiff, Nat.reduceEqDiff, sa_432, sb_432, sa_450, sb_450, n32_mul, n32_add, r31, q2, q3, h53, z32, eq_true (f.mpr c), not_true_eq_false]
    · rw [bi_f c]
      simp (disch := first | exact jm_lt0 | (apply jm_ltx; (repeat (first | exact jw_0 | apply jw_i | apply jw_r | apply jw_l)); omega) | omega | assumption | exact sa_432 | exact sa_450 | exact n32_inA sb_432 (by omega) (by omega) | exact n32_inA sb_450 (by omega) (by omega) | (refine n32_inA (by assumption) ?_ ?_ <;> omega) | exact bi01 | (rw [sa_432]; omega) | (rw [sa_450]; omega) | decide) only [sX12_isLine_0, sX12_isLine_1, sX12_isLine_4, sX12_isLine_5, sX12_isLine_6, sX12_isLine_7, sX12_isLine_8, sX12_isLine_9, sX12_isLine_10, sX12_isLine_13, sX12_isLine_14, sX12_isLine_17, sX12_isLine_20, sX12_isLine_21, sX12_isLine_24, sX12_isLine_25, sX12_isLine_26, sX12_isLine_27, sX12_isLine_28, sX12_isLine_29, sX12_isLine_30, sX12_isLine_31, sX12_isLine_34, sX12_isLine_35, sX12_isLine_36, sX12_isLine_39, sX12_isLine_42, sX12_isLine_43, kX12_isLine_46_AIIN, sX12_isLine_46, sX12_isLine_47, kX12_isLine_50_AIIN, sX12_isLine_50, sX12_isLine_51, sX12_isLine_54, sX12_isLine_55, sX12_isLine_58, kX12_isLine_59_AIIN, sX12_isLine_59, sX12_isLine_60, sX12_isLine_61, sX12_isLine_62, sX12_isLine_65, sX12_isLine_66, sX12_isLine_67, sX12_isLine_68, sX12_isLine_69, sX12_isLine_70, sX12_isLine_71, sX12_isLine_74, sX12_isLine_75, kX12_isLine_78_AINI, sX12_isLine_78, kX12_isLine_79_AINI, sX12_isLine_79, evK_n, evK_v, evK_x, gI_pI, gJ_pI, gR_pI, gI_pJ, gJ_pJ, gR_pJ, gI_pR, gJ_pR, gR_pR, n32_cl, if_true, if_false, not_true_eq_false, not_false_eq_true, and_true, true_and, and_false, false_and, and_self, or_true, true_or, or_false, false_or, or_self, ne_eq, Decidable.not_not, Nat.reduceEqDiff, Nat.reduceEqDiff, sa_432, sb_432, sa_450, sb_450, n32_mul, n32_add, r31, q2, q3, h53, z32, f, c]
  · have f := fin (if kwm w v k = true then 1 else 0) rfl
    by_cases cw : kwm w v k = true
    · rw [bi_t cw] at e1
      rw [if_pos cw] at f
      by_cases c : x = vlB w v 1 k
      · rw [bi_t c]
        simp (disch := first | exact jm_lt0 | (apply jm_ltx; (repeat (first | exact jw_0 | apply jw_i | apply jw_r | apply jw_l)); omega) | omega | assumption | exact sa_432 | exact sa_450 | exact n32_inA sb_432 (by omega) (by omega) | exact n32_inA sb_450 (by omega) (by omega) | (refine n32_inA (by assumption) ?_ ?_ <;> omega) | exact bi01 | (rw [sa_432]; omega) | (rw [sa_450]; omega) | decide) only [sX12_isLine_0, sX12_isLine_1, sX12_isLine_4, sX12_isLine_5, sX12_isLine_6, sX12_isLine_7, sX12_isLine_8, sX12_isLine_9, sX12_isLine_10, sX12_isLine_13, sX12_isLine_14, sX12_isLine_17, sX12_isLine_20, sX12_isLine_21, sX12_isLine_24, sX12_isLine_25, sX12_isLine_26, sX12_isLine_27, sX12_isLine_28, sX12_isLine_29, sX12_isLine_30, sX12_isLine_31, sX12_isLine_34, sX12_isLine_35, sX12_isLine_36, sX12_isLine_39, sX12_isLine_42, sX12_isLine_43, kX12_isLine_46_AIIN, sX12_isLine_46, sX12_isLine_47, kX12_isLine_50_AIIN, sX12_isLine_50, sX12_isLine_51, sX12_isLine_54, sX12_isLine_55, sX12_isLine_58, kX12_isLine_59_AIIN, sX12_isLine_59, sX12_isLine_60, sX12_isLine_61, sX12_isLine_62, sX12_isLine_65, sX12_isLine_66, sX12_isLine_67, sX12_isLine_68, sX12_isLine_69, sX12_isLine_70, sX12_isLine_71, sX12_isLine_74, sX12_isLine_75, kX12_isLine_78_AINI, sX12_isLine_78, kX12_isLine_79_AINI, sX12_isLine_79, evK_n, evK_v, evK_x, gI_pI, gJ_pI, gR_pI, gI_pJ, gJ_pJ, gR_pJ, gI_pR, gJ_pR, gR_pR, n32_cl, if_true, if_false, not_true_eq_false, not_false_eq_true, and_true, true_and, and_false, false_and, and_self, or_true, true_or, or_false, false_or, or_self, ne_eq, Decidable.not_not, Nat.reduceEqDiff, Nat.reduceEqDiff, sa_432, sb_432, sa_450, sb_450, n32_mul, n32_add, r31, q2, q3, e1, show ¬ (Int32.ofNat 1 = 0) by decide, eq_true (f.mpr c), not_true_eq_false]
      · rw [bi_f c]
        simp (disch := first | exact jm_lt0 | (apply jm_ltx; (repeat (first | exact jw_0 | apply jw_i | apply jw_r | apply jw_l)); omega) | omega | assumption | exact sa_432 | exact sa_450 | exact n32_inA sb_432 (by omega) (by omega) | exact n32_inA sb_450 (by omega) (by omega) | (refine n32_inA (by assumption) ?_ ?_ <;> omega) | exact bi01 | (rw [sa_432]; omega) | (rw [sa_450]; omega) | decide) only [sX12_isLine_0, sX12_isLine_1, sX12_isLine_4, sX12_isLine_5, sX12_isLine_6, sX12_isLine_7, sX12_isLine_8, sX12_isLine_9, sX12_isLine_10, sX12_isLine_13, sX12_isLine_14, sX12_isLine_17, sX12_isLine_20, sX12_isLine_21, sX12_isLine_24, sX12_isLine_25, sX12_isLine_26, sX12_isLine_27, sX12_isLine_28, sX12_isLine_29, sX12_isLine_30, sX12_isLine_31, sX12_isLine_34, sX12_isLine_35, sX12_isLine_36, sX12_isLine_39, sX12_isLine_42, sX12_isLine_43, kX12_isLine_46_AIIN, sX12_isLine_46, sX12_isLine_47, kX12_isLine_50_AIIN, sX12_isLine_50, sX12_isLine_51, sX12_isLine_54, sX12_isLine_55, sX12_isLine_58, kX12_isLine_59_AIIN, sX12_isLine_59, sX12_isLine_60, sX12_isLine_61, sX12_isLine_62, sX12_isLine_65, sX12_isLine_66, sX12_isLine_67, sX12_isLine_68, sX12_isLine_69, sX12_isLine_70, sX12_isLine_71, sX12_isLine_74, sX12_isLine_75, kX12_isLine_78_AINI, sX12_isLine_78, kX12_isLine_79_AINI, sX12_isLine_79, evK_n, evK_v, evK_x, gI_pI, gJ_pI, gR_pI, gI_pJ, gJ_pJ, gR_pJ, gI_pR, gJ_pR, gR_pR, n32_cl, if_true, if_false, not_true_eq_false, not_false_eq_true, and_true, true_and, and_false, false_and, and_self, or_true, true_or, or_false, false_or, or_self, ne_eq, Decidable.not_not, Nat.reduceEqDiff, Nat.reduceEqDiff, sa_432, sb_432, sa_450, sb_450, n32_mul, n32_add, r31, q2, q3, e1, show ¬ (Int32.ofNat 1 = 0) by decide, f, c]
    · rw [bi_f cw] at e1
      rw [if_neg cw] at f
      by_cases c : x = vlB w v 1 k
      · rw [bi_t c]
        simp (disch := first | exact jm_lt0 | (apply jm_ltx; (repeat (first | exact jw_0 | apply jw_i | apply jw_r | apply jw_l)); omega) | omega | assumption | exact sa_432 | exact sa_450 | exact n32_inA sb_432 (by omega) (by omega) | exact n32_inA sb_450 (by omega) (by omega) | (refine n32_inA (by assumption) ?_ ?_ <;> omega) | exact bi01 | (rw [sa_432]; omega) | (rw [sa_450]; omega) | decide) only [sX12_isLine_0, sX12_isLine_1, sX12_isLine_4, sX12_isLine_5, sX12_isLine_6, sX12_isLine_7, sX12_isLine_8, sX12_isLine_9, sX12_isLine_10, sX12_isLine_13, sX12_isLine_14, sX12_isLine_17, sX12_isLine_20, sX12_isLine_21, sX12_isLine_24, sX12_isLine_25, sX12_isLine_26, sX12_isLine_27, sX12_isLine_28, sX12_isLine_29, sX12_isLine_30, sX12_isLine_31, sX12_isLine_34, sX12_isLine_35, sX12_isLine_36, sX12_isLine_39, sX12_isLine_42, sX12_isLine_43, kX12_isLine_46_AIIN, sX12_isLine_46, sX12_isLine_47, kX12_isLine_50_AIIN, sX12_isLine_50, sX12_isLine_51, sX12_isLine_54, sX12_isLine_55, sX12_isLine_58, kX12_isLine_59_AIIN, sX12_isLine_59, sX12_isLine_60, sX12_isLine_61, sX12_isLine_62, sX12_isLine_65, sX12_isLine_66, sX12_isLine_67, sX12_isLine_68, sX12_isLine_69, sX12_isLine_70, sX12_isLine_71, sX12_isLine_74, sX12_isLine_75, kX12_isLine_78_AINI, sX12_isLine_78, kX12_isLine_79_AINI, sX12_isLine_79, evK_n, evK_v, evK_x, gI_pI, gJ_pI, gR_pI, gI_pJ, gJ_pJ, gR_pJ, gI_pR, gJ_pR, gR_pR, n32_cl, if_true, if_false, not_true_eq_false, not_false_eq_true, and_true, true_and, and_false, false_and, and_self, or_true, true_or, or_false, false_or, or_self, ne_eq, Decidable.not_not, Nat.reduceEqDiff, Nat.reduceEqDiff, sa_432, sb_432, sa_450, sb_450, n32_mul, n32_add, r31, q2, q3, e1, z32, show ¬ (Int32.ofNat 1 = 0) by decide, eq_true (f.mpr c), not_true_eq_false]
      · rw [bi_f c]
        simp (disch := first | exact jm_lt0 | (apply jm_ltx; (repeat (first | exact jw_0 | apply jw_i | apply jw_r | apply jw_l)); omega) | omega | assumption | exact sa_432 | exact sa_450 | exact n32_inA sb_432 (by omega) (by omega) | exact n32_inA sb_450 (by omega) (by omega) | (refine n32_inA (by assumption) ?_ ?_ <;> omega) | exact bi01 | (rw [sa_432]; omega) | (rw [sa_450]; omega) | decide) only [sX12_isLine_0, sX12_isLine_1, sX12_isLine_4, sX12_isLine_5, sX12_isLine_6, sX12_isLine_7, sX12_isLine_8, sX12_isLine_9, sX12_isLine_10, sX12_isLine_13, sX12_isLine_14, sX12_isLine_17, sX12_isLine_20, sX12_isLine_21, sX12_isLine_24, sX12_isLine_25, sX12_isLine_26, sX12_isLine_27, sX12_isLine_28, sX12_isLine_29, sX12_isLine_30, sX12_isLine_31, sX12_isLine_34, sX12_isLine_35, sX12_isLine_36, sX12_isLine_39, sX12_isLine_42, sX12_isLine_43, kX12_isLine_46_AIIN, sX12_isLine_46, sX12_isLine_47, kX12_isLine_50_AIIN, sX12_isLine_50, sX12_isLine_51, sX12_isLine_54, sX12_isLine_55, sX12_isLine_58, kX12_isLine_59_AIIN, sX12_isLine_59, sX12_isLine_60, sX12_isLine_61, sX12_isLine_62, sX12_isLine_65, sX12_isLine_66, sX12_isLine_67, sX12_isLine_68, sX12_isLine_69, sX12_isLine_70, sX12_isLine_71, sX12_isLine_74, sX12_isLine_75, kX12_isLine_78_AINI, sX12_isLine_78, kX12_isLine_79_AINI, sX12_isLine_79, evK_n, evK_v, evK_x, gI_pI, gJ_pI, gR_pI, gI_pJ, gJ_pJ, gR_pJ, gI_pR, gJ_pR, gR_pR, n32_cl, if_true, if_false, not_true_eq_false, not_false_eq_true, and_true, true_and, and_false, false_and, and_self, or_true, true_or, or_false, false_or, or_self, ne_eq, Decidable.not_not, Nat.reduceEqDiff, Nat.reduceEqDiff, sa_432, sb_432, sa_450, sb_450, n32_mul, n32_add, r31, q2, q3, e1, z32, show ¬ (Int32.ofNat 1 = 0) by decide, f, c]
  · have f := fin (kc k + kd k) rfl
    by_cases c : x = vlB w v 2 k
    · rw [bi_t c]
      simp (disch := first | exact jm_lt0 | (apply jm_ltx; (repeat (first | exact jw_0 | apply jw_i | apply jw_r | apply jw_l)); omega) | omega | assumption | exact sa_432 | exact sa_450 | exact n32_inA sb_432 (by omega) (by omega) | exact n32_inA sb_450 (by omega) (by omega) | (refine n32_inA (by assumption) ?_ ?_ <;> omega) | exact bi01 | (rw [sa_432]; omega) | (rw [sa_450]; omega) | decide) only [sX12_isLine_0, sX12_isLine_1, sX12_isLine_4, sX12_isLine_5, sX12_isLine_6, sX12_isLine_7, sX12_isLine_8, sX12_isLine_9, sX12_isLine_10, sX12_isLine_13, sX12_isLine_14, sX12_isLine_17, sX12_isLine_20, sX12_isLine_21, sX12_isLine_24, sX12_isLine_25, sX12_isLine_26, sX12_isLine_27, sX12_isLine_28, sX12_isLine_29, sX12_isLine_30, sX12_isLine_31, sX12_isLine_34, sX12_isLine_35, sX12_isLine_36, sX12_isLine_39, sX12_isLine_42, sX12_isLine_43, kX12_isLine_46_AIIN, sX12_isLine_46, sX12_isLine_47, kX12_isLine_50_AIIN, sX12_isLine_50, sX12_isLine_51, sX12_isLine_54, sX12_isLine_55, sX12_isLine_58, kX12_isLine_59_AIIN, sX12_isLine_59, sX12_isLine_60, sX12_isLine_61, sX12_isLine_62, sX12_isLine_65, sX12_isLine_66, sX12_isLine_67, sX12_isLine_68, sX12_isLine_69, sX12_isLine_70, sX12_isLine_71, sX12_isLine_74, sX12_isLine_75, kX12_isLine_78_AINI, sX12_isLine_78, kX12_isLine_79_AINI, sX12_isLine_79, evK_n, evK_v, evK_x, gI_pI, gJ_pI, gR_pI, gI_pJ, gJ_pJ, gR_pJ, gI_pR, gJ_pR, gR_pR, n32_cl, if_true, if_false, not_true_eq_false, not_false_eq_true, and_true, true_and, and_false, false_and, and_self, or_true, true_or, or_false, false_or, or_self, ne_eq, Decidable.not_not, Nat.reduceEqDiff, Nat.reduceEqDiff, sa_432, sb_432, sa_450, sb_450, n32_mul, n32_add, r31, q2, q3, h51, h52, show ¬ (Int32.ofNat 2 = 0) by decide, show ¬ (Int32.ofNat 2 = Int32.ofNat 1) by decide, eq_true (f.mpr c), not_true_eq_false]
    · rw [bi_f c]
      simp (disch := first | exact jm_lt0 | (apply jm_ltx; (repeat (first | exact jw_0 | apply jw_i | apply jw_r | apply jw_l)); omega) | omega | assumption | exact sa_432 | exact sa_450 | exact n32_inA sb_432 (by omega) (by omega) | exact n32_inA sb_450 (by omega) (by omega) | (refine n32_inA (by assumption) ?_ ?_ <;> omega) | exact bi01 | (rw [sa_432]; omega) | (rw [sa_450]; omega) | decide) only [sX12_isLine_0, sX12_isLine_1, sX12_isLine_4, sX12_isLine_5, sX12_isLine_6, sX12_isLine_7, sX12_isLine_8, sX12_isLine_9, sX12_isLine_10, sX12_isLine_13, sX12_isLine_14, sX12_isLine_17, sX12_isLine_20, sX12_isLine_21, sX12_isLine_24, sX12_isLine_25, sX12_isLine_26, sX12_isLine_27, sX12_isLine_28, sX12_isLine_29, sX12_isLine_30, sX12_isLine_31, sX12_isLine_34, sX12_isLine_35, sX12_isLine_36, sX12_isLine_39, sX12_isLine_42, sX12_isLine_43, kX12_isLine_46_AIIN, sX12_isLine_46, sX12_isLine_47, kX12_isLine_50_AIIN, sX12_isLine_50, sX12_isLine_51, sX12_isLine_54, sX12_isLine_55, sX12_isLine_58, kX12_isLine_59_AIIN, sX12_isLine_59, sX12_isLine_60, sX12_isLine_61, sX12_isLine_62, sX12_isLine_65, sX12_isLine_66, sX12_isLine_67, sX12_isLine_68, sX12_isLine_69, sX12_isLine_70, sX12_isLine_71, sX12_isLine_74, sX12_isLine_75, kX12_isLine_78_AINI, sX12_isLine_78, kX12_isLine_79_AINI, sX12_isLine_79, evK_n, evK_v, evK_x, gI_pI, gJ_pI, gR_pI, gI_pJ, gJ_pJ, gR_pJ, gI_pR, gJ_pR, gR_pR, n32_cl, if_true, if_false, not_true_eq_false, not_false_eq_true, and_true, true_and, and_false, false_and, and_self, or_true, true_or, or_false, false_or, or_self, ne_eq, Decidable.not_not, Nat.reduceEqDiff, Nat.reduceEqDiff, sa_432, sb_432, sa_450, sb_450, n32_mul, n32_add, r31, q2, q3, h51, h52, show ¬ (Int32.ofNat 2 = 0) by decide, show ¬ (Int32.ofNat 2 = Int32.ofNat 1) by decide, f, c]
theorem ML.congr {t : fm_S} {l : List Nat} {D D' : Nat → Nat} (h : ML t l D) (e : ∀ k, k < NS → D k = D' k) : ML t l D' := by
  obtain ⟨h1, h2, h3, h4, h5, h6⟩ := h
  refine ⟨h1, h2, h3, h4, fun q hq => ?_, fun k hk => by rw [← e k hk]; exact h6 k hk⟩
  rw [h5 q hq]
  congr 1
  unfold pq
  split
  next c => exact e _ c
  next => rfl
def pKB (b j : Nat) : Prop := b = 432 ∧ 51 ≤ j ∧ j ≤ 55
section KB
variable {l : List Nat} {E : Nat → Nat} {w : WD}
/-- the first j states of the row held against line i -/
def kbD (w : WD) (v i : Nat) (l : List Nat) (j : Nat) (E : Nat → Nat) : Nat → Nat := fun k => if k ∈ l.take j ∧ ¬ (wB w i).2.2 = vlB w v (wB w i).2.1 k then 0 else E k
theorem kb_succ {v i j k : Nat} (hk : l[j]? = some k) : kbD w v i l (j + 1) E = fun x => if x = k ∧ ¬ (wB w i).2.2 = vlB w v (wB w i).2.1 k then 0 else kbD w v i l j E x := by
  funext x
  unfold kbD
  have hm : x ∈ l.take (j + 1) ↔ x ∈ l.take j ∨ x = k := by
    rw [List.take_add_one, hk, List.mem_append]
    simp
  by_cases c : x = k
  · subst c
    by_cases c2 : (wB w i).2.2 = vlB w v (wB w i).2.1 x
    · simp [c2]
    · simp [c2, hm]
  · simp [hm, c]
theorem m_kbLoop {g : fm_g} {d v i u : Nat} {t0 : fm_S} (hF : FX t0) (hW : MW t0 w) (hw : wOK w) (hi : i < wl w) (hv : v < wn w) (hL : ML t0 l E) (hu : ∀ k ∈ l, kst k ≤ u) (huw : u ≤ wn w) : ∀ (m j : Nat) (t : fm_S), j + m = l.length → FM pMh qL t0 t → ML t l (kbD w v i l j E) → ∃ t', ev g (d + 2) mX12_keepsBook 27 [some (.ref (432 : Nat)), some (.int (Int32.ofNat v)), some (.int (Int32.ofNat i)), some (.int (Int32.ofNat j))] [] t = ev g (d + 2) mX12_keepsBook 72 [some (.ref (432 : Nat)), some (.int (Int32.ofNat v)), some (.int (Int32.ofNat i)), none] [] t' ∧ FM pMh qL t0 t' ∧ ML t' l (kbD w v i l l.length E) := by
  have hlen := hL.len
  have hn : wn w ≤ 24 := hw.2.2.1
  have hll := hw.2.2.2.2.2.1
  intro m
  induction m with
  | zero =>
    intro j t hj hM hT
    have hil : j = l.length := by omega
    subst hil
    refine ⟨t, ?_, hM, hT⟩
    have e1 := hT.1
    rw [sX12_keepsBook_27]
    simp (disch := first | exact jm_lt0 | (apply jm_ltx; (repeat (first | exact jw_0 | apply jw_i | apply jw_r | apply jw_l)); omega) | omega | assumption | exact sa_432 | exact n32_inA sb_432 (by omega) (by omega) | (refine n32_inA (by assumption) ?_ ?_ <;> omega) | exact bi01 | (rw [sa_432]; omega) | decide) only [sX12_keepsBook_0, sX12_keepsBook_1, sX12_keepsBook_3, sX12_keepsBook_4, sX12_keepsBook_7, sX12_keepsBook_10, sX12_keepsBook_11, sX12_keepsBook_14, sX12_keepsBook_15, sX12_keepsBook_16, sX12_keepsBook_17, sX12_keepsBook_18, sX12_keepsBook_19, sX12_keepsBook_22, sX12_keepsBook_25, sX12_keepsBook_26, sX12_keepsBook_28, sX12_keepsBook_29, sX12_keepsBook_32, sX12_keepsBook_35, sX12_keepsBook_36, sX12_keepsBook_37, sX12_keepsBook_40, sX12_keepsBook_41, sX12_keepsBook_42, sX12_keepsBook_45, sX12_keepsBook_46, sX12_keepsBook_47, sX12_keepsBook_48, sX12_keepsBook_51, sX12_keepsBook_54, sX12_keepsBook_55, sX12_keepsBook_58, sX12_keepsBook_59, sX12_keepsBook_62, sX12_keepsBook_63, sX12_keepsBook_64, sX12_keepsBook_65, sX12_keepsBook_66, sX12_keepsBook_69, kX12_keepsBook_72_AIII, sX12_keepsBook_75, kX12_keepsBook_78_AIIN, sX12_keepsBook_78, evK_n, evK_v, evK_x, gI_pI, gJ_pI, gR_pI, gI_pJ, gJ_pJ, gR_pJ, gI_pR, gJ_pR, gR_pR, n32_le, n32_lt, n32_add, n32_mul, n32_cl, if_true, if_false, not_true_eq_false, not_false_eq_true, and_true, true_and, and_false, false_and, and_self, or_true, true_or, or_false, false_or, or_self, ne_eq, Decidable.not_not, Nat.reduceEqDiff, Nat.reduceEqDiff, sa_432, sb_432, e1]
    rw [if_pos (by omega)]
  | succ m ih =>
    intro j t hj hM hT
    have hjl : j < l.length := by omega
    have hjk : l[j]? = some l[j] := List.getElem?_eq_getElem hjl
    have hst := hu _ (List.getElem_mem hjl)
    generalize l[j] = k at hjk hst
    have hk : k < NS := hT.2.2.1 k (List.mem_of_getElem? hjk)
    have hmx := mix_lt hk
    have hFt := hM.fx hF
    have x1 := hT.1
    have x2 := hT.2.2.2.1 j k hjk
    have r33 := hFt.u 432 33 451 (by decide +kernel)
    obtain ⟨t1, e1, hM1, hH1⟩ := m_stateOf (g := g) (d := d + 1) (t := t) hk
    have hF1 := hM1.fx hFt
    have hM01 : FM pMh qL t0 t1 := hM.tr (hM1.mono (fun _ _ h => h) (fun _ _ h => h.elim))
    have hW1 : MW t1 w := hW.of (fun b j hb => hM01.2.1 b j (fun q => hb (by unfold pMh at q; unfold pM; omega)))
    have hT1 : ML t1 l (kbD w v i l j E) := hT.of (hM1.2.1 _ _ (by unfold pMh; omega)) (fun _ => hM1.2.1 _ _ (by unfold pMh; omega)) (fun _ => hM1.2.2 _ _ (fun h => h))
    have e2 := m_isLine (g := g) (d := d) hF1 hW1 hw hH1 hi hv (by omega)
    have r33' := hF1.u 432 33 451 (by decide +kernel)
    have r37' := hF1.u 432 37 453 (by decide +kernel)
    have x2' := hT1.2.2.2.1 j k hjk
    have g1 : ¬ l.length ≤ j := by omega
    by_cases c : (wB w i).2.2 = vlB w v (wB w i).2.1 k
    · have hn1 : kbD w v i l (j + 1) E = kbD w v i l j E := by rw [kb_succ hjk]; simp [c]
      obtain ⟨t', f1, f2, f3⟩ := ih (j + 1) t1 (by omega) hM01 (by rw [hn1]; exact hT1)
      refine ⟨t', ?_, f2, f3⟩
      rw [bi_t c] at e2
      rw [sX12_keepsBook_27]
      simp (disch := first | exact jm_lt0 | (apply jm_ltx; (repeat (first | exact jw_0 | apply jw_i | apply jw_r | apply jw_l)); omega) | omega | assumption | exact sa_432 | exact sa_451 | exact sa_453 | exact n32_inA sb_432 (by omega) (by omega) | exact n32_inA sb_451 (by omega) (by omega) | exact n32_inA sb_453 (by omega) (by omega) | (refine n32_inA (by assumption) ?_ ?_ <;> omega) | exact bi01 | (rw [sa_432]; omega) | (rw [sa_451]; omega) | (rw [sa_453]; omega) | decide) only [sX12_keepsBook_0, sX12_keepsBook_1, sX12_keepsBook_3, sX12_keepsBook_4, sX12_keepsBook_7, sX12_keepsBook_10, sX12_keepsBook_11, sX12_keepsBook_14, sX12_keepsBook_15, sX12_keepsBook_16, sX12_keepsBook_17, sX12_keepsBook_18, sX12_keepsBook_19, sX12_keepsBook_22, sX12_keepsBook_25, sX12_keepsBook_26, sX12_keepsBook_28, sX12_keepsBook_29, sX12_keepsBook_32, sX12_keepsBook_35, sX12_keepsBook_36, sX12_keepsBook_37, sX12_keepsBook_40, sX12_keepsBook_41, sX12_keepsBook_42, sX12_keepsBook_45, sX12_keepsBook_46, sX12_keepsBook_47, sX12_keepsBook_48, sX12_keepsBook_51, sX12_keepsBook_54, sX12_keepsBook_55, sX12_keepsBook_58, sX12_keepsBook_59, sX12_keepsBook_62, sX12_keepsBook_63, sX12_keepsBook_64, sX12_keepsBook_65, sX12_keepsBook_66, sX12_keepsBook_69, kX12_keepsBook_72_AIII, sX12_keepsBook_75, kX12_keepsBook_78_AIIN, sX12_keepsBook_78, evK_n, evK_v, evK_x, gI_pI, gJ_pI, gR_pI, gI_pJ, gJ_pJ, gR_pJ, gI_pR, gJ_pR, gR_pR, n32_le, n32_lt, n32_add, n32_mul, n32_cl, if_true, if_false, not_true_eq_false, not_false_eq_true, and_true, true_and, and_false, false_and, and_self, or_true, true_or, or_false, false_or, or_self, ne_eq, Decidable.not_not, Nat.reduceEqDiff, Nat.reduceEqDiff, sa_432, sb_432, sa_451, sb_451, sa_453, sb_453, x1, x2, g1, r33, e1, e2, show ¬ (Int32.ofNat 1 = 0) by decide]
      exact f1
    · have hn1 : kbD w v i l (j + 1) E = fun x => if x = k then 0 else kbD w v i l j E x := by rw [kb_succ hjk]; simp [c]
      have hT2 : ML (pJ t1 453 (mix k) (Int64.ofNat 0)) l (kbD w v i l (j + 1) E) := by
        obtain ⟨h1, h2, h3, h4, h5, h6⟩ := hT1
        refine ⟨by rw [gI_pJ, h1], h2, h3, fun a b hab => by rw [gI_pJ, h4 a b hab], fun q hq => ?_, fun x hx => ?_⟩
        · rw [gJ_pJ, hn1]
          by_cases cq : q = mix k
          · rw [if_pos ⟨rfl, cq⟩, cq, pq_mix hk, if_pos rfl]
          · rw [if_neg (by rintro ⟨-, h⟩; exact cq h), h5 q hq]
            congr 1
            unfold pq
            by_cases c3 : kof q < NS
            · rw [if_pos c3, if_pos c3]; exact (if_neg (fun h => cq ((mix_eq hq hk).mpr h))).symm
            · rw [if_neg c3, if_neg c3]
        · rw [hn1]
          obtain ⟨y1, y2⟩ := h6 x hx
          by_cases c3 : x = k
          · refine ⟨?_, fun h => absurd (if_pos c3) h⟩
            dsimp only
            rw [if_pos c3]; decide
          · dsimp only
            rw [if_neg c3]
            exact ⟨y1, y2⟩
      obtain ⟨t', f1, f2, f3⟩ := ih (j + 1) (pJ t1 453 (mix k) (Int64.ofNat 0)) (by omega) (hM01.tr (FM.pJ rfl)) hT2
      refine ⟨t', ?_, f2, f3⟩
      rw [bi_f c] at e2
      rw [sX12_keepsBook_27]
      simp (disch := first | exact jm_lt0 | (apply jm_ltx; (repeat (first | exact jw_0 | apply jw_i | apply jw_r | apply jw_l)); omega) | omega | assumption | exact sa_432 | exact sa_451 | exact sa_453 | exact n32_inA sb_432 (by omega) (by omega) | exact n32_inA sb_451 (by omega) (by omega) | exact n32_inA sb_453 (by omega) (by omega) | (refine n32_inA (by assumption) ?_ ?_ <;> omega) | exact bi01 | (rw [sa_432]; omega) | (rw [sa_451]; omega) | (rw [sa_453]; omega) | decide) only [sX12_keepsBook_0, sX12_keepsBook_1, sX12_keepsBook_3, sX12_keepsBook_4, sX12_keepsBook_7, sX12_keepsBook_10, sX12_keepsBook_11, sX12_keepsBook_14, sX12_keepsBook_15, sX12_keepsBook_16, sX12_keepsBook_17, sX12_keepsBook_18, sX12_keepsBook_19, sX12_keepsBook_22, sX12_keepsBook_25, sX12_keepsBook_26, sX12_keepsBook_28, sX12_keepsBook_29, sX12_keepsBook_32, sX12_keepsBook_35, sX12_keepsBook_36, sX12_keepsBook_37, sX12_keepsBook_40, sX12_keepsBook_41, sX12_keepsBook_42, sX12_keepsBook_45, sX12_keepsBook_46, sX12_keepsBook_47, sX12_keepsBook_48, sX12_keepsBook_51, sX12_keepsBook_54, sX12_keepsBook_55, sX12_keepsBook_58, sX12_keepsBook_59, sX12_keepsBook_62, sX12_keepsBook_63, sX12_keepsBook_64, sX12_keepsBook_65, sX12_keepsBook_66, sX12_keepsBook_69, kX12_keepsBook_72_AIII, sX12_keepsBook_75, kX12_keepsBook_78_AIIN, sX12_keepsBook_78, evK_n, evK_v, evK_x, gI_pI, gJ_pI, gR_pI, gI_pJ, gJ_pJ, gR_pJ, gI_pR, gJ_pR, gR_pR, n32_le, n32_lt, n32_add, n32_mul, n32_cl, if_true, if_false, not_true_eq_false, not_false_eq_true, and_true, true_and, and_false, false_and, and_self, or_true, true_or, or_false, false_or, or_self, ne_eq, Decidable.not_not, Nat.reduceEqDiff, Nat.reduceEqDiff, sa_432, sb_432, sa_451, sb_451, sa_453, sb_453, x1, x2, g1, r33, e1, e2, z32, r33', r37', x2']
      exact f1
def fiN (w : WD) (v i : Nat) (D : Nat → Nat) : Nat → Nat := fun k => if fitN w v k i = true then D k else 0
theorem m_keepsLoop {g : fm_g} {d v u : Nat} {D : Nat → Nat} {t0 : fm_S} (hF : FX t0) (hW : MW t0 w) (hw : wOK w) (hv : v < wn w) (hL : ML t0 l D) (hu : ∀ k ∈ l, kst k ≤ u) (huw : u ≤ wn w) : ∀ (m i : Nat) (t : fm_S), i + m = wl w → FM pMh qL t0 t → ML t l (fiN w v i D) → ∃ t', ev g (d + 2) mX12_keepsBook 2 [some (.ref (432 : Nat)), some (.int (Int32.ofNat v)), some (.int (Int32.ofNat i)), none] [] t = some (.inl none, t') ∧ FM pMh qL t0 t' ∧ ML t' l (fiN w v (wl w) D) := by
  have hll := hw.2.2.2.2.2.1
  have hn : wn w ≤ 24 := hw.2.2.1
  intro m
  induction m with
  | zero =>
    intro i t hi hM hT
    have hil : i = wl w := by omega
    subst hil
    have hWt : MW t w := hW.of (fun b j hb => hM.2.1 b j (fun q => hb (by unfold pMh at q; unfold pM; omega)))
    have x1 := hWt.2.2.2.2.2.1
    refine ⟨t, ?_, hM, hT⟩
    rw [sX12_keepsBook_2]
    simp (disch := first | exact jm_lt0 | (apply jm_ltx; (repeat (first | exact jw_0 | apply jw_i | apply jw_r | apply jw_l)); omega) | omega | assumption | exact sa_432 | exact n32_inA sb_432 (by omega) (by omega) | (refine n32_inA (by assumption) ?_ ?_ <;> omega) | exact bi01 | (rw [sa_432]; omega) | decide) only [sX12_keepsBook_0, sX12_keepsBook_1, sX12_keepsBook_3, sX12_keepsBook_4, sX12_keepsBook_7, sX12_keepsBook_10, sX12_keepsBook_11, sX12_keepsBook_14, sX12_keepsBook_15, sX12_keepsBook_16, sX12_keepsBook_17, sX12_keepsBook_18, sX12_keepsBook_19, sX12_keepsBook_22, sX12_keepsBook_25, sX12_keepsBook_26, sX12_keepsBook_28, sX12_keepsBook_29, sX12_keepsBook_32, sX12_keepsBook_35, sX12_keepsBook_36, sX12_keepsBook_37, sX12_keepsBook_40, sX12_keepsBook_41, sX12_keepsBook_42, sX12_keepsBook_45, sX12_keepsBook_46, sX12_keepsBook_47, sX12_keepsBook_48, sX12_keepsBook_51, sX12_keepsBook_54, sX12_keepsBook_55, sX12_keepsBook_58, sX12_keepsBook_59, sX12_keepsBook_62, sX12_keepsBook_63, sX12_keepsBook_64, sX12_keepsBook_65, sX12_keepsBook_66, sX12_keepsBook_69, kX12_keepsBook_72_AIII, sX12_keepsBook_72, sX12_keepsBook_75, kX12_keepsBook_78_AIIN, sX12_keepsBook_78, evK_n, evK_v, evK_x, gI_pI, gJ_pI, gR_pI, gI_pJ, gJ_pJ, gR_pJ, gI_pR, gJ_pR, gR_pR, n32_le, n32_lt, n32_add, n32_mul, n32_cl, if_true, if_false, not_true_eq_false, not_false_eq_true, and_true, true_and, and_false, false_and, and_self, or_true, true_or, or_false, false_or, or_self, ne_eq, Decidable.not_not, Nat.reduceEqDiff, Nat.reduceEqDiff, sa_432, sb_432, x1]
    rw [if_pos (by omega)]
  | succ m ih =>
    intro i t hi hM hT
    have hil : i < wl w := by omega
    have hFt := hM.fx hF
    have hWt : MW t w := hW.of (fun b j hb => hM.2.1 b j (fun q => hb (by unfold pMh at q; unfold pM; omega)))
    have x1 := hWt.2.2.2.2.2.1
    obtain ⟨q1, q2, q3⟩ := hWt.2.2.2.2.2.2 i hil
    obtain ⟨b1, b2, b3⟩ := hw.2.2.2.2.2.2 i hil
    have r31 := hFt.u 432 31 450 (by decide +kernel)
    have g1 : ¬ wl w ≤ i := by omega
    by_cases c : (wB w i).1 = v
    · obtain ⟨t1, e1, hM1, hT1⟩ := m_kbLoop (g := g) (d := d) (E := fiN w v i D) hFt hWt hw hil hv hT hu huw l.length 0 t (by omega) FM.rf (hT.congr (fun k _ => by unfold kbD; simp))
      have hnx : ∀ k, k < NS → kbD w v i l l.length (fiN w v i D) k = fiN w v (i + 1) D k := fun k hk => by
        unfold kbD fiN
        rw [List.take_length, fitN]
        by_cases cf : fitN w v k i = true
        · by_cases c2 : (wB w i).2.2 = vlB w v (wB w i).2.1 k
          · simp [c2, cf]
          · by_cases ck : k ∈ l
            · simp [c2, ck, c]
            · have : D k = 0 := by
                rcases Nat.eq_zero_or_pos (D k) with h0 | h0
                · exact h0
                · exact absurd ((hL.2.2.2.2.2 k hk).2 (by omega)) ck
              simp [this]
        · simp [cf]
      obtain ⟨t', f1, f2, f3⟩ := ih (i + 1) t1 (by omega) (hM.tr hM1) (hT1.congr hnx)
      refine ⟨t', ?_, f2, f3⟩
      rw [sX12_keepsBook_2]
      simp (disch := first | exact jm_lt0 | (apply jm_ltx; (repeat (first | exact jw_0 | apply jw_i | apply jw_r | apply jw_l)); omega) | omega | assumption | exact sa_432 | exact sa_450 | exact n32_inA sb_432 (by omega) (by omega) | exact n32_inA sb_450 (by omega) (by omega) | (refine n32_inA (by assumption) ?_ ?_ <;> omega) | exact bi01 | (rw [sa_432]; omega) | (rw [sa_450]; omega) | decide) only [sX12_keepsBook_0, sX12_keepsBook_1, sX12_keepsBook_3, sX12_keepsBook_4, sX12_keepsBook_7, sX12_keepsBook_10, sX12_keepsBook_11, sX12_keepsBook_14, sX12_keepsBook_15, sX12_keepsBook_16, sX12_keepsBook_17, sX12_keepsBook_18, sX12_keepsBook_19, sX12_keepsBook_22, sX12_keepsBook_25, sX12_keepsBook_26, sX12_keepsBook_28, sX12_keepsBook_29, sX12_keepsBook_32, sX12_keepsBook_35, sX12_keepsBook_36, sX12_keepsBook_37, sX12_keepsBook_40, sX12_keepsBook_41, sX12_keepsBook_42, sX12_keepsBook_45, sX12_keepsBook_46, sX12_keepsBook_47, sX12_keepsBook_48, sX12_keepsBook_51, sX12_keepsBook_54, sX12_keepsBook_55, sX12_keepsBook_58, sX12_keepsBook_59, sX12_keepsBook_62, sX12_keepsBook_63, sX12_keepsBook_64, sX12_keepsBook_65, sX12_keepsBook_66, sX12_keepsBook_69, kX12_keepsBook_72_AIII, sX12_keepsBook_75, kX12_keepsBook_78_AIIN, sX12_keepsBook_78, evK_n, evK_v, evK_x, gI_pI, gJ_pI, gR_pI, gI_pJ, gJ_pJ, gR_pJ, gI_pR, gJ_pR, gR_pR, n32_le, n32_lt, n32_add, n32_mul, n32_cl, if_true, if_false, not_true_eq_false, not_false_eq_true, and_true, true_and, and_false, false_and, and_self, or_true, true_or, or_false, false_or, or_self, ne_eq, Decidable.not_not, Nat.reduceEqDiff, Nat.reduceEqDiff, sa_432, sb_432, sa_450, sb_450, x1, g1, r31, n32_mul, q1, n32_eq, c]
      rw [e1]
      simp (disch := first | exact jm_lt0 | (apply jm_ltx; (repeat (first | exact jw_0 | apply jw_i | apply jw_r | apply jw_l)); omega) | omega | assumption | exact sa_432 | exact sa_450 | exact n32_inA sb_432 (by omega) (by omega) | exact n32_inA sb_450 (by omega) (by omega) | (refine n32_inA (by assumption) ?_ ?_ <;> omega) | exact bi01 | (rw [sa_432]; omega) | (rw [sa_450]; omega) | decide) only [sX12_keepsBook_72, sX12_keepsBook_75, evK_n, evK_v, evK_x, gI_pI, gJ_pI, gR_pI, gI_pJ, gJ_pJ, gR_pJ, gI_pR, gJ_pR, gR_pR, n32_le, n32_lt, n32_add, n32_mul, n32_cl, if_true, if_false, not_true_eq_false, not_false_eq_true, and_true, true_and, and_false, false_and, and_self, or_true, true_or, or_false, false_or, or_self, ne_eq, Decidable.not_not, Nat.reduceEqDiff, Nat.reduceEqDiff, sa_432, sb_432, sa_450, sb_450]
      exact f1
    · have hnx : ∀ k, k < NS → fiN w v i D k = fiN w v (i + 1) D k := fun k hk => by
        unfold fiN
        rw [fitN]
        simp [c]
      obtain ⟨t', f1, f2, f3⟩ := ih (i + 1) t (by omega) hM (hT.congr hnx)
      refine ⟨t', ?_, f2, f3⟩
      rw [sX12_keepsBook_2]
      simp (disch := first | exact jm_lt0 | (apply jm_ltx; (repeat (first | exact jw_0 | apply jw_i | apply jw_r | apply jw_l)); omega) | omega | assumption | exact sa_432 | exact sa_450 | exact n32_inA sb_432 (by omega) (by omega) | exact n32_inA sb_450 (by omega) (by omega) | (refine n32_inA (by assumption) ?_ ?_ <;> omega) | exact bi01 | (rw [sa_432]; omega) | (rw [sa_450]; omega) | decide) only [sX12_keepsBook_0, sX12_keepsBook_1, sX12_keepsBook_3, sX12_keepsBook_4, sX12_keepsBook_7, sX12_keepsBook_10, sX12_keepsBook_11, sX12_keepsBook_14, sX12_keepsBook_15, sX12_keepsBook_16, sX12_keepsBook_17, sX12_keepsBook_18, sX12_keepsBook_19, sX12_keepsBook_22, sX12_keepsBook_25, sX12_keepsBook_26, sX12_keepsBook_28, sX12_keepsBook_29, sX12_keepsBook_32, sX12_keepsBook_35, sX12_keepsBook_36, sX12_keepsBook_37, sX12_keepsBook_40, sX12_keepsBook_41, sX12_keepsBook_42, sX12_keepsBook_45, sX12_keepsBook_46, sX12_keepsBook_47, sX12_keepsBook_48, sX12_keepsBook_51, sX12_keepsBook_54, sX12_keepsBook_55, sX12_keepsBook_58, sX12_keepsBook_59, sX12_keepsBook_62, sX12_keepsBook_63, sX12_keepsBook_64, sX12_keepsBook_65, sX12_keepsBook_66, sX12_keepsBook_69, kX12_keepsBook_72_AIII, sX12_keepsBook_72, sX12_keepsBook_75, kX12_keepsBook_78_AIIN, sX12_keepsBook_78, evK_n, evK_v, evK_x, gI_pI, gJ_pI, gR_pI, gI_pJ, gJ_pJ, gR_pJ, gI_pR, gJ_pR, gR_pR, n32_le, n32_lt, n32_add, n32_mul, n32_cl, if_true, if_false, not_true_eq_false, not_false_eq_true, and_true, true_and, and_false, false_and, and_self, or_true, true_or, or_false, false_or, or_self, ne_eq, Decidable.not_not, Nat.reduceEqDiff, Nat.reduceEqDiff, sa_432, sb_432, sa_450, sb_450, x1, g1, r31, n32_mul, q1, n32_eq, c]
      exact f1
theorem m_keepsBook {g : fm_g} {d v u : Nat} {D : Nat → Nat} {t : fm_S} (hF : FX t) (hW : MW t w) (hw : wOK w) (hv : v < wn w) (hO : OMw t D u) (huw : u ≤ wn w) : ∃ t', ev g (d + 2) mX12_keepsBook 0 [some (.ref (432 : Nat)), some (.int (Int32.ofNat v)), none, none] [] t = some (.inl none, t') ∧ FM pMh qL t t' ∧ OMw t' (filD w v D) u := by
  obtain ⟨l, o1, o2, o3⟩ := hO
  obtain ⟨t', f1, f2, f3⟩ := m_keepsLoop (g := g) (d := d) hF hW hw hv o1 o3 huw (wl w) 0 t (by omega) FM.rf (o1.congr (fun k _ => by unfold fiN; simp [fitN]))
  refine ⟨t', ?_, f2, l, f3, ?_, o3⟩
  · rw [sX12_keepsBook_0, sX12_keepsBook_1]
    exact f1
  · exact o2.of (f2.2.1 _ _ (by unfold pMh; omega)) (fun _ => f2.2.1 _ _ (by unfold pMh; omega)) (fun _ => f2.2.2 _ _ (by unfold qL; omega))
end KB
