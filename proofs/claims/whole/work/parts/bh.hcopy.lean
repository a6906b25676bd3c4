/-! a HABIT is copied -/
/-- what the model's copying to a HABIT changes -/
def pTo (to b j : Nat) : Prop := (b = 448 ∧ j = to) ∨ (b = 447 ∧ 32 * to ≤ j ∧ j < 32 * to + 32) ∨ ((b = 445 ∨ b = 446) ∧ 150 * to ≤ j ∧ j < 150 * to + 150)
theorem HM.other {t t' : fm_S} {p to : Nat} {b : HB} (h : HM t p b) (hb : hOK b) (x : FM (pTo to) nO t t') (hne : p ≠ to) : HM t' p b := by
  obtain ⟨h1, h2, h3⟩ := h
  obtain ⟨o1, o2, -⟩ := hb
  refine ⟨by rw [x.2.1 _ _ (by unfold pTo; omega), h1], fun i hi => ?_, fun i hi => ?_⟩
  · obtain ⟨a1, a2, a3, a4⟩ := h2 i hi
    exact ⟨by rw [x.2.1 _ _ (by unfold pTo; omega), a1], by rw [x.2.1 _ _ (by unfold pTo; omega), a2], by rw [x.2.1 _ _ (by unfold pTo; omega), a3], by rw [x.2.1 _ _ (by unfold pTo; omega), a4]⟩
  · obtain ⟨a1, a2⟩ := h3 i hi
    exact ⟨by rw [x.2.1 _ _ (by unfold pTo; omega), a1], by rw [x.2.1 _ _ (by unfold pTo; omega), a2]⟩
section HK
variable {g : fm_g} {d : Nat}
theorem m_hc1 {to m : Nat} {its : Int32} {t0 : fm_S} (hF : FX t0) (hto : to < 7) (hm : m ≤ 8) (h29 : gI t0 432 29 = Int32.ofNat m) : ∀ (k i : Nat) (t : fm_S), i + k = 4 * m → FM (pTo to) nO t0 t → (∀ j, j < i → gI t 447 (32 * to + j) = gI t0 443 j) → ∃ t', ev g d mX12_readHabit 68 [some (.ref (432 : Nat)), none, some (.int (Int32.ofNat to)), some (.int its), some (.int (Int32.ofNat i))] [] t = ev g d mX12_readHabit 107 [some (.ref (432 : Nat)), none, some (.int (Int32.ofNat to)), some (.int its), some (.int (Int32.ofNat 0))] [] t' ∧ FM (pTo to) nO t0 t' ∧ (∀ j, j < 4 * m → gI t' 447 (32 * to + j) = gI t0 443 j) ∧ ∀ b j, b ≠ 447 → gI t' b j = gI t b j := by
  intro k
  induction k with
  | zero =>
    intro i t hi hM hJ
    have hil : i = 4 * m := by omega
    subst hil
    have e1 : gI t 432 29 = Int32.ofNat m := by rw [hM.2.1 _ _ (by unfold pTo; omega), h29]
    refine ⟨t, ?_, hM, hJ, fun _ _ _ => rfl⟩
    rw [sX12_readHabit_68]
    simp (disch := first | exact jm_lt0 | (apply jm_ltx; (repeat (first | exact jw_0 | apply jw_i | apply jw_r | apply jw_l)); omega) | omega | assumption | exact sa_432 | exact n32_inA sb_432 (by omega) (by omega) | (refine n32_inA (by assumption) ?_ ?_ <;> omega) | exact bi01 | (rw [sa_432]; omega) | decide) only [sX12_readHabit_0, sX12_readHabit_1, sX12_readHabit_2, sX12_readHabit_5, sX12_readHabit_6, sX12_readHabit_7, sX12_readHabit_10, sX12_readHabit_11, sX12_readHabit_12, kX12_readHabit_15_AIINN, sX12_readHabit_16, sX12_readHabit_19, sX12_readHabit_22, sX12_readHabit_23, sX12_readHabit_26, sX12_readHabit_29, sX12_readHabit_30, sX12_readHabit_33, sX12_readHabit_36, sX12_readHabit_37, sX12_readHabit_38, sX12_readHabit_41, sX12_readHabit_44, sX12_readHabit_45, sX12_readHabit_46, sX12_readHabit_49, sX12_readHabit_50, sX12_readHabit_53, sX12_readHabit_54, sX12_readHabit_55, sX12_readHabit_56, sX12_readHabit_59, sX12_readHabit_60, sX12_readHabit_61, sX12_readHabit_64, sX12_readHabit_65, sX12_readHabit_66, sX12_readHabit_70, sX12_readHabit_71, sX12_readHabit_72, sX12_readHabit_75, sX12_readHabit_76, sX12_readHabit_79, sX12_readHabit_80, sX12_readHabit_83, sX12_readHabit_85, sX12_readHabit_86, sX12_readHabit_87, sX12_readHabit_89, sX12_readHabit_90, sX12_readHabit_91, sX12_readHabit_94, sX12_readHabit_96, sX12_readHabit_97, sX12_readHabit_98, sX12_readHabit_101, kX12_readHabit_104_ANIII, sX12_readHabit_104, sX12_readHabit_105, sX12_readHabit_109, sX12_readHabit_110, sX12_readHabit_113, sX12_readHabit_116, sX12_readHabit_117, sX12_readHabit_120, sX12_readHabit_123, sX12_readHabit_124, sX12_readHabit_125, sX12_readHabit_127, sX12_readHabit_128, sX12_readHabit_129, sX12_readHabit_132, sX12_readHabit_134, sX12_readHabit_135, sX12_readHabit_136, sX12_readHabit_137, sX12_readHabit_140, sX12_readHabit_143, sX12_readHabit_144, sX12_readHabit_145, sX12_readHabit_147, sX12_readHabit_148, sX12_readHabit_149, sX12_readHabit_152, sX12_readHabit_154, sX12_readHabit_155, sX12_readHabit_156, sX12_readHabit_159, kX12_readHabit_162_ANIII, sX12_readHabit_162, sX12_readHabit_163, evK_n, evK_v, evK_x, gI_pI, gJ_pI, gR_pI, gI_pJ, gJ_pJ, gR_pJ, gI_pR, gJ_pR, gR_pR, n32_le, n32_lt, n32_add, n32_mul, n32_cl, if_true, if_false, not_true_eq_false, not_false_eq_true, and_true, true_and, and_false, false_and, and_self, or_true, true_or, or_false, false_or, or_self, ne_eq, Decidable.not_not, Nat.reduceEqDiff, Nat.reduceEqDiff, sa_432, sb_432, e1]
    rw [if_pos (Nat.le_refl _)]
  | succ k ih =>
    intro i t hi hM hJ
    have hFt := hM.fx hF
    have e1 : gI t 432 29 = Int32.ofNat m := by rw [hM.2.1 _ _ (by unfold pTo; omega), h29]
    have r26 := hFt.u 432 26 447 (by decide +kernel)
    have r22 := hFt.u 432 22 443 (by decide +kernel)
    have e2 : gI t 443 i = gI t0 443 i := hM.2.1 _ _ (by unfold pTo; omega)
    have g1 : ¬ 4 * m ≤ i := by omega
    obtain ⟨t', f1, f2, f3, f4⟩ := ih (i + 1) (pI t 447 (32 * to + i) (gI t0 443 i)) (by omega) (hM.tr (FM.pI (by unfold pTo; omega))) (fun j hj => by
      by_cases c : j = i
      · rw [c, gI_pI, if_pos ⟨rfl, rfl⟩]
      · rw [gI_pI, if_neg (by omega), hJ j (by omega)])
    refine ⟨t', ?_, f2, f3, fun b j hb => by rw [f4 b j hb, gI_pI, if_neg (by omega)]⟩
    rw [sX12_readHabit_68]
    simp (disch := first | exact jm_lt0 | (apply jm_ltx; (repeat (first | exact jw_0 | apply jw_i | apply jw_r | apply jw_l)); omega) | omega | assumption | exact sa_432 | exact sa_447 | exact sa_443 | exact n32_inA sb_432 (by omega) (by omega) | exact n32_inA sb_447 (by omega) (by omega) | exact n32_inA sb_443 (by omega) (by omega) | (refine n32_inA (by assumption) ?_ ?_ <;> omega) | exact bi01 | (rw [sa_432]; omega) | (rw [sa_447]; omega) | (rw [sa_443]; omega) | decide) only [sX12_readHabit_0, sX12_readHabit_1, sX12_readHabit_2, sX12_readHabit_5, sX12_readHabit_6, sX12_readHabit_7, sX12_readHabit_10, sX12_readHabit_11, sX12_readHabit_12, kX12_readHabit_15_AIINN, sX12_readHabit_16, sX12_readHabit_19, sX12_readHabit_22, sX12_readHabit_23, sX12_readHabit_26, sX12_readHabit_29, sX12_readHabit_30, sX12_readHabit_33, sX12_readHabit_36, sX12_readHabit_37, sX12_readHabit_38, sX12_readHabit_41, sX12_readHabit_44, sX12_readHabit_45, sX12_readHabit_46, sX12_readHabit_49, sX12_readHabit_50, sX12_readHabit_53, sX12_readHabit_54, sX12_readHabit_55, sX12_readHabit_56, sX12_readHabit_59, sX12_readHabit_60, sX12_readHabit_61, sX12_readHabit_64, sX12_readHabit_65, sX12_readHabit_66, sX12_readHabit_70, sX12_readHabit_71, sX12_readHabit_72, sX12_readHabit_75, sX12_readHabit_76, sX12_readHabit_79, sX12_readHabit_80, sX12_readHabit_83, sX12_readHabit_85, sX12_readHabit_86, sX12_readHabit_87, sX12_readHabit_89, sX12_readHabit_90, sX12_readHabit_91, sX12_readHabit_94, sX12_readHabit_96, sX12_readHabit_97, sX12_readHabit_98, sX12_readHabit_101, kX12_readHabit_104_ANIII, sX12_readHabit_104, sX12_readHabit_105, sX12_readHabit_109, sX12_readHabit_110, sX12_readHabit_113, sX12_readHabit_116, sX12_readHabit_117, sX12_readHabit_120, sX12_readHabit_123, sX12_readHabit_124, sX12_readHabit_125, sX12_readHabit_127, sX12_readHabit_128, sX12_readHabit_129, sX12_readHabit_132, sX12_readHabit_134, sX12_readHabit_135, sX12_readHabit_136, sX12_readHabit_137, sX12_readHabit_140, sX12_readHabit_143, sX12_readHabit_144, sX12_readHabit_145, sX12_readHabit_147, sX12_readHabit_148, sX12_readHabit_149, sX12_readHabit_152, sX12_readHabit_154, sX12_readHabit_155, sX12_readHabit_156, sX12_readHabit_159, kX12_readHabit_162_ANIII, sX12_readHabit_162, sX12_readHabit_163, evK_n, evK_v, evK_x, gI_pI, gJ_pI, gR_pI, gI_pJ, gJ_pJ, gR_pJ, gI_pR, gJ_pR, gR_pR, n32_le, n32_lt, n32_add, n32_mul, n32_cl, if_true, if_false, not_true_eq_false, not_false_eq_true, and_true, true_and, and_false, false_and, and_self, or_true, true_or, or_false, false_or, or_self, ne_eq, Decidable.not_not, Nat.reduceEqDiff, Nat.reduceEqDiff, sa_432, sb_432, sa_447, sb_447, sa_443, sb_443, e1, r26, r22, g1, e2]
    exact f1
theorem m_hc2 {to n : Nat} {its : Int32} {t0 : fm_S} (hF : FX t0) (hto : to < 7) (hn : n ≤ 150) (h28 : gI t0 432 28 = Int32.ofNat n) : ∀ (k i : Nat) (t : fm_S), i + k = n → FM (pTo to) nO t0 t → (∀ j, j < i → gI t 445 (150 * to + j) = gI t0 441 j ∧ gI t 446 (150 * to + j) = gI t0 442 j) → ∃ t', ev g d mX12_readHabit 107 [some (.ref (432 : Nat)), none, some (.int (Int32.ofNat to)), some (.int its), some (.int (Int32.ofNat i))] [] t = some (.inl (some (.int its)), t') ∧ FM (pTo to) nO t0 t' ∧ (∀ j, j < n → gI t' 445 (150 * to + j) = gI t0 441 j ∧ gI t' 446 (150 * to + j) = gI t0 442 j) ∧ ∀ b j, b ≠ 445 → b ≠ 446 → gI t' b j = gI t b j := by
  intro k
  induction k with
  | zero =>
    intro i t hi hM hJ
    have hil : i = n := by omega
    subst hil
    have e1 : gI t 432 28 = Int32.ofNat i := by rw [hM.2.1 _ _ (by unfold pTo; omega), h28]
    refine ⟨t, ?_, hM, hJ, fun _ _ _ _ => rfl⟩
    rw [sX12_readHabit_107]
    simp (disch := first | exact jm_lt0 | (apply jm_ltx; (repeat (first | exact jw_0 | apply jw_i | apply jw_r | apply jw_l)); omega) | omega | assumption | exact sa_432 | exact n32_inA sb_432 (by omega) (by omega) | (refine n32_inA (by assumption) ?_ ?_ <;> omega) | exact bi01 | (rw [sa_432]; omega) | decide) only [sX12_readHabit_0, sX12_readHabit_1, sX12_readHabit_2, sX12_readHabit_5, sX12_readHabit_6, sX12_readHabit_7, sX12_readHabit_10, sX12_readHabit_11, sX12_readHabit_12, kX12_readHabit_15_AIINN, sX12_readHabit_16, sX12_readHabit_19, sX12_readHabit_22, sX12_readHabit_23, sX12_readHabit_26, sX12_readHabit_29, sX12_readHabit_30, sX12_readHabit_33, sX12_readHabit_36, sX12_readHabit_37, sX12_readHabit_38, sX12_readHabit_41, sX12_readHabit_44, sX12_readHabit_45, sX12_readHabit_46, sX12_readHabit_49, sX12_readHabit_50, sX12_readHabit_53, sX12_readHabit_54, sX12_readHabit_55, sX12_readHabit_56, sX12_readHabit_59, sX12_readHabit_60, sX12_readHabit_61, sX12_readHabit_64, sX12_readHabit_65, sX12_readHabit_66, sX12_readHabit_70, sX12_readHabit_71, sX12_readHabit_72, sX12_readHabit_75, sX12_readHabit_76, sX12_readHabit_79, sX12_readHabit_80, sX12_readHabit_83, sX12_readHabit_85, sX12_readHabit_86, sX12_readHabit_87, sX12_readHabit_89, sX12_readHabit_90, sX12_readHabit_91, sX12_readHabit_94, sX12_readHabit_96, sX12_readHabit_97, sX12_readHabit_98, sX12_readHabit_101, kX12_readHabit_104_ANIII, sX12_readHabit_104, sX12_readHabit_105, sX12_readHabit_109, sX12_readHabit_110, sX12_readHabit_113, sX12_readHabit_116, sX12_readHabit_117, sX12_readHabit_120, sX12_readHabit_123, sX12_readHabit_124, sX12_readHabit_125, sX12_readHabit_127, sX12_readHabit_128, sX12_readHabit_129, sX12_readHabit_132, sX12_readHabit_134, sX12_readHabit_135, sX12_readHabit_136, sX12_readHabit_137, sX12_readHabit_140, sX12_readHabit_143, sX12_readHabit_144, sX12_readHabit_145, sX12_readHabit_147, sX12_readHabit_148, sX12_readHabit_149, sX12_readHabit_152, sX12_readHabit_154, sX12_readHabit_155, sX12_readHabit_156, sX12_readHabit_159, kX12_readHabit_162_ANIII, sX12_readHabit_162, sX12_readHabit_163, evK_n, evK_v, evK_x, gI_pI, gJ_pI, gR_pI, gI_pJ, gJ_pJ, gR_pJ, gI_pR, gJ_pR, gR_pR, n32_le, n32_lt, n32_add, n32_mul, n32_cl, if_true, if_false, not_true_eq_false, not_false_eq_true, and_true, true_and, and_false, false_and, and_self, or_true, true_or, or_false, false_or, or_self, ne_eq, Decidable.not_not, Nat.reduceEqDiff, Nat.reduceEqDiff, sa_432, sb_432, e1]
    rw [if_pos (Nat.le_refl _)]
  | succ k ih =>
    intro i t hi hM hJ
    have hFt := hM.fx hF
    have e1 : gI t 432 28 = Int32.ofNat n := by rw [hM.2.1 _ _ (by unfold pTo; omega), h28]
    have r24 := hFt.u 432 24 445 (by decide +kernel)
    have r25 := hFt.u 432 25 446 (by decide +kernel)
    have r20 := hFt.u 432 20 441 (by decide +kernel)
    have r21 := hFt.u 432 21 442 (by decide +kernel)
    have e2 : gI t 441 i = gI t0 441 i := hM.2.1 _ _ (by unfold pTo; omega)
    have e3 : gI t 442 i = gI t0 442 i := hM.2.1 _ _ (by unfold pTo; omega)
    have g1 : ¬ n ≤ i := by omega
    obtain ⟨t', f1, f2, f3, f4⟩ := ih (i + 1) (pI (pI t 445 (150 * to + i) (gI t0 441 i)) 446 (150 * to + i) (gI t0 442 i)) (by omega) ((hM.tr (FM.pI (by unfold pTo; omega))).tr (FM.pI (by unfold pTo; omega))) (fun j hj => by
      by_cases c : j = i
      · rw [c, gI_pI, if_neg (by omega), gI_pI, if_pos ⟨rfl, rfl⟩, gI_pI, if_pos ⟨rfl, rfl⟩]
        exact ⟨rfl, rfl⟩
      · rw [gI_pI, if_neg (by omega), gI_pI, if_neg (by omega), gI_pI, if_neg (by omega), gI_pI, if_neg (by omega)]
        exact hJ j (by omega))
    refine ⟨t', ?_, f2, f3, fun b j hb hb2 => by rw [f4 b j hb hb2, gI_pI, if_neg (by omega), gI_pI, if_neg (by omega)]⟩
    rw [sX12_readHabit_107]
    simp (disch := first | exact jm_lt0 | (apply jm_ltx; (repeat (first | exact jw_0 | apply jw_i | apply jw_r | apply jw_l)); omega) | omega | assumption | exact sa_432 | exact sa_445 | exact sa_446 | exact sa_441 | exact sa_442 | exact n32_inA sb_432 (by omega) (by omega) | exact n32_inA sb_445 (by omega) (by omega) | exact n32_inA sb_446 (by omega) (by omega) | exact n32_inA sb_441 (by omega) (by omega) | exact n32_inA sb_442 (by omega) (by omega) | (refine n32_inA (by assumption) ?_ ?_ <;> omega) | exact bi01 | (rw [sa_432]; omega) | (rw [sa_445]; omega) | (rw [sa_446]; omega) | (rw [sa_441]; omega) | (rw [sa_442]; omega) | decide) only [sX12_readHabit_0, sX12_readHabit_1, sX12_readHabit_2, sX12_readHabit_5, sX12_readHabit_6, sX12_readHabit_7, sX12_readHabit_10, sX12_readHabit_11, sX12_readHabit_12, kX12_readHabit_15_AIINN, sX12_readHabit_16, sX12_readHabit_19, sX12_readHabit_22, sX12_readHabit_23, sX12_readHabit_26, sX12_readHabit_29, sX12_readHabit_30, sX12_readHabit_33, sX12_readHabit_36, sX12_readHabit_37, sX12_readHabit_38, sX12_readHabit_41, sX12_readHabit_44, sX12_readHabit_45, sX12_readHabit_46, sX12_readHabit_49, sX12_readHabit_50, sX12_readHabit_53, sX12_readHabit_54, sX12_readHabit_55, sX12_readHabit_56, sX12_readHabit_59, sX12_readHabit_60, sX12_readHabit_61, sX12_readHabit_64, sX12_readHabit_65, sX12_readHabit_66, sX12_readHabit_70, sX12_readHabit_71, sX12_readHabit_72, sX12_readHabit_75, sX12_readHabit_76, sX12_readHabit_79, sX12_readHabit_80, sX12_readHabit_83, sX12_readHabit_85, sX12_readHabit_86, sX12_readHabit_87, sX12_readHabit_89, sX12_readHabit_90, sX12_readHabit_91, sX12_readHabit_94, sX12_readHabit_96, sX12_readHabit_97, sX12_readHabit_98, sX12_readHabit_101, kX12_readHabit_104_ANIII, sX12_readHabit_104, sX12_readHabit_105, sX12_readHabit_109, sX12_readHabit_110, sX12_readHabit_113, sX12_readHabit_116, sX12_readHabit_117, sX12_readHabit_120, sX12_readHabit_123, sX12_readHabit_124, sX12_readHabit_125, sX12_readHabit_127, sX12_readHabit_128, sX12_readHabit_129, sX12_readHabit_132, sX12_readHabit_134, sX12_readHabit_135, sX12_readHabit_136, sX12_readHabit_137, sX12_readHabit_140, sX12_readHabit_143, sX12_readHabit_144, sX12_readHabit_145, sX12_readHabit_147, sX12_readHabit_148, sX12_readHabit_149, sX12_readHabit_152, sX12_readHabit_154, sX12_readHabit_155, sX12_readHabit_156, sX12_readHabit_159, kX12_readHabit_162_ANIII, sX12_readHabit_162, sX12_readHabit_163, evK_n, evK_v, evK_x, gI_pI, gJ_pI, gR_pI, gI_pJ, gJ_pJ, gR_pJ, gI_pR, gJ_pR, gR_pR, n32_le, n32_lt, n32_add, n32_mul, n32_cl, if_true, if_false, not_true_eq_false, not_false_eq_true, and_true, true_and, and_false, false_and, and_self, or_true, true_or, or_false, false_or, or_self, ne_eq, Decidable.not_not, Nat.reduceEqDiff, Nat.reduceEqDiff, sa_432, sb_432, sa_445, sb_445, sa_446, sb_446, sa_441, sb_441, sa_442, sb_442, e1, r24, r25, r20, r21, g1, e2, e3, show ¬ ((442 : Nat) = 445) by decide, show ¬ ((432 : Nat) = 445) by decide]
    exact f1
theorem m_hcopy {to : Nat} {its : Int32} {b : HB} {t : fm_S} (hF : FX t) (hto : to < 7) (hb : hOK b) (h : HMn t b) : ∃ t', ev g d mX12_readHabit 55 [some (.ref (432 : Nat)), none, some (.int (Int32.ofNat to)), some (.int its), none] [] t = some (.inl (some (.int its)), t') ∧ FM (pTo to) nO t t' ∧ HM t' to b := by
  obtain ⟨h29, h28, h3, h4⟩ := h
  obtain ⟨o1, o2, -⟩ := hb
  have r27 := hF.u 432 27 448 (by decide +kernel)
  have hF1 : FX (pI t 448 to (Int32.ofNat (hbm b))) := hF.pI
  obtain ⟨t1, e1, e2, e3, e4⟩ := m_hc1 (g := g) (d := d) (its := its) (t0 := pI t 448 to (Int32.ofNat (hbm b))) hF1 hto o1 (by rw [gI_pI, if_neg (by omega), h29]) (4 * hbm b) 0 _ (by omega) FM.rf (fun j hj => by omega)
  have hF2 := e2.fx hF1
  obtain ⟨t2, f1, f2, f3, f4⟩ := m_hc2 (g := g) (d := d) (its := its) (t0 := t1) hF2 hto o2 (by rw [e4 _ _ (by omega), gI_pI, if_neg (by omega), h28]) (hbN b) 0 _ (by omega) FM.rf (fun j hj => by omega)
  refine ⟨t2, ?_, ((FM.pI (by unfold pTo; omega)).tr e2).tr f2, ?_, fun i hi => ?_, fun i hi => ?_⟩
  · simp (disch := first | exact jm_lt0 | (apply jm_ltx; (repeat (first | exact jw_0 | apply jw_i | apply jw_r | apply jw_l)); omega) | omega | assumption | exact sa_432 | exact sa_448 | exact n32_inA sb_432 (by omega) (by omega) | exact n32_inA sb_448 (by omega) (by omega) | (refine n32_inA (by assumption) ?_ ?_ <;> omega) | exact bi01 | (rw [sa_432]; omega) | (rw [sa_448]; omega) | decide) only [sX12_readHabit_0, sX12_readHabit_1, sX12_readHabit_2, sX12_readHabit_5, sX12_readHabit_6, sX12_readHabit_7, sX12_readHabit_10, sX12_readHabit_11, sX12_readHabit_12, kX12_readHabit_15_AIINN, sX12_readHabit_16, sX12_readHabit_19, sX12_readHabit_22, sX12_readHabit_23, sX12_readHabit_26, sX12_readHabit_29, sX12_readHabit_30, sX12_readHabit_33, sX12_readHabit_36, sX12_readHabit_37, sX12_readHabit_38, sX12_readHabit_41, sX12_readHabit_44, sX12_readHabit_45, sX12_readHabit_46, sX12_readHabit_49, sX12_readHabit_50, sX12_readHabit_53, sX12_readHabit_54, sX12_readHabit_55, sX12_readHabit_56, sX12_readHabit_59, sX12_readHabit_60, sX12_readHabit_61, sX12_readHabit_64, sX12_readHabit_65, sX12_readHabit_66, sX12_readHabit_70, sX12_readHabit_71, sX12_readHabit_72, sX12_readHabit_75, sX12_readHabit_76, sX12_readHabit_79, sX12_readHabit_80, sX12_readHabit_83, sX12_readHabit_85, sX12_readHabit_86, sX12_readHabit_87, sX12_readHabit_89, sX12_readHabit_90, sX12_readHabit_91, sX12_readHabit_94, sX12_readHabit_96, sX12_readHabit_97, sX12_readHabit_98, sX12_readHabit_101, kX12_readHabit_104_ANIII, sX12_readHabit_104, sX12_readHabit_105, sX12_readHabit_109, sX12_readHabit_110, sX12_readHabit_113, sX12_readHabit_116, sX12_readHabit_117, sX12_readHabit_120, sX12_readHabit_123, sX12_readHabit_124, sX12_readHabit_125, sX12_readHabit_127, sX12_readHabit_128, sX12_readHabit_129, sX12_readHabit_132, sX12_readHabit_134, sX12_readHabit_135, sX12_readHabit_136, sX12_readHabit_137, sX12_readHabit_140, sX12_readHabit_143, sX12_readHabit_144, sX12_readHabit_145, sX12_readHabit_147, sX12_readHabit_148, sX12_readHabit_149, sX12_readHabit_152, sX12_readHabit_154, sX12_readHabit_155, sX12_readHabit_156, sX12_readHabit_159, kX12_readHabit_162_ANIII, sX12_readHabit_162, sX12_readHabit_163, evK_n, evK_v, evK_x, gI_pI, gJ_pI, gR_pI, gI_pJ, gJ_pJ, gR_pJ, gI_pR, gJ_pR, gR_pR, n32_le, n32_lt, n32_add, n32_mul, n32_cl, if_true, if_false, not_true_eq_false, not_false_eq_true, and_true, true_and, and_false, false_and, and_self, or_true, true_or, or_false, false_or, or_self, ne_eq, Decidable.not_not, Nat.reduceEqDiff, Nat.reduceEqDiff, sa_432, sb_432, sa_448, sb_448, r27, h29]
    exact e1.trans f1
  · rw [f4 _ _ (by omega) (by omega), e4 _ _ (by omega), gI_pI, if_pos ⟨rfl, rfl⟩]
  · obtain ⟨a1, a2, a3, a4⟩ := h3 i hi
    rw [f4 _ _ (by omega) (by omega), f4 _ _ (by omega) (by omega), f4 _ _ (by omega) (by omega), f4 _ _ (by omega) (by omega), Nat.add_assoc, Nat.add_assoc, Nat.add_assoc, e3 _ (by omega), e3 _ (by omega), e3 _ (by omega), e3 _ (by omega), gI_pI, if_neg (by omega), gI_pI, if_neg (by omega), gI_pI, if_neg (by omega), gI_pI, if_neg (by omega)]
    exact ⟨a1, a2, a3, a4⟩
  · obtain ⟨a1, a2⟩ := h4 i hi
    obtain ⟨c1, c2⟩ := f3 i hi
    rw [c1, c2, e4 _ _ (by omega), e4 _ _ (by omega), gI_pI, if_neg (by omega), gI_pI, if_neg (by omega)]
    exact ⟨a1, a2⟩
/-- the class: what copying to the HABIT h changes -/
def pCp (h b j : Nat) : Prop := (b = h ∧ (j = 0 ∨ j = 6)) ∨ (h + 1 ≤ b ∧ b ≤ h + 5)
theorem hbL_far {h h' : Nat} (hh : h ∈ hbL) (hh' : h' ∈ hbL) (hne : h ≠ h') : h + 7 ≤ h' ∨ h' + 7 ≤ h := by
  have key : ∀ h ∈ hbL, ∀ h' ∈ hbL, h ≠ h' → h + 7 ≤ h' ∨ h' + 7 ≤ h := by decide
  exact key h hh h' hh' hne
theorem HC.of {s s' : fm_S} {h : Nat} {b : HB} (x : HC s h b) (e : ∀ c j, (c = h ∧ (j = 0 ∨ j = 6)) ∨ (h + 1 ≤ c ∧ c ≤ h + 5) → gI s' c j = gI s c j) : HC s' h b := by
  obtain ⟨h1, h2, h3, h4⟩ := x
  refine ⟨by rw [e _ _ (by omega), h1], by rw [e _ _ (by omega), h2], fun i hi => ?_, fun i hi => by rw [e _ _ (by omega), h4 i hi]⟩
  obtain ⟨a1, a2, a3, a4⟩ := h3 i hi
  exact ⟨by rw [e _ _ (by omega), a1], by rw [e _ _ (by omega), a2], by rw [e _ _ (by omega), a3], by rw [e _ _ (by omega), a4]⟩
theorem c5_cp1 {h h' : Nat} {s0 : fm_S} (hF : FX s0) (hh : h ∈ hbL) (hh' : h' ∈ hbL) (hne : h ≠ h') : ∀ (k i : Nat) (s : fm_S), i + k = 8 → FM (pCp h) nO s0 s → (∀ c j, 1 ≤ c → c ≤ 4 → j < i → gI s (h + c) j = gI s0 (h' + c) j) → ∃ s', ev g d mX5_copy 18 [some (.ref h), some (.ref h'), some (.int (Int32.ofNat i))] [] s = ev g d mX5_copy 80 [some (.ref h), some (.ref h'), some (.int (Int32.ofNat 0))] [] s' ∧ FM (pCp h) nO s0 s' ∧ (∀ c j, 1 ≤ c → c ≤ 4 → j < 8 → gI s' (h + c) j = gI s0 (h' + c) j) ∧ ∀ j, gI s' h j = gI s h j := by
  have hfar := hbL_far hh hh' hne
  obtain ⟨z0, z1, z1', z2, z2', z3, z3', z4, z4', z5, z5', -⟩ := hS_of hh
  obtain ⟨y0, y1, y1', y2, y2', y3, y3', y4, y4', y5, y5', -⟩ := hS_of hh'
  intro k
  induction k with
  | zero =>
    intro i s hi hM hJ
    have hil : i = 8 := by omega
    subst hil
    refine ⟨s, ?_, hM, hJ, fun _ => rfl⟩
    rw [sX5_copy_18]
    simp (disch := first | exact jm_lt0 | (apply jm_ltx; (repeat (first | exact jw_0 | apply jw_i | apply jw_r | apply jw_l)); omega) | omega | assumption | (refine n32_inA (by assumption) ?_ ?_ <;> omega) | exact bi01 | decide) only [sX5_copy_0, sX5_copy_1, sX5_copy_2, sX5_copy_5, sX5_copy_8, sX5_copy_9, sX5_copy_10, sX5_copy_13, sX5_copy_16, sX5_copy_17, sX5_copy_19, sX5_copy_21, sX5_copy_24, sX5_copy_25, sX5_copy_28, sX5_copy_29, sX5_copy_30, sX5_copy_33, sX5_copy_34, sX5_copy_35, sX5_copy_36, sX5_copy_37, sX5_copy_40, sX5_copy_41, sX5_copy_42, sX5_copy_45, sX5_copy_46, sX5_copy_47, sX5_copy_48, sX5_copy_49, sX5_copy_52, sX5_copy_53, sX5_copy_54, sX5_copy_57, sX5_copy_58, sX5_copy_59, sX5_copy_60, sX5_copy_61, sX5_copy_64, sX5_copy_65, sX5_copy_66, sX5_copy_69, sX5_copy_70, sX5_copy_71, sX5_copy_72, sX5_copy_75, kX5_copy_78_AAI, sX5_copy_78, sX5_copy_79, sX5_copy_81, sX5_copy_82, sX5_copy_85, sX5_copy_88, sX5_copy_89, sX5_copy_92, sX5_copy_95, sX5_copy_96, sX5_copy_99, sX5_copy_100, sX5_copy_101, sX5_copy_104, sX5_copy_105, sX5_copy_106, sX5_copy_107, sX5_copy_110, kX5_copy_113_AAI, sX5_copy_113, evK_n, evK_v, evK_x, gI_pI, gJ_pI, gR_pI, gI_pJ, gJ_pJ, gR_pJ, gI_pR, gJ_pR, gR_pR, n32_le, n32_lt, n32_add, n32_mul, n32_cl, if_true, if_false, not_true_eq_false, not_false_eq_true, and_true, true_and, and_false, false_and, and_self, or_true, true_or, or_false, false_or, or_self, ne_eq, Decidable.not_not, Nat.reduceEqDiff, Nat.reduceEqDiff, Nat.le_refl]
  | succ k ih =>
    intro i s hi hM hJ
    have hFs := hM.fx hF
    obtain ⟨r1, r2, r3, r4, r5, -⟩ := hR_of hFs hh
    obtain ⟨x1, x2, x3, x4, x5, -⟩ := hR_of hFs hh'
    have g1 : ¬ 8 ≤ i := by omega
    have sr : ∀ c, 1 ≤ c → c ≤ 4 → gI s (h' + c) i = gI s0 (h' + c) i := fun c h1 h2 => hM.2.1 _ _ (by unfold pCp; omega)
    have m1 := sr 1 (by omega) (by omega)
    have m2 := sr 2 (by omega) (by omega)
    have m3 := sr 3 (by omega) (by omega)
    have m4 := sr 4 (by omega) (by omega)
    obtain ⟨s', f1, f2, f3, f4⟩ := ih (i + 1) (pI (pI (pI (pI s (h + 1) i (gI s0 (h' + 1) i)) (h + 2) i (gI s0 (h' + 2) i)) (h + 3) i (gI s0 (h' + 3) i)) (h + 4) i (gI s0 (h' + 4) i)) (by omega) ((((hM.tr (FM.pI (by unfold pCp; omega))).tr (FM.pI (by unfold pCp; omega))).tr (FM.pI (by unfold pCp; omega))).tr (FM.pI (by unfold pCp; omega))) (fun c j h1 h2 hj => by
      by_cases cj : j = i
      · subst cj
        have : c = 1 ∨ c = 2 ∨ c = 3 ∨ c = 4 := by omega
        rcases this with rfl | rfl | rfl | rfl <;> simp [gI_pI]
      · rw [gI_pI, if_neg (by omega), gI_pI, if_neg (by omega), gI_pI, if_neg (by omega), gI_pI, if_neg (by omega), hJ c j h1 h2 (by omega)])
    refine ⟨s', ?_, f2, f3, fun j => by rw [f4 j, gI_pI, if_neg (by omega), gI_pI, if_neg (by omega), gI_pI, if_neg (by omega), gI_pI, if_neg (by omega)]⟩
    have d2 : ¬ (h' + 2 = h + 1) := by omega
    have d3 : ¬ (h' + 3 = h + 1) := by omega
    have d3' : ¬ (h' + 3 = h + 2) := by omega
    have d4 : ¬ (h' + 4 = h + 1) := by omega
    have d4' : ¬ (h' + 4 = h + 2) := by omega
    have d4'' : ¬ (h' + 4 = h + 3) := by omega
    rw [sX5_copy_18]
    simp (disch := first | exact jm_lt0 | (apply jm_ltx; (repeat (first | exact jw_0 | apply jw_i | apply jw_r | apply jw_l)); omega) | omega | assumption | (refine n32_inA (by assumption) ?_ ?_ <;> omega) | exact bi01 | decide) only [sX5_copy_0, sX5_copy_1, sX5_copy_2, sX5_copy_5, sX5_copy_8, sX5_copy_9, sX5_copy_10, sX5_copy_13, sX5_copy_16, sX5_copy_17, sX5_copy_19, sX5_copy_21, sX5_copy_24, sX5_copy_25, sX5_copy_28, sX5_copy_29, sX5_copy_30, sX5_copy_33, sX5_copy_34, sX5_copy_35, sX5_copy_36, sX5_copy_37, sX5_copy_40, sX5_copy_41, sX5_copy_42, sX5_copy_45, sX5_copy_46, sX5_copy_47, sX5_copy_48, sX5_copy_49, sX5_copy_52, sX5_copy_53, sX5_copy_54, sX5_copy_57, sX5_copy_58, sX5_copy_59, sX5_copy_60, sX5_copy_61, sX5_copy_64, sX5_copy_65, sX5_copy_66, sX5_copy_69, sX5_copy_70, sX5_copy_71, sX5_copy_72, sX5_copy_75, kX5_copy_78_AAI, sX5_copy_78, sX5_copy_79, sX5_copy_81, sX5_copy_82, sX5_copy_85, sX5_copy_88, sX5_copy_89, sX5_copy_92, sX5_copy_95, sX5_copy_96, sX5_copy_99, sX5_copy_100, sX5_copy_101, sX5_copy_104, sX5_copy_105, sX5_copy_106, sX5_copy_107, sX5_copy_110, kX5_copy_113_AAI, sX5_copy_113, evK_n, evK_v, evK_x, gI_pI, gJ_pI, gR_pI, gI_pJ, gJ_pJ, gR_pJ, gI_pR, gJ_pR, gR_pR, n32_le, n32_lt, n32_add, n32_mul, n32_cl, if_true, if_false, not_true_eq_false, not_false_eq_true, and_true, true_and, and_false, false_and, and_self, or_true, true_or, or_false, false_or, or_self, ne_eq, Decidable.not_not, Nat.reduceEqDiff, Nat.reduceEqDiff, z0, z1, z1', z2, z2', z3, z3', z4, z4', y0, y1, y1', y2, y2', y3, y3', y4, y4', r1, r2, r3, r4, x1, x2, x3, x4, g1, m1, m2, m3, m4, d2, d3, d3', d4, d4', d4'']
    exact f1
theorem c5_cp2 {h h' n : Nat} {s0 : fm_S} (hF : FX s0) (hh : h ∈ hbL) (hh' : h' ∈ hbL) (hne : h ≠ h') (hn : n ≤ 150) (h6 : gI s0 h 6 = Int32.ofNat n) : ∀ (k i : Nat) (s : fm_S), i + k = n → FM (fun b _ => b = h + 5) nO s0 s → (∀ j, j < i → gI s (h + 5) j = gI s0 (h' + 5) j) → ∃ s', ev g d mX5_copy 80 [some (.ref h), some (.ref h'), some (.int (Int32.ofNat i))] [] s = some (.inl none, s') ∧ FM (fun b _ => b = h + 5) nO s0 s' ∧ ∀ j, j < n → gI s' (h + 5) j = gI s0 (h' + 5) j := by
  have hfar := hbL_far hh hh' hne
  obtain ⟨z0, z1, z1', z2, z2', z3, z3', z4, z4', z5, z5', -⟩ := hS_of hh
  obtain ⟨y0, y1, y1', y2, y2', y3, y3', y4, y4', y5, y5', -⟩ := hS_of hh'
  intro k
  induction k with
  | zero =>
    intro i s hi hM hJ
    have hil : i = n := by omega
    subst hil
    have e6 : gI s h 6 = Int32.ofNat i := by rw [hM.2.1 _ _ (by omega), h6]
    refine ⟨s, ?_, hM, hJ⟩
    rw [sX5_copy_80]
    simp (disch := first | exact jm_lt0 | (apply jm_ltx; (repeat (first | exact jw_0 | apply jw_i | apply jw_r | apply jw_l)); omega) | omega | assumption | (refine n32_inA (by assumption) ?_ ?_ <;> omega) | exact bi01 | decide) only [sX5_copy_0, sX5_copy_1, sX5_copy_2, sX5_copy_5, sX5_copy_8, sX5_copy_9, sX5_copy_10, sX5_copy_13, sX5_copy_16, sX5_copy_17, sX5_copy_19, sX5_copy_21, sX5_copy_24, sX5_copy_25, sX5_copy_28, sX5_copy_29, sX5_copy_30, sX5_copy_33, sX5_copy_34, sX5_copy_35, sX5_copy_36, sX5_copy_37, sX5_copy_40, sX5_copy_41, sX5_copy_42, sX5_copy_45, sX5_copy_46, sX5_copy_47, sX5_copy_48, sX5_copy_49, sX5_copy_52, sX5_copy_53, sX5_copy_54, sX5_copy_57, sX5_copy_58, sX5_copy_59, sX5_copy_60, sX5_copy_61, sX5_copy_64, sX5_copy_65, sX5_copy_66, sX5_copy_69, sX5_copy_70, sX5_copy_71, sX5_copy_72, sX5_copy_75, kX5_copy_78_AAI, sX5_copy_78, sX5_copy_79, sX5_copy_81, sX5_copy_82, sX5_copy_85, sX5_copy_88, sX5_copy_89, sX5_copy_92, sX5_copy_95, sX5_copy_96, sX5_copy_99, sX5_copy_100, sX5_copy_101, sX5_copy_104, sX5_copy_105, sX5_copy_106, sX5_copy_107, sX5_copy_110, kX5_copy_113_AAI, sX5_copy_113, evK_n, evK_v, evK_x, gI_pI, gJ_pI, gR_pI, gI_pJ, gJ_pJ, gR_pJ, gI_pR, gJ_pR, gR_pR, n32_le, n32_lt, n32_add, n32_mul, n32_cl, if_true, if_false, not_true_eq_false, not_false_eq_true, and_true, true_and, and_false, false_and, and_self, or_true, true_or, or_false, false_or, or_self, ne_eq, Decidable.not_not, Nat.reduceEqDiff, Nat.reduceEqDiff, z0, e6]
    rw [if_pos (Nat.le_refl _)]
  | succ k ih =>
    intro i s hi hM hJ
    have hFs := hM.fx hF
    obtain ⟨r1, r2, r3, r4, r5, -⟩ := hR_of hFs hh
    obtain ⟨x1, x2, x3, x4, x5, -⟩ := hR_of hFs hh'
    have e6 : gI s h 6 = Int32.ofNat n := by rw [hM.2.1 _ _ (by omega), h6]
    have g1 : ¬ n ≤ i := by omega
    have g2 : ¬ 150 ≤ i := by omega
    have m5 : gI s (h' + 5) i = gI s0 (h' + 5) i := hM.2.1 _ _ (by omega)
    obtain ⟨s', f1, f2, f3⟩ := ih (i + 1) (pI s (h + 5) i (gI s0 (h' + 5) i)) (by omega) (hM.tr (FM.pI rfl)) (fun j hj => by
      by_cases cj : j = i
      · rw [cj, gI_pI, if_pos ⟨rfl, rfl⟩]
      · rw [gI_pI, if_neg (by omega), hJ j (by omega)])
    refine ⟨s', ?_, f2, f3⟩
    rw [sX5_copy_80]
    simp (disch := first | exact jm_lt0 | (apply jm_ltx; (repeat (first | exact jw_0 | apply jw_i | apply jw_r | apply jw_l)); omega) | omega | assumption | (refine n32_inA (by assumption) ?_ ?_ <;> omega) | exact bi01 | decide) only [sX5_copy_0, sX5_copy_1, sX5_copy_2, sX5_copy_5, sX5_copy_8, sX5_copy_9, sX5_copy_10, sX5_copy_13, sX5_copy_16, sX5_copy_17, sX5_copy_19, sX5_copy_21, sX5_copy_24, sX5_copy_25, sX5_copy_28, sX5_copy_29, sX5_copy_30, sX5_copy_33, sX5_copy_34, sX5_copy_35, sX5_copy_36, sX5_copy_37, sX5_copy_40, sX5_copy_41, sX5_copy_42, sX5_copy_45, sX5_copy_46, sX5_copy_47, sX5_copy_48, sX5_copy_49, sX5_copy_52, sX5_copy_53, sX5_copy_54, sX5_copy_57, sX5_copy_58, sX5_copy_59, sX5_copy_60, sX5_copy_61, sX5_copy_64, sX5_copy_65, sX5_copy_66, sX5_copy_69, sX5_copy_70, sX5_copy_71, sX5_copy_72, sX5_copy_75, kX5_copy_78_AAI, sX5_copy_78, sX5_copy_79, sX5_copy_81, sX5_copy_82, sX5_copy_85, sX5_copy_88, sX5_copy_89, sX5_copy_92, sX5_copy_95, sX5_copy_96, sX5_copy_99, sX5_copy_100, sX5_copy_101, sX5_copy_104, sX5_copy_105, sX5_copy_106, sX5_copy_107, sX5_copy_110, kX5_copy_113_AAI, sX5_copy_113, evK_n, evK_v, evK_x, gI_pI, gJ_pI, gR_pI, gI_pJ, gJ_pJ, gR_pJ, gI_pR, gJ_pR, gR_pR, n32_le, n32_lt, n32_add, n32_mul, n32_cl, if_true, if_false, not_true_eq_false, not_false_eq_true, and_true, true_and, and_false, false_and, and_self, or_true, true_or, or_false, false_or, or_self, ne_eq, Decidable.not_not, Nat.reduceEqDiff, Nat.reduceEqDiff, z0, y0, z5, z5', y5, y5', r5, x5, e6, g1, g2, m5]
    exact f1
theorem c5_copy {h h' : Nat} {b : HB} {s : fm_S} (hF : FX s) (hh : h ∈ hbL) (hh' : h' ∈ hbL) (hne : h ≠ h') (hb : hOK b) (hC : HC s h' b) : ∃ s', ev g d mX5_copy 0 [some (.ref h), some (.ref h'), none] [] s = some (.inl none, s') ∧ FM (pCp h) nO s s' ∧ HC s' h b := by
  have hfar := hbL_far hh hh' hne
  have z0 := (hS_of hh).1
  have y0 := (hS_of hh').1
  obtain ⟨c1, c2, c3, c4⟩ := hC
  obtain ⟨o1, o2, -⟩ := hb
  generalize hs1 : pI (pI s h 0 (Int32.ofNat (hbm b))) h 6 (Int32.ofNat (hbN b)) = s1
  have hM1 : FM (pCp h) nO s s1 := by
    rw [← hs1]
    exact (FM.pI (by unfold pCp; omega)).tr (FM.pI (by unfold pCp; omega))
  have hF1 := hM1.fx hF
  obtain ⟨s2, e1, e2, e3, e4⟩ := c5_cp1 (g := g) (d := d) hF1 hh hh' hne 8 0 s1 (by omega) FM.rf (fun c j _ _ hj => by omega)
  have hF2 := e2.fx hF1
  have h6 : gI s2 h 6 = Int32.ofNat (hbN b) := by rw [e4, ← hs1, gI_pI, if_pos ⟨rfl, rfl⟩]
  have h0 : gI s2 h 0 = Int32.ofNat (hbm b) := by rw [e4, ← hs1, gI_pI, if_neg (by omega), gI_pI, if_pos ⟨rfl, rfl⟩]
  obtain ⟨s3, f1, f2, f3⟩ := c5_cp2 (g := g) (d := d) hF2 hh hh' hne o2 h6 (hbN b) 0 s2 (by omega) FM.rf (fun j hj => by omega)
  have f2' : FM (pCp h) nO s2 s3 := f2.mono (fun b j q => by unfold pCp; omega) (fun _ _ q => q)
  have q1 : ∀ c j, 1 ≤ c → c ≤ 5 → gI s1 (h' + c) j = gI s (h' + c) j := fun c j _ _ => hM1.2.1 _ _ (by unfold pCp; omega)
  refine ⟨s3, ?_, (hM1.tr e2).tr f2', ?_, ?_, fun i hi => ?_, fun i hi => ?_⟩
  · have ne1 : ¬ h' = h := fun q => hne q.symm
    have p0 : ev g d mX5_copy 0 [some (.ref h), some (.ref h'), none] [] s = ev g d mX5_copy 18 [some (.ref h), some (.ref h'), some (.int (Int32.ofNat 0))] [] s1 := by
      rw [← hs1]
      simp (disch := first | exact jm_lt0 | (apply jm_ltx; (repeat (first | exact jw_0 | apply jw_i | apply jw_r | apply jw_l)); omega) | omega | assumption | (refine n32_inA (by assumption) ?_ ?_ <;> omega) | exact bi01 | decide) only [sX5_copy_0, sX5_copy_1, sX5_copy_2, sX5_copy_5, sX5_copy_8, sX5_copy_9, sX5_copy_10, sX5_copy_13, sX5_copy_16, sX5_copy_17, sX5_copy_19, sX5_copy_21, sX5_copy_24, sX5_copy_25, sX5_copy_28, sX5_copy_29, sX5_copy_30, sX5_copy_33, sX5_copy_34, sX5_copy_35, sX5_copy_36, sX5_copy_37, sX5_copy_40, sX5_copy_41, sX5_copy_42, sX5_copy_45, sX5_copy_46, sX5_copy_47, sX5_copy_48, sX5_copy_49, sX5_copy_52, sX5_copy_53, sX5_copy_54, sX5_copy_57, sX5_copy_58, sX5_copy_59, sX5_copy_60, sX5_copy_61, sX5_copy_64, sX5_copy_65, sX5_copy_66, sX5_copy_69, sX5_copy_70, sX5_copy_71, sX5_copy_72, sX5_copy_75, kX5_copy_78_AAI, sX5_copy_78, sX5_copy_79, sX5_copy_81, sX5_copy_82, sX5_copy_85, sX5_copy_88, sX5_copy_89, sX5_copy_92, sX5_copy_95, sX5_copy_96, sX5_copy_99, sX5_copy_100, sX5_copy_101, sX5_copy_104, sX5_copy_105, sX5_copy_106, sX5_copy_107, sX5_copy_110, kX5_copy_113_AAI, sX5_copy_113, evK_n, evK_v, evK_x, gI_pI, gJ_pI, gR_pI, gI_pJ, gJ_pJ, gR_pJ, gI_pR, gJ_pR, gR_pR, n32_le, n32_lt, n32_add, n32_mul, n32_cl, if_true, if_false, not_true_eq_false, not_false_eq_true, and_true, true_and, and_false, false_and, and_self, or_true, true_or, or_false, false_or, or_self, ne_eq, Decidable.not_not, Nat.reduceEqDiff, Nat.reduceEqDiff, z0, y0, c1, c2, ne1]
    exact p0.trans (e1.trans f1)
  · rw [f2.2.1 _ _ (by omega), h0]
  · rw [f2.2.1 _ _ (by omega), h6]
  · obtain ⟨a1, a2, a3, a4⟩ := c3 i hi
    rw [f2.2.1 _ _ (by omega), f2.2.1 _ _ (by omega), f2.2.1 _ _ (by omega), f2.2.1 _ _ (by omega), e3 1 i (by omega) (by omega) (by omega), e3 2 i (by omega) (by omega) (by omega), e3 3 i (by omega) (by omega) (by omega), e3 4 i (by omega) (by omega) (by omega), q1 1 i (by omega) (by omega), q1 2 i (by omega) (by omega), q1 3 i (by omega) (by omega), q1 4 i (by omega) (by omega)]
    exact ⟨a1, a2, a3, a4⟩
  · rw [f3 i hi, e2.2.1 _ _ (by unfold pCp; omega), q1 5 i (by omega) (by omega), c4 i hi]
end HK
