/-! a BOOK's text, read by both; copied -/
section B2
variable {g : fm_g} {d : Nat} {B : Nat → Nat} {e : Nat}
theorem rb_loop : ∀ (k m p : Nat) (s t : fm_S), k + m = 10 → BS B e p m s t → ∃ s' t' m', ev g (d + 7) mX0_read 6 [some (.ref (163 : Nat)), some (.ref (1 : Nat)), some (.int (Int32.ofNat m))] [] s = some (.inl none, s') ∧ ev g (d + 6) mX12_book 28 [some (.ref (432 : Nat)), none, some (.int (Int32.ofNat m)), none, none, none, none, none] [] t = ev g (d + 6) mX12_book 231 [some (.ref (432 : Nat)), none, some (.int (Int32.ofNat m')), none, none, none, none, none] [] t' ∧ BC s s' ∧ BM t t' ∧ ((∃ p', BS B e p' m' s' t') ∨ QB B e s' t') := by
  have bad : ∀ (m : Nat) (s t : fm_S), m < 100 → QB B e s t → ev g (d + 7) mX0_read 6 [some (.ref (163 : Nat)), some (.ref (1 : Nat)), some (.int (Int32.ofNat m))] [] s = some (.inl none, s) := by
    intro m s t hm h
    have k1 := fun d => c9_goesOn' (g := g) (d := d) h.2.2.2.2.1
    rw [sX0_read_6]
    by_cases c : m ≤ 10
    · simp (disch := first | exact jm_lt0 | (apply jm_ltx; (repeat (first | exact jw_0 | apply jw_i | apply jw_r | apply jw_l)); omega) | omega | assumption | exact sa_163 | exact sa_1 | exact n32_inA sb_163 (by omega) (by omega) | exact n32_inA sb_1 (by omega) (by omega) | (refine n32_inA (by assumption) ?_ ?_ <;> omega) | exact bi01 | (rw [sa_163]; omega) | (rw [sa_1]; omega) | decide) only [sX0_read_0, sX0_read_1, sX0_read_4, sX0_read_5, sX0_read_7, sX0_read_9, sX0_read_12, sX0_read_13, sX0_read_16, sX0_read_19, sX0_read_20, sX0_read_21, sX0_read_24, sX0_read_27, kX0_read_30_AAI, sX0_read_30, evK_n, evK_v, evK_x, gI_pI, gJ_pI, gR_pI, gI_pJ, gJ_pJ, gR_pJ, gI_pR, gJ_pR, gR_pR, if_true, if_false, not_true_eq_false, not_false_eq_true, and_true, true_and, and_false, false_and, and_self, or_true, true_or, or_false, false_or, or_self, ne_eq, Decidable.not_not, Nat.reduceEqDiff, Nat.reduceEqDiff, sa_163, sb_163, sa_1, sb_1, n32_le, n32_lt, n32_add, n32_mul, n32_cl, show ¬ 10 < m by omega, k1, z32]
    · simp (disch := first | exact jm_lt0 | (apply jm_ltx; (repeat (first | exact jw_0 | apply jw_i | apply jw_r | apply jw_l)); omega) | omega | assumption | exact sa_163 | exact sa_1 | exact n32_inA sb_163 (by omega) (by omega) | exact n32_inA sb_1 (by omega) (by omega) | (refine n32_inA (by assumption) ?_ ?_ <;> omega) | exact bi01 | (rw [sa_163]; omega) | (rw [sa_1]; omega) | decide) only [sX0_read_0, sX0_read_1, sX0_read_4, sX0_read_5, sX0_read_7, sX0_read_9, sX0_read_12, sX0_read_13, sX0_read_16, sX0_read_19, sX0_read_20, sX0_read_21, sX0_read_24, sX0_read_27, kX0_read_30_AAI, sX0_read_30, evK_n, evK_v, evK_x, gI_pI, gJ_pI, gR_pI, gI_pJ, gJ_pJ, gR_pJ, gI_pR, gJ_pR, gR_pR, if_true, if_false, not_true_eq_false, not_false_eq_true, and_true, true_and, and_false, false_and, and_self, or_true, true_or, or_false, false_or, or_self, ne_eq, Decidable.not_not, Nat.reduceEqDiff, Nat.reduceEqDiff, sa_163, sb_163, sa_1, sb_1, n32_le, n32_lt, n32_add, n32_mul, n32_cl, show 10 < m by omega]
  have endd : ∀ (m p : Nat) (s t : fm_S), m ≤ 10 → BS B e p m s t → ¬ p < e → ∃ s' t' m', ev g (d + 7) mX0_read 6 [some (.ref (163 : Nat)), some (.ref (1 : Nat)), some (.int (Int32.ofNat m))] [] s = some (.inl none, s') ∧ ev g (d + 6) mX12_book 28 [some (.ref (432 : Nat)), none, some (.int (Int32.ofNat m)), none, none, none, none, none] [] t = ev g (d + 6) mX12_book 231 [some (.ref (432 : Nat)), none, some (.int (Int32.ofNat m')), none, none, none, none, none] [] t' ∧ BC s s' ∧ BM t t' ∧ ((∃ p', BS B e p' m' s' t') ∨ QB B e s' t') := by
    intro m p s t hm h c
    obtain ⟨k1, k2⟩ := q_more (g := g) h.1
    rw [bi_f c] at k1 k2
    have f5 := h.1.2.2.2.2.2
    refine ⟨_, _, m, ?_, ?_, CQ.at.bc, Mq.at.bm, Or.inl ⟨p, h.1.sat.mat, h.2.1, by rw [gI_pI, if_neg (by omega)]; exact h.2.2.1, fun i hi => ?_⟩⟩
    · rw [sX0_read_6]
      simp (disch := first | exact jm_lt0 | (apply jm_ltx; (repeat (first | exact jw_0 | apply jw_i | apply jw_r | apply jw_l)); omega) | omega | assumption | exact sa_163 | exact sa_1 | exact n32_inA sb_163 (by omega) (by omega) | exact n32_inA sb_1 (by omega) (by omega) | (refine n32_inA (by assumption) ?_ ?_ <;> omega) | exact bi01 | (rw [sa_163]; omega) | (rw [sa_1]; omega) | decide) only [sX0_read_0, sX0_read_1, sX0_read_4, sX0_read_5, sX0_read_7, sX0_read_9, sX0_read_12, sX0_read_13, sX0_read_16, sX0_read_19, sX0_read_20, sX0_read_21, sX0_read_24, sX0_read_27, kX0_read_30_AAI, sX0_read_30, evK_n, evK_v, evK_x, gI_pI, gJ_pI, gR_pI, gI_pJ, gJ_pJ, gR_pJ, gI_pR, gJ_pR, gR_pR, if_true, if_false, not_true_eq_false, not_false_eq_true, and_true, true_and, and_false, false_and, and_self, or_true, true_or, or_false, false_or, or_self, ne_eq, Decidable.not_not, Nat.reduceEqDiff, Nat.reduceEqDiff, sa_163, sb_163, sa_1, sb_1, n32_le, n32_lt, n32_add, n32_mul, n32_cl, show ¬ 10 < m by omega, k1, z32]
    · rw [sX12_book_28]
      simp (disch := first | exact jm_lt0 | (apply jm_ltx; (repeat (first | exact jw_0 | apply jw_i | apply jw_r | apply jw_l)); omega) | omega | assumption | exact sa_432 | exact n32_inA sb_432 (by omega) (by omega) | (refine n32_inA (by assumption) ?_ ?_ <;> omega) | exact bi01 | (rw [sa_432]; omega) | decide) only [sX12_book_0, sX12_book_1, sX12_book_2, sX12_book_5, sX12_book_6, sX12_book_7, sX12_book_8, sX12_book_11, sX12_book_12, sX12_book_13, sX12_book_16, sX12_book_19, sX12_book_20, sX12_book_21, sX12_book_22, sX12_book_23, sX12_book_26, sX12_book_27, kX12_book_28_AIINNNNN, kX12_book_28_ANININII, sX12_book_29, sX12_book_32, sX12_book_35, sX12_book_36, sX12_book_39, sX12_book_42, sX12_book_43, sX12_book_46, sX12_book_47, sX12_book_48, sX12_book_49, sX12_book_51, sX12_book_54, sX12_book_56, sX12_book_57, sX12_book_60, sX12_book_63, sX12_book_64, sX12_book_66, sX12_book_69, sX12_book_70, sX12_book_71, sX12_book_72, kX12_book_75_ANIIINNN, sX12_book_75, sX12_book_76, sX12_book_79, sX12_book_81, sX12_book_83, sX12_book_85, sX12_book_88, sX12_book_91, sX12_book_92, sX12_book_95, sX12_book_97, sX12_book_99, sX12_book_102, sX12_book_105, sX12_book_106, sX12_book_109, sX12_book_111, sX12_book_114, sX12_book_117, sX12_book_120, sX12_book_121, kX12_book_124_ANINIINN, sX12_book_124, kX12_book_125_ANINIINN, sX12_book_125, sX12_book_127, sX12_book_129, sX12_book_130, sX12_book_133, sX12_book_134, sX12_book_135, sX12_book_136, sX12_book_139, sX12_book_142, sX12_book_143, sX12_book_146, sX12_book_149, sX12_book_152, sX12_book_153, sX12_book_156, sX12_book_157, sX12_book_158, sX12_book_160, sX12_book_161, sX12_book_164, sX12_book_166, sX12_book_169, sX12_book_170, sX12_book_173, sX12_book_175, sX12_book_176, sX12_book_178, sX12_book_181, sX12_book_182, sX12_book_185, sX12_book_188, sX12_book_191, sX12_book_192, sX12_book_195, sX12_book_196, sX12_book_197, sX12_book_198, sX12_book_200, sX12_book_201, sX12_book_202, sX12_book_205, sX12_book_206, sX12_book_207, sX12_book_208, sX12_book_209, sX12_book_210, sX12_book_212, sX12_book_213, sX12_book_214, sX12_book_217, sX12_book_218, sX12_book_219, sX12_book_220, sX12_book_221, sX12_book_222, sX12_book_224, sX12_book_225, sX12_book_228, kX12_book_231_ANININII, kX12_book_231_ANINININ, sX12_book_232, sX12_book_233, sX12_book_236, sX12_book_237, sX12_book_238, sX12_book_241, sX12_book_242, sX12_book_245, sX12_book_246, sX12_book_247, sX12_book_248, sX12_book_249, sX12_book_252, sX12_book_253, sX12_book_254, sX12_book_257, sX12_book_258, sX12_book_261, sX12_book_262, sX12_book_263, sX12_book_264, sX12_book_267, sX12_book_268, evK_n, evK_v, evK_x, gI_pI, gJ_pI, gR_pI, gI_pJ, gJ_pJ, gR_pJ, gI_pR, gJ_pR, gR_pR, if_true, if_false, not_true_eq_false, not_false_eq_true, and_true, true_and, and_false, false_and, and_self, or_true, true_or, or_false, false_or, or_self, ne_eq, Decidable.not_not, Nat.reduceEqDiff, Nat.reduceEqDiff, sa_432, sb_432, m_fine, f5, bi_ne, bi_eq, k2, z32]
    · obtain ⟨v, k, x, ⟨a1, a2, a3⟩, ⟨b1, b2, b3⟩, c1⟩ := h.2.2.2 i hi
      exact ⟨v, k, x, ⟨by rw [gI_pI, if_neg (by omega), a1], by rw [gI_pI, if_neg (by omega), a2], by rw [gI_pI, if_neg (by omega), a3]⟩, ⟨by rw [gI_pI, if_neg (by omega), b1], by rw [gI_pI, if_neg (by omega), b2], by rw [gI_pI, if_neg (by omega), b3]⟩, c1⟩
  have cl : ∀ (m p : Nat) (s t s1 : fm_S), m ≤ 10 → BS B e p m s t → p < e → ev g (d + 6) mX0_readLine 0 [some (.ref (163 : Nat)), some (.ref (1 : Nat)), none, none, none, none, none] [] (pI s 1 5 (Int32.ofNat p)) = some (.inl none, s1) → ev g (d + 7) mX0_read 6 [some (.ref (163 : Nat)), some (.ref (1 : Nat)), some (.int (Int32.ofNat m))] [] s = ev g (d + 7) mX0_read 6 [some (.ref (163 : Nat)), some (.ref (1 : Nat)), some (.int (Int32.ofNat (m + 1)))] [] s1 := by
    intro m p s t s1 hm h c e1
    obtain ⟨k1, k2⟩ := q_more (g := g) h.1
    rw [bi_t c] at k1
    rw [sX0_read_6]
    simp (disch := first | exact jm_lt0 | (apply jm_ltx; (repeat (first | exact jw_0 | apply jw_i | apply jw_r | apply jw_l)); omega) | omega | assumption | exact sa_163 | exact sa_1 | exact n32_inA sb_163 (by omega) (by omega) | exact n32_inA sb_1 (by omega) (by omega) | (refine n32_inA (by assumption) ?_ ?_ <;> omega) | exact bi01 | (rw [sa_163]; omega) | (rw [sa_1]; omega) | decide) only [sX0_read_0, sX0_read_1, sX0_read_4, sX0_read_5, sX0_read_7, sX0_read_9, sX0_read_12, sX0_read_13, sX0_read_16, sX0_read_19, sX0_read_20, sX0_read_21, sX0_read_24, sX0_read_27, kX0_read_30_AAI, sX0_read_30, evK_n, evK_v, evK_x, gI_pI, gJ_pI, gR_pI, gI_pJ, gJ_pJ, gR_pJ, gI_pR, gJ_pR, gR_pR, if_true, if_false, not_true_eq_false, not_false_eq_true, and_true, true_and, and_false, false_and, and_self, or_true, true_or, or_false, false_or, or_self, ne_eq, Decidable.not_not, Nat.reduceEqDiff, Nat.reduceEqDiff, sa_163, sb_163, sa_1, sb_1, n32_le, n32_lt, n32_add, n32_mul, n32_cl, show ¬ 10 < m by omega, k1, show ¬ (Int32.ofNat 1 = 0) by decide, e1]
  intro k
  induction k with
  | zero =>
    intro m p s t hk h
    by_cases c : p < e
    · obtain ⟨s1, t1, e1, e2, e3, e4⟩ := rb_step (g := g) (d := d) h c
      have e5 := cl m p s t s1 (by omega) h c e1
      rcases e4 with ⟨x1, -⟩ | ⟨x1, x2⟩
      · omega
      · exact ⟨s1, t1, m, e5.trans (bad (m + 1) s1 t1 (by omega) x2), x1, e2, e3, Or.inr x2⟩
    · exact endd m p s t (by omega) h c
  | succ k ih =>
    intro m p s t hk h
    by_cases c : p < e
    · obtain ⟨s1, t1, e1, e2, e3, e4⟩ := rb_step (g := g) (d := d) h c
      have e5 := cl m p s t s1 (by omega) h c e1
      rcases e4 with ⟨x0, x1, p', x2⟩ | ⟨x1, x2⟩
      · obtain ⟨s', t', m', f1, f2, f3, f4, f5⟩ := ih (m + 1) p' s1 t1 (by omega) x2
        exact ⟨s', t', m', e5.trans f1, x1.trans f2, e2.tr f3, e3.tr f4, f5⟩
      · exact ⟨s1, t1, m, e5.trans (bad (m + 1) s1 t1 (by omega) x2), x1, e2, e3, Or.inr x2⟩
    · exact endd m p s t (by omega) h c
theorem rb_read {nn : Int32} {s t : fm_S} (h : OP B e s t) : ∃ s' t' m', ev g (d + 7) mX0_read 0 [some (.ref (163 : Nat)), some (.ref (1 : Nat)), none] [] s = some (.inl none, s') ∧ ev g (d + 6) mX12_book 26 [some (.ref (432 : Nat)), some (.int nn), none, none, none, none, none, none] [] t = ev g (d + 6) mX12_book 231 [some (.ref (432 : Nat)), none, some (.int (Int32.ofNat m')), none, none, none, none, none] [] t' ∧ BC s s' ∧ BM t t' ∧ ((∃ p', BS B e p' m' s' t') ∨ QB B e s' t') := by
  have hQ := h.qf
  have hB : BS B e (skp B e 0) 0 (pI s 163 0 (Int32.ofNat 0)) t := ⟨hQ.of ⟨rfl, fun b j hb => by rw [gI_pI, if_neg (by omega)]⟩ ⟨rfl, fun _ _ _ => rfl⟩, by decide, by rw [gI_pI, if_pos ⟨rfl, rfl⟩], fun i hi => by omega⟩
  obtain ⟨s', t', m', e1, e2, e3, e4, e5⟩ := rb_loop (g := g) (d := d) 10 0 _ _ _ rfl hB
  refine ⟨s', t', m', ?_, ?_, (BC.p (by omega)).tr e3, e4, e5⟩
  · simp (disch := first | exact jm_lt0 | (apply jm_ltx; (repeat (first | exact jw_0 | apply jw_i | apply jw_r | apply jw_l)); omega) | omega | assumption | exact sa_163 | exact sa_1 | exact n32_inA sb_163 (by omega) (by omega) | exact n32_inA sb_1 (by omega) (by omega) | (refine n32_inA (by assumption) ?_ ?_ <;> omega) | exact bi01 | (rw [sa_163]; omega) | (rw [sa_1]; omega) | decide) only [sX0_read_0, sX0_read_1, sX0_read_4, sX0_read_5, sX0_read_7, sX0_read_9, sX0_read_12, sX0_read_13, sX0_read_16, sX0_read_19, sX0_read_20, sX0_read_21, sX0_read_24, sX0_read_27, kX0_read_30_AAI, sX0_read_30, sX0_clear_0, sX0_clear_1, sX0_clear_2, sX0_clear_5, evK_n, evK_v, evK_x, gI_pI, gJ_pI, gR_pI, gI_pJ, gJ_pJ, gR_pJ, gI_pR, gJ_pR, gR_pR, if_true, if_false, not_true_eq_false, not_false_eq_true, and_true, true_and, and_false, false_and, and_self, or_true, true_or, or_false, false_or, or_self, ne_eq, Decidable.not_not, Nat.reduceEqDiff, Nat.reduceEqDiff, sa_163, sb_163, sa_1, sb_1, e1]
  · refine Eq.trans ?_ e2
    simp (disch := first | exact jm_lt0 | (apply jm_ltx; (repeat (first | exact jw_0 | apply jw_i | apply jw_r | apply jw_l)); omega) | omega | assumption | exact sa_432 | exact n32_inA sb_432 (by omega) (by omega) | (refine n32_inA (by assumption) ?_ ?_ <;> omega) | exact bi01 | (rw [sa_432]; omega) | decide) only [sX12_book_0, sX12_book_1, sX12_book_2, sX12_book_5, sX12_book_6, sX12_book_7, sX12_book_8, sX12_book_11, sX12_book_12, sX12_book_13, sX12_book_16, sX12_book_19, sX12_book_20, sX12_book_21, sX12_book_22, sX12_book_23, sX12_book_26, sX12_book_27, kX12_book_28_AIINNNNN, kX12_book_28_ANININII, sX12_book_29, sX12_book_32, sX12_book_35, sX12_book_36, sX12_book_39, sX12_book_42, sX12_book_43, sX12_book_46, sX12_book_47, sX12_book_48, sX12_book_49, sX12_book_51, sX12_book_54, sX12_book_56, sX12_book_57, sX12_book_60, sX12_book_63, sX12_book_64, sX12_book_66, sX12_book_69, sX12_book_70, sX12_book_71, sX12_book_72, kX12_book_75_ANIIINNN, sX12_book_75, sX12_book_76, sX12_book_79, sX12_book_81, sX12_book_83, sX12_book_85, sX12_book_88, sX12_book_91, sX12_book_92, sX12_book_95, sX12_book_97, sX12_book_99, sX12_book_102, sX12_book_105, sX12_book_106, sX12_book_109, sX12_book_111, sX12_book_114, sX12_book_117, sX12_book_120, sX12_book_121, kX12_book_124_ANINIINN, sX12_book_124, kX12_book_125_ANINIINN, sX12_book_125, sX12_book_127, sX12_book_129, sX12_book_130, sX12_book_133, sX12_book_134, sX12_book_135, sX12_book_136, sX12_book_139, sX12_book_142, sX12_book_143, sX12_book_146, sX12_book_149, sX12_book_152, sX12_book_153, sX12_book_156, sX12_book_157, sX12_book_158, sX12_book_160, sX12_book_161, sX12_book_164, sX12_book_166, sX12_book_169, sX12_book_170, sX12_book_173, sX12_book_175, sX12_book_176, sX12_book_178, sX12_book_181, sX12_book_182, sX12_book_185, sX12_book_188, sX12_book_191, sX12_book_192, sX12_book_195, sX12_book_196, sX12_book_197, sX12_book_198, sX12_book_200, sX12_book_201, sX12_book_202, sX12_book_205, sX12_book_206, sX12_book_207, sX12_book_208, sX12_book_209, sX12_book_210, sX12_book_212, sX12_book_213, sX12_book_214, sX12_book_217, sX12_book_218, sX12_book_219, sX12_book_220, sX12_book_221, sX12_book_222, sX12_book_224, sX12_book_225, sX12_book_228, kX12_book_231_ANININII, kX12_book_231_ANINININ, sX12_book_232, sX12_book_233, sX12_book_236, sX12_book_237, sX12_book_238, sX12_book_241, sX12_book_242, sX12_book_245, sX12_book_246, sX12_book_247, sX12_book_248, sX12_book_249, sX12_book_252, sX12_book_253, sX12_book_254, sX12_book_257, sX12_book_258, sX12_book_261, sX12_book_262, sX12_book_263, sX12_book_264, sX12_book_267, sX12_book_268, evK_n, evK_v, evK_x, gI_pI, gJ_pI, gR_pI, gI_pJ, gJ_pJ, gR_pJ, gI_pR, gJ_pR, gR_pR, if_true, if_false, not_true_eq_false, not_false_eq_true, and_true, true_and, and_false, false_and, and_self, or_true, true_or, or_false, false_or, or_self, ne_eq, Decidable.not_not, Nat.reduceEqDiff, Nat.reduceEqDiff, sa_432, sb_432]
/-- lines, by the class's cells from b on -/
def BL (s : fm_S) (b l : Nat) (F : Nat → Nat × Nat × Nat) : Prop := gI s b 0 = Int32.ofNat l ∧ ∀ i, i < l → gI s (b + 1) i = Int32.ofNat (F i).1 ∧ gI s (b + 2) i = Int32.ofNat (F i).2.1 ∧ gI s (b + 3) i = Int32.ofNat (F i).2.2
theorem bs_bk {p m : Nat} {s t : fm_S} (h : BS B e p m s t) : ∃ F : Nat → Nat × Nat × Nat, m ≤ 10 ∧ BL s 163 m F ∧ (∀ i, i < m → gI t 449 (3 * i) = Int32.ofNat (F i).1 ∧ gI t 449 (3 * i + 1) = Int32.ofNat (F i).2.1 ∧ gI t 449 (3 * i + 2) = Int32.ofNat (F i).2.2) ∧ ∀ i, i < m → (F i).1 < 24 ∧ (F i).2.1 < 3 ∧ (F i).2.2 ≤ 12 := by
  obtain ⟨hQ, hm, h0, hR⟩ := h
  refine ⟨fun i => ((gI s 164 i).toNatClampNeg, (gI s 165 i).toNatClampNeg, (gI s 166 i).toNatClampNeg), hm, ⟨h0, fun i hi => ?_⟩, fun i hi => ?_, fun i hi => ?_⟩
  · obtain ⟨v, k, x, ⟨a1, a2, a3⟩, ⟨b1, b2, b3⟩, c1, c2, c3⟩ := hR i hi
    dsimp only
    rw [a1, a2, a3, n32_cl (by omega), n32_cl (by omega), n32_cl (by omega)]
    exact ⟨rfl, rfl, rfl⟩
  · obtain ⟨v, k, x, ⟨a1, a2, a3⟩, ⟨b1, b2, b3⟩, c1, c2, c3⟩ := hR i hi
    dsimp only
    rw [a1, a2, a3, n32_cl (by omega), n32_cl (by omega), n32_cl (by omega)]
    exact ⟨b1, b2, b3⟩
  · obtain ⟨v, k, x, ⟨a1, a2, a3⟩, ⟨b1, b2, b3⟩, c1, c2, c3⟩ := hR i hi
    dsimp only
    rw [a1, a2, a3, n32_cl (by omega), n32_cl (by omega), n32_cl (by omega)]
    exact ⟨c1, c2, c3⟩
def pBk (b _j : Nat) : Prop := 61 ≤ b ∧ b ≤ 64
theorem c0_cpLoop {s0 : fm_S} (hF : FX s0) : ∀ (k i : Nat) (s : fm_S), i + k = 10 → FM (fun b _ => 62 ≤ b ∧ b ≤ 64) nO s0 s → (∀ j, j < i → gI s 62 j = gI s0 164 j ∧ gI s 63 j = gI s0 165 j ∧ gI s 64 j = gI s0 166 j) → ∃ s', ev g d mX0_copy 10 [some (.ref (61 : Nat)), some (.ref (163 : Nat)), some (.int (Int32.ofNat i))] [] s = some (.inl none, s') ∧ FM (fun b _ => 62 ≤ b ∧ b ≤ 64) nO s0 s' ∧ ∀ j, j < 10 → gI s' 62 j = gI s0 164 j ∧ gI s' 63 j = gI s0 165 j ∧ gI s' 64 j = gI s0 166 j := by
  intro k
  induction k with
  | zero =>
    intro i s hi hM hJ
    have hil : i = 10 := by omega
    subst hil
    refine ⟨s, ?_, hM, hJ⟩
    rw [sX0_copy_10]
    simp (disch := first | exact jm_lt0 | (apply jm_ltx; (repeat (first | exact jw_0 | apply jw_i | apply jw_r | apply jw_l)); omega) | omega | assumption | exact sa_61 | exact n32_inA sb_61 (by omega) (by omega) | (refine n32_inA (by assumption) ?_ ?_ <;> omega) | exact bi01 | (rw [sa_61]; omega) | decide) only [sX0_copy_0, sX0_copy_1, sX0_copy_2, sX0_copy_5, sX0_copy_8, sX0_copy_9, sX0_copy_11, sX0_copy_13, sX0_copy_16, sX0_copy_17, sX0_copy_20, sX0_copy_21, sX0_copy_22, sX0_copy_25, sX0_copy_26, sX0_copy_27, sX0_copy_28, sX0_copy_29, sX0_copy_32, sX0_copy_33, sX0_copy_34, sX0_copy_37, sX0_copy_38, sX0_copy_39, sX0_copy_40, sX0_copy_41, sX0_copy_44, sX0_copy_45, sX0_copy_46, sX0_copy_49, sX0_copy_50, sX0_copy_51, sX0_copy_52, sX0_copy_55, kX0_copy_58_AAI, sX0_copy_58, evK_n, evK_v, evK_x, gI_pI, gJ_pI, gR_pI, gI_pJ, gJ_pJ, gR_pJ, gI_pR, gJ_pR, gR_pR, n32_le, n32_lt, n32_add, n32_mul, n32_cl, if_true, if_false, not_true_eq_false, not_false_eq_true, and_true, true_and, and_false, false_and, and_self, or_true, true_or, or_false, false_or, or_self, ne_eq, Decidable.not_not, Nat.reduceEqDiff, Nat.reduceEqDiff, Nat.le_refl]
  | succ k ih =>
    intro i s hi hM hJ
    have hFs := hM.fx hF
    have r1 := hFs.u 61 1 62 (by decide +kernel)
    have r2 := hFs.u 61 2 63 (by decide +kernel)
    have r3 := hFs.u 61 3 64 (by decide +kernel)
    have x1 := hFs.u 163 1 164 (by decide +kernel)
    have x2 := hFs.u 163 2 165 (by decide +kernel)
    have x3 := hFs.u 163 3 166 (by decide +kernel)
    have m1 : gI s 164 i = gI s0 164 i := hM.2.1 _ _ (by omega)
    have m2 : gI s 165 i = gI s0 165 i := hM.2.1 _ _ (by omega)
    have m3 : gI s 166 i = gI s0 166 i := hM.2.1 _ _ (by omega)
    have g1 : ¬ 10 ≤ i := by omega
    obtain ⟨s', f1, f2, f3⟩ := ih (i + 1) (pI (pI (pI s 62 i (gI s0 164 i)) 63 i (gI s0 165 i)) 64 i (gI s0 166 i)) (by omega) (((hM.tr (FM.pI (by omega))).tr (FM.pI (by omega))).tr (FM.pI (by omega))) (fun j hj => by
      by_cases cj : j = i
      · subst cj
        simp [gI_pI]
      · obtain ⟨y1, y2, y3⟩ := hJ j (by omega)
        refine ⟨?_, ?_, ?_⟩
        · rw [gI_pI, if_neg (by omega), gI_pI, if_neg (by omega), gI_pI, if_neg (by omega), y1]
        · rw [gI_pI, if_neg (by omega), gI_pI, if_neg (by omega), gI_pI, if_neg (by omega), y2]
        · rw [gI_pI, if_neg (by omega), gI_pI, if_neg (by omega), gI_pI, if_neg (by omega), y3])
    refine ⟨s', ?_, f2, f3⟩
    rw [sX0_copy_10]
    simp (disch := first | exact jm_lt0 | (apply jm_ltx; (repeat (first | exact jw_0 | apply jw_i | apply jw_r | apply jw_l)); omega) | omega | assumption | exact sa_61 | exact sa_62 | exact sa_63 | exact sa_64 | exact sa_163 | exact sa_164 | exact sa_165 | exact sa_166 | exact n32_inA sb_61 (by omega) (by omega) | exact n32_inA sb_62 (by omega) (by omega) | exact n32_inA sb_63 (by omega) (by omega) | exact n32_inA sb_64 (by omega) (by omega) | exact n32_inA sb_163 (by omega) (by omega) | exact n32_inA sb_164 (by omega) (by omega) | exact n32_inA sb_165 (by omega) (by omega) | exact n32_inA sb_166 (by omega) (by omega) | (refine n32_inA (by assumption) ?_ ?_ <;> omega) | exact bi01 | (rw [sa_61]; omega) | (rw [sa_62]; omega) | (rw [sa_63]; omega) | (rw [sa_64]; omega) | (rw [sa_163]; omega) | (rw [sa_164]; omega) | (rw [sa_165]; omega) | (rw [sa_166]; omega) | decide) only [sX0_copy_0, sX0_copy_1, sX0_copy_2, sX0_copy_5, sX0_copy_8, sX0_copy_9, sX0_copy_11, sX0_copy_13, sX0_copy_16, sX0_copy_17, sX0_copy_20, sX0_copy_21, sX0_copy_22, sX0_copy_25, sX0_copy_26, sX0_copy_27, sX0_copy_28, sX0_copy_29, sX0_copy_32, sX0_copy_33, sX0_copy_34, sX0_copy_37, sX0_copy_38, sX0_copy_39, sX0_copy_40, sX0_copy_41, sX0_copy_44, sX0_copy_45, sX0_copy_46, sX0_copy_49, sX0_copy_50, sX0_copy_51, sX0_copy_52, sX0_copy_55, kX0_copy_58_AAI, sX0_copy_58, evK_n, evK_v, evK_x, gI_pI, gJ_pI, gR_pI, gI_pJ, gJ_pJ, gR_pJ, gI_pR, gJ_pR, gR_pR, n32_le, n32_lt, n32_add, n32_mul, n32_cl, if_true, if_false, not_true_eq_false, not_false_eq_true, and_true, true_and, and_false, false_and, and_self, or_true, true_or, or_false, false_or, or_self, ne_eq, Decidable.not_not, Nat.reduceEqDiff, Nat.reduceEqDiff, sa_61, sb_61, sa_62, sb_62, sa_63, sb_63, sa_64, sb_64, sa_163, sb_163, sa_164, sb_164, sa_165, sb_165, sa_166, sb_166, r1, r2, r3, x1, x2, x3, m1, m2, m3, g1, show ¬ ((165 : Nat) = 62) by decide, show ¬ ((166 : Nat) = 62) by decide, show ¬ ((166 : Nat) = 63) by decide]
    exact f1
theorem c0_copy {l : Nat} {F : Nat → Nat × Nat × Nat} {s : fm_S} (hF : FX s) (hl : l ≤ 10) (h : BL s 163 l F) : ∃ s', ev g d mX0_copy 0 [some (.ref (61 : Nat)), some (.ref (163 : Nat)), none] [] s = some (.inl none, s') ∧ FM pBk nO s s' ∧ BL s' 61 l F := by
  obtain ⟨h0, h1⟩ := h
  have hF1 : FX (pI s 61 0 (Int32.ofNat l)) := hF.pI
  obtain ⟨s', e1, e2, e3⟩ := c0_cpLoop (g := g) (d := d) hF1 10 0 _ (by omega) FM.rf (fun j hj => by omega)
  refine ⟨s', ?_, (FM.pI (by unfold pBk; omega)).tr (e2.mono (fun b j q => by unfold pBk; omega) (fun _ _ q => q)), ?_, fun i hi => ?_⟩
  · simp (disch := first | exact jm_lt0 | (apply jm_ltx; (repeat (first | exact jw_0 | apply jw_i | apply jw_r | apply jw_l)); omega) | omega | assumption | exact sa_61 | exact sa_163 | exact n32_inA sb_61 (by omega) (by omega) | exact n32_inA sb_163 (by omega) (by omega) | (refine n32_inA (by assumption) ?_ ?_ <;> omega) | exact bi01 | (rw [sa_61]; omega) | (rw [sa_163]; omega) | decide) only [sX0_copy_0, sX0_copy_1, sX0_copy_2, sX0_copy_5, sX0_copy_8, sX0_copy_9, sX0_copy_11, sX0_copy_13, sX0_copy_16, sX0_copy_17, sX0_copy_20, sX0_copy_21, sX0_copy_22, sX0_copy_25, sX0_copy_26, sX0_copy_27, sX0_copy_28, sX0_copy_29, sX0_copy_32, sX0_copy_33, sX0_copy_34, sX0_copy_37, sX0_copy_38, sX0_copy_39, sX0_copy_40, sX0_copy_41, sX0_copy_44, sX0_copy_45, sX0_copy_46, sX0_copy_49, sX0_copy_50, sX0_copy_51, sX0_copy_52, sX0_copy_55, kX0_copy_58_AAI, sX0_copy_58, evK_n, evK_v, evK_x, gI_pI, gJ_pI, gR_pI, gI_pJ, gJ_pJ, gR_pJ, gI_pR, gJ_pR, gR_pR, n32_le, n32_lt, n32_add, n32_mul, n32_cl, if_true, if_false, not_true_eq_false, not_false_eq_true, and_true, true_and, and_false, false_and, and_self, or_true, true_or, or_false, false_or, or_self, ne_eq, Decidable.not_not, Nat.reduceEqDiff, Nat.reduceEqDiff, sa_61, sb_61, sa_163, sb_163, h0]
    exact e1
  · rw [e2.2.1 _ _ (by omega), gI_pI, if_pos ⟨rfl, rfl⟩]
  · obtain ⟨y1, y2, y3⟩ := e3 i (by omega)
    rw [show 61 + 1 = 62 from rfl, show 61 + 2 = 63 from rfl, show 61 + 3 = 64 from rfl, y1, y2, y3, gI_pI, if_neg (by omega), gI_pI, if_neg (by omega), gI_pI, if_neg (by omega)]
    exact h1 i hi
/-- the model's copies -/
theorem m_copies {a b n la lb : Nat} {t0 : fm_S} (ha : (shp a).1 = 60) (ha2 : (shp a).2 = la) (hb : (shp b).1 = 60) (hb2 : (shp b).2 = lb) (hab : a ≠ b) (hla : n ≤ la ∧ la < 100000) (hlb : n ≤ lb ∧ lb < 100000) : ∀ (k i : Nat) (t : fm_S), i + k = n → FM (fun c _ => c = b) nO t0 t → (∀ j, j < i → gI t b j = gI t0 a j) → ∃ t', ev g d mX12_copies 3 [none, some (.ref a), some (.ref b), some (.int (Int32.ofNat n)), some (.int (Int32.ofNat i))] [] t = some (.inl none, t') ∧ FM (fun c _ => c = b) nO t0 t' ∧ ∀ j, j < n → gI t' b j = gI t0 a j := by
  intro k
  induction k with
  | zero =>
    intro i t hi hM hJ
    have hil : i = n := by omega
    subst hil
    refine ⟨t, ?_, hM, hJ⟩
    rw [sX12_copies_3]
    simp (disch := first | exact jm_lt0 | (apply jm_ltx; (repeat (first | exact jw_0 | apply jw_i | apply jw_r | apply jw_l)); omega) | omega | assumption | (refine n32_inA (by assumption) ?_ ?_ <;> omega) | exact bi01 | decide) only [sX12_copies_0, sX12_copies_1, kX12_copies_3_AAAII, sX12_copies_5, sX12_copies_6, sX12_copies_9, sX12_copies_10, sX12_copies_12, sX12_copies_13, sX12_copies_15, sX12_copies_16, sX12_copies_17, sX12_copies_20, kX12_copies_23_NAAII, sX12_copies_23, evK_n, evK_v, evK_x, gI_pI, gJ_pI, gR_pI, gI_pJ, gJ_pJ, gR_pJ, gI_pR, gJ_pR, gR_pR, n32_le, n32_lt, n32_add, n32_mul, n32_cl, if_true, if_false, not_true_eq_false, not_false_eq_true, and_true, true_and, and_false, false_and, and_self, or_true, true_or, or_false, false_or, or_self, ne_eq, Decidable.not_not, Nat.reduceEqDiff, Nat.reduceEqDiff]
    rw [if_pos (Nat.le_refl _)]
  | succ k ih =>
    intro i t hi hM hJ
    have m1 : gI t a i = gI t0 a i := hM.2.1 _ _ hab
    have g1 : ¬ n ≤ i := by omega
    obtain ⟨t', f1, f2, f3⟩ := ih (i + 1) (pI t b i (gI t0 a i)) (by omega) (hM.tr (FM.pI rfl)) (fun j hj => by
      by_cases cj : j = i
      · rw [cj, gI_pI, if_pos ⟨rfl, rfl⟩]
      · rw [gI_pI, if_neg (by omega), hJ j (by omega)])
    refine ⟨t', ?_, f2, f3⟩
    rw [sX12_copies_3]
    simp (disch := first | exact jm_lt0 | (apply jm_ltx; (repeat (first | exact jw_0 | apply jw_i | apply jw_r | apply jw_l)); omega) | omega | assumption | (refine n32_inA (by assumption) ?_ ?_ <;> omega) | exact bi01 | decide) only [sX12_copies_0, sX12_copies_1, kX12_copies_3_AAAII, sX12_copies_5, sX12_copies_6, sX12_copies_9, sX12_copies_10, sX12_copies_12, sX12_copies_13, sX12_copies_15, sX12_copies_16, sX12_copies_17, sX12_copies_20, kX12_copies_23_NAAII, sX12_copies_23, evK_n, evK_v, evK_x, gI_pI, gJ_pI, gR_pI, gI_pJ, gJ_pJ, gR_pJ, gI_pR, gJ_pR, gR_pR, n32_le, n32_lt, n32_add, n32_mul, n32_cl, if_true, if_false, not_true_eq_false, not_false_eq_true, and_true, true_and, and_false, false_and, and_self, or_true, true_or, or_false, false_or, or_self, ne_eq, Decidable.not_not, Nat.reduceEqDiff, Nat.reduceEqDiff, ha, ha2, hb, hb2, m1, g1]
    exact f1
end B2
