/-! a VISIT's CLAUSE; one CLAUSE, read by both -/
section ON2
variable {g : fm_g} {d : Nat} {B : Nat → Nat} {e p : Nat} {o : OfT} {s t : fm_S}
theorem insS_of {s : fm_S} {r1 r2 q n p m b j : Nat} (hr : r1 ≠ r2) (h1 : b ≠ r1) (h2 : b ≠ r2) : gI (insS s r1 r2 q n p m) b j = gI s b j := by
  rw [insS_gI hr, if_neg (by omega), if_neg (by omega), if_neg (by omega)]
theorem of1_8 (h : OfR B e p o s t) (hn24 : o.2.2.1 < 24) : Of1 g d B e 8 s t := by
  have of2 := fun s d => of_2 (g := g) (d := d) (s := s)
  have of3 := fun s d => of_3 (g := g) (d := d) (s := s)
  have of4 := fun s d => of_4 (g := g) (d := d) (s := s)
  have of5 := fun s d => of_5 (g := g) (d := d) (s := s)
  have of6 := fun s d => of_6 (g := g) (d := d) (s := s)
  have of7 := fun s d => of_7 (g := g) (d := d) (s := s)
  have of8 := fun s d => of_8 (g := g) (d := d) (s := s)
  obtain ⟨z0, z1, z2, z3, z4, z5, z6, z7, z8⟩ := kc_8
  obtain ⟨⟨o1, o2, o3, o4, o5, o6, o7, o8, o9⟩, o10⟩ := id h.2.2.2
  have a7 := h.2.1.1 7 (by decide)
  have b7 := h.2.2.1.2.2.1
  have hti : (Int32.ofNat (o.1 7) - Int32.ofNat 1).toInt = (o.1 7 : Int) - 1 := by
    rw [Int32.toInt_sub, n32_toInt (by omega), n32_toInt (by decide), Int.bmod_eq_of_le] <;> omega
  obtain ⟨v, w, s1, t1, e1, e2, e3, e4, e5⟩ := q_num (g := g) (lo := 0) (hi := Int32.ofNat (o.1 7) - Int32.ofNat 1) h.1 (by decide) (by rw [hti]; omega)
  have hti2 : (Int32.ofNat 480).toInt = 480 := by decide
  -- the two numbers
  have two : ∃ x y s2 t2 w', v = Int32.ofNat x ∧ x < 6 ∧ y ≤ 480 ∧ (∀ d, ev g (d + 1) mX9_takeNumber 0 [some (.ref (1 : Nat)), some (.int (Int32.ofNat 0)), some (.int (Int32.ofNat 480)), none, none, none] [] s1 = some (.inl (some (.int (Int32.ofNat y))), s2)) ∧ (∀ d, ev g (d + 1) mX12_readNumber 0 [some (.ref (432 : Nat)), some (.int (Int32.ofNat 0)), some (.int (Int32.ofNat 480)), none, none, none] [] t1 = some (.inl (some (.int w')), t2)) ∧ CQ s1 s2 ∧ Mq t1 t2 ∧ ((w = Int32.ofNat x ∧ w' = Int32.ofNat y ∧ x < 6 ∧ ∃ q, QF B e q s2 t2) ∨ QB B e s2 t2) := by
    rcases e5 with ⟨q, x, x1, x2, x3, x4, x5, x6⟩ | ⟨x4, x5, x6⟩
    · rw [hti] at x3
      obtain ⟨v2, w2, s2, t2, f1, f2, f3, f4, f5⟩ := q_num (g := g) (lo := 0) (hi := Int32.ofNat 480) x6 (by decide) (by decide)
      rcases f5 with ⟨q', y, y1, y2, y3, y4, y5, y6⟩ | ⟨y4, y5, y6⟩
      · rw [hti2] at y3
        subst y4
        exact ⟨x, y, s2, t2, w2, x4, by omega, by omega, f1, f2, f3, f4, Or.inl ⟨x5, y5, by omega, q', y6⟩⟩
      · subst y4
        exact ⟨x, 0, s2, t2, w2, x4, by omega, by omega, f1, f2, f3, f4, Or.inr y6⟩
    · obtain ⟨s2, f1, f2, f3, f4⟩ := q_num' (g := g) (lo := 0) (hi := Int32.ofNat 480) x6 (by decide)
      exact ⟨0, 0, s2, t1, _, x4, by decide, by decide, f1, f2, f3, Mq.rf, Or.inr f4⟩
  obtain ⟨x, y, s2, t2, w', hv, hx6, hy, f1, f2, f3, f4, f5⟩ := two
  subst hv
  have hF1 := e3.fx h.1.1
  have hF2 := f3.fx hF1
  have hG2 := f4.fx (e4.fx h.1.2.1)
  have r1 := h.1.1.u 107 1 154 (by decide +kernel)
  have r0 := hF2.u 107 0 108 (by decide +kernel)
  have hC2 : OfC s2 o := (h.2.1.of (fun b j hb => e3.2 _ _ (by omega))).of (fun b j hb => f3.2 _ _ (by omega))
  have hM2 : OfM t2 o := (h.2.2.1.of (fun b j hb => e4.2 _ _ (by omega))).of (fun b j hb => f4.2 _ _ (by omega))
  obtain ⟨a1, a2, hDI⟩ := hC2
  obtain ⟨b1, b2, b3, b4, b5⟩ := hM2
  have hins := d_insert (g := g) (d := d + 1) (p := x) (m := y) hF2 (by decide) hDI hn24 (by omega) (by omega)
  have hDI2 := DI_ins hDI hn24 hy hx6
  generalize hqq : insP o.2.2.2.2 y o.2.2.1 = q at *
  have hcl : ev g (d + 4) mX8_readNumbers 0 [some (.ref (107 : Nat)), some (.int (Int32.ofNat 8)), some (.ref (1 : Nat))] [] s = some (.inl none, pI (insS s2 (108 + 3 + 0) (108 + 25 + 0) q o.2.2.1 x y) (108 + 1) 0 (Int32.ofNat (o.2.2.1 + 1))) := by
    have td := fun d => c8_told7 (g := g) (d := d) (i := 7) h.1.1 (by decide)
    simp (disch := first | exact jm_lt0 | (apply jm_ltx; (repeat (first | exact jw_0 | apply jw_i | apply jw_r | apply jw_l)); omega) | omega | assumption | exact sa_107 | exact sa_154 | exact sa_1 | exact sa_108 | exact n32_inA sb_107 (by omega) (by omega) | exact n32_inA sb_154 (by omega) (by omega) | exact n32_inA sb_1 (by omega) (by omega) | exact n32_inA sb_108 (by omega) (by omega) | (refine n32_inA (by assumption) ?_ ?_ <;> omega) | exact bi01 | (rw [sa_107]; omega) | (rw [sa_154]; omega) | (rw [sa_1]; omega) | (rw [sa_108]; omega) | decide) only [sX8_readNumbers_0, sX8_readNumbers_1, kX8_readNumbers_48_AIA, sX8_readNumbers_48, sX8_readNumbers_49, sX8_readNumbers_50, sX8_readNumbers_51, sX8_readNumbers_52, sX8_readNumbers_54, sX8_readNumbers_57, sX8_readNumbers_60, kX8_readNumbers_63_AIA, sX8_readNumbers_63, sX8_readNumbers_64, sX8_readNumbers_65, sX8_readNumbers_68, kX8_readNumbers_71_AIA, sX8_readNumbers_71, sX8_readNumbers_72, sX8_readNumbers_73, sX8_readNumbers_74, sX8_readNumbers_75, sX8_readNumbers_76, sX8_readNumbers_79, sX8_readNumbers_82, kX8_readNumbers_85_AIA, sX8_readNumbers_85, sX8_readNumbers_86, sX8_readNumbers_87, sX8_readNumbers_88, sX8_readNumbers_89, sX8_readNumbers_91, sX8_readNumbers_94, sX8_readNumbers_97, kX8_readNumbers_100_AIA, sX8_readNumbers_100, sX8_readNumbers_101, sX8_readNumbers_102, sX8_readNumbers_103, sX8_readNumbers_104, sX8_readNumbers_106, sX8_readNumbers_109, sX8_readNumbers_112, kX8_readNumbers_115_AIA, sX8_readNumbers_115, sX8_readNumbers_116, sX8_readNumbers_118, sX8_readNumbers_119, sX8_readNumbers_120, sX8_readNumbers_122, sX8_readNumbers_125, sX8_readNumbers_128, kX8_readNumbers_131_AIA, sX8_readNumbers_131, sX8_readNumbers_132, sX8_readNumbers_133, sX8_readNumbers_136, kX8_readNumbers_139_AIA, sX8_readNumbers_139, sX8_readNumbers_140, sX8_readNumbers_142, sX8_readNumbers_143, sX8_readNumbers_145, sX8_readNumbers_148, sX8_readNumbers_149, sX8_readNumbers_150, sX8_readNumbers_153, kX8_readNumbers_156_AIA, sX8_readNumbers_156, sX8_readNumbers_157, sX8_readNumbers_158, kX8_readNumbers_161_ANA, kX8_readNumbers_161_ANN, sX8_readNumbers_161, sX8_readVisit_0, sX8_readVisit_1, sX8_readVisit_2, sX8_readVisit_3, sX8_readVisit_5, sX8_readVisit_8, sX8_readVisit_9, sX8_readVisit_10, sX8_readVisit_13, sX8_readVisit_14, sX8_readVisit_15, sX8_readVisit_16, sX8_readVisit_19, sX8_readVisit_22, sX8_readVisit_23, sX8_readVisit_24, sX8_readVisit_27, sX8_readVisit_28, sX8_readVisit_29, sX8_readVisit_32, sX8_readVisit_33, evK_n, evK_v, evK_x, gI_pI, gJ_pI, gR_pI, gI_pJ, gJ_pJ, gR_pJ, gI_pR, gJ_pR, gR_pR, if_true, if_false, not_true_eq_false, not_false_eq_true, and_true, true_and, and_false, false_and, and_self, or_true, true_or, or_false, false_or, or_self, ne_eq, Decidable.not_not, Nat.reduceEqDiff, Nat.reduceEqDiff, sa_107, sb_107, sa_154, sb_154, sa_1, sb_1, sa_108, sb_108, n32_le, n32_lt, n32_add, n32_mul, n32_cl, n32_eq, Nat.reduceEqDiff, td, a7, e1, f1, r0, hins]
  have hfr : OfF s (pI (insS s2 (108 + 3 + 0) (108 + 25 + 0) q o.2.2.1 x y) (108 + 1) 0 (Int32.ofNat (o.2.2.1 + 1))) := by
    refine (e3.off.tr f3.off).tr ⟨rfl, fun b j h1 h2 => ?_⟩
    rw [gI_pI, if_neg (by omega), insS_of (by decide) (by omega) (by omega)]
  have hfx2 : ∀ b j, ¬ (108 ≤ b ∧ b ≤ 155) → gI (pI (insS s2 (108 + 3 + 0) (108 + 25 + 0) q o.2.2.1 x y) (108 + 1) 0 (Int32.ofNat (o.2.2.1 + 1))) b j = gI s2 b j := fun b j hb => by
    rw [gI_pI, if_neg (by omega), insS_of (by decide) (by omega) (by omega)]
  rcases f5 with ⟨w1, w2, -, q', hQ⟩ | hb
  · subst w1
    subst w2
    have c := hQ.2.2.2.2.2
    have r12 := hG2.u 432 12 437 (by decide +kernel)
    have r13 := hG2.u 432 13 438 (by decide +kernel)
    have hMv : ∀ v, v < o.2.2.1 → gI t2 438 v = Int32.ofNat (o.2.2.2.2 v) ∧ o.2.2.2.2 v ≤ 480 := fun v hv => ⟨(b5 v hv).2, (hDI.2.2.2.2 v hv).2.2⟩
    have hput := m_puts (g := g) (d := d + 4) (p := x) (m := y) (rw := 437) (rm := 438) (s := t2) (by decide +kernel) (by decide +kernel) (by decide +kernel) (by decide +kernel) (by decide) hn24 (by omega) hMv
    rw [hqq] at hput
    have e16 : gI t1 432 16 = Int32.ofNat (o.1 7) := by rw [e4.2 _ _ (by omega), b7]
    refine ⟨_, pI (insS t2 438 437 q o.2.2.1 y x) 432 17 (Int32.ofNat (o.2.2.1 + 1)), hcl, ?_, hfr, (e4.og.tr f4.og).tr ⟨rfl, fun b j h1 h2 => by rw [gI_pI, if_neg (by omega), insS_of (by decide) (by omega) (by omega)]⟩, Or.inl ⟨q', (o.1, o.2.1, o.2.2.1 + 1, insF o.2.2.2.1 q x, insF o.2.2.2.2 q y), ?_, ⟨fun i hi => ?_, fun i hi => ?_, hDI2⟩, ⟨fun i hi => ?_, fun i hi => ?_, ?_, ?_, fun u hu => ?_⟩, ⟨o1, o2, o3, o4, o5, o6, o7, o8, o9⟩, o10⟩⟩
    · have g17 : gI (insS t2 438 437 q o.2.2.1 y x) 432 17 = Int32.ofNat o.2.2.1 := by rw [insS_of (by decide) (by decide) (by decide), b4]
      rw [z0]
      simp (disch := first | exact jm_lt0 | (apply jm_ltx; (repeat (first | exact jw_0 | apply jw_i | apply jw_r | apply jw_l)); omega) | omega | assumption | exact sa_432 | exact n32_inA sb_432 (by omega) (by omega) | (refine n32_inA (by assumption) ?_ ?_ <;> omega) | exact bi01 | (rw [sa_432]; omega) | decide) only [sX12_readClause_0, sX12_readClause_1, sX12_readClause_3, sX12_readClause_6, sX12_readClause_7, sX12_readClause_10, sX12_readClause_11, sX12_readClause_12, sX12_readClause_13, sX12_readClause_15, sX12_readClause_18, sX12_readClause_19, sX12_readClause_22, sX12_readClause_23, sX12_readClause_25, sX12_readClause_28, sX12_readClause_31, sX12_readClause_32, sX12_readClause_33, sX12_readClause_34, sX12_readClause_37, sX12_readClause_38, sX12_readClause_39, sX12_readClause_42, sX12_readClause_43, sX12_readClause_44, sX12_readClause_45, sX12_readClause_46, sX12_readClause_49, sX12_readClause_50, sX12_readClause_51, sX12_readClause_52, sX12_readClause_53, sX12_readClause_56, sX12_readClause_57, sX12_readClause_58, sX12_readClause_61, sX12_readClause_64, kX12_readClause_65_AIII, sX12_readClause_65, sX12_readClause_66, sX12_readClause_69, sX12_readClause_70, sX12_readClause_71, sX12_readClause_72, sX12_readClause_73, sX12_readClause_76, sX12_readClause_77, sX12_readClause_78, sX12_readClause_79, sX12_readClause_82, sX12_readClause_83, sX12_readClause_85, sX12_readClause_88, sX12_readClause_91, sX12_readClause_92, sX12_readClause_95, sX12_readClause_96, sX12_readClause_97, sX12_readClause_98, sX12_readClause_99, sX12_readClause_102, sX12_readClause_103, sX12_readClause_106, sX12_readClause_107, sX12_readClause_109, sX12_readClause_112, sX12_readClause_115, sX12_readClause_116, sX12_readClause_119, sX12_readClause_120, sX12_readClause_121, sX12_readClause_122, sX12_readClause_124, sX12_readClause_127, sX12_readClause_128, sX12_readClause_131, sX12_readClause_132, sX12_readClause_134, sX12_readClause_137, sX12_readClause_140, sX12_readClause_141, sX12_readClause_144, sX12_readClause_145, sX12_readClause_146, sX12_readClause_147, sX12_readClause_149, sX12_readClause_152, sX12_readClause_153, sX12_readClause_156, sX12_readClause_157, sX12_readClause_159, sX12_readClause_162, sX12_readClause_165, sX12_readClause_166, sX12_readClause_169, sX12_readClause_171, sX12_readClause_172, sX12_readClause_173, sX12_readClause_175, sX12_readClause_178, sX12_readClause_179, sX12_readClause_182, sX12_readClause_183, sX12_readClause_185, sX12_readClause_188, sX12_readClause_191, sX12_readClause_192, kX12_readClause_193_AIIN, sX12_readClause_194, sX12_readClause_195, sX12_readClause_198, sX12_readClause_199, sX12_readClause_202, sX12_readClause_204, sX12_readClause_205, sX12_readClause_206, sX12_readClause_207, sX12_readClause_208, sX12_readClause_210, sX12_readClause_213, sX12_readClause_214, sX12_readClause_217, kX12_readClause_220_ANIN, sX12_readClause_220, sX12_readClause_223, sX12_readClause_224, sX12_readClause_226, sX12_readClause_229, sX12_readClause_232, sX12_readClause_233, sX12_readClause_234, sX12_readClause_237, sX12_readClause_238, sX12_readClause_239, sX12_readClause_242, kX12_readClause_245_AINN, sX12_readClause_245, sX12_readClause_246, sX12_readClause_247, sX12_readClause_248, sX12_readClause_251, sX12_readClause_252, sX12_readClause_253, sX12_readClause_256, sX12_readClause_257, sX12_readClause_258, sX12_readClause_259, sX12_readClause_262, sX12_readClause_265, sX12_readClause_266, sX12_readClause_267, sX12_readClause_270, sX12_readClause_273, sX12_readClause_274, sX12_readClause_275, sX12_readClause_276, sX12_readClause_279, sX12_readClause_280, sX12_readClause_283, sX12_readClause_284, sX12_readClause_287, sX12_readClause_288, sX12_readClause_289, sX12_readClause_292, sX12_readClause_293, sX12_readClause_294, sX12_readClause_295, sX12_readClause_298, sX12_readClause_299, sX12_readClause_300, kX12_readClause_303_AINN, kX12_readClause_303_ANII, sX12_readClause_303, evK_n, evK_v, evK_x, gI_pI, gJ_pI, gR_pI, gI_pJ, gJ_pJ, gR_pJ, gI_pR, gJ_pR, gR_pR, if_true, if_false, not_true_eq_false, not_false_eq_true, and_true, true_and, and_false, false_and, and_self, or_true, true_or, or_false, false_or, or_self, ne_eq, Decidable.not_not, Nat.reduceEqDiff, Nat.reduceEqDiff, sa_432, sb_432, n32_le, n32_lt, n32_add, n32_mul, n32_cl, of2, of3, of4, of5, of6, of7, of8, z1, z2, z3, z4, z5, z6, z7, z8, b7, e2, f2, m_fine, c, bi_ne, bi_eq, r12, r13, b4, hput, g17]
    · exact hQ.of ⟨rfl, fun b j hb => hfx2 b j (by omega)⟩ ⟨rfl, fun b j hb => by rw [gI_pI, if_neg (by omega), insS_of (by decide) (by omega) (by omega)]⟩
    · rw [gI_pI, if_neg (by omega), insS_of (by decide) (by omega) (by omega), a1 i hi]
    · rw [gI_pI, if_neg (by omega), insS_of (by decide) (by omega) (by omega), a2 i hi]
    · rw [gI_pI, if_neg (by omega), insS_of (by decide) (by omega) (by omega), b1 i hi]
    · rw [gI_pI, if_neg (by omega), insS_of (by decide) (by omega) (by omega), b2 i hi]
    · rw [gI_pI, if_neg (by omega), insS_of (by decide) (by omega) (by omega), b3]
    · rw [gI_pI, if_pos ⟨rfl, rfl⟩]
    · have hq := insP_le o.2.2.2.2 y o.2.2.1
      rw [hqq] at hq
      rw [gI_pI, if_neg (by omega), gI_pI, if_neg (by omega), insS_gI (by decide), insS_gI (by decide)]
      unfold insF
      dsimp only at hu ⊢
      refine ⟨?_, ?_⟩
      · by_cases c1 : u < q
        · rw [if_neg (by omega), if_neg (by omega), if_neg (by omega), if_pos c1]
          exact (b5 u (by omega)).1
        · by_cases c2 : u = q
          · rw [if_neg (by omega), if_pos ⟨rfl, c2⟩, if_neg c1, if_pos c2]
          · rw [if_neg (by omega), if_neg (by omega), if_pos ⟨Or.inr rfl, by omega, by omega⟩, if_neg c1, if_neg c2]
            exact (b5 (u - 1) (by omega)).1
      · by_cases c1 : u < q
        · rw [if_neg (by omega), if_neg (by omega), if_neg (by omega), if_pos c1]
          exact (b5 u (by omega)).2
        · by_cases c2 : u = q
          · rw [if_pos ⟨rfl, c2⟩, if_neg c1, if_pos c2]
          · rw [if_neg (by omega), if_neg (by omega), if_pos ⟨Or.inl rfl, by omega, by omega⟩, if_neg c1, if_neg c2]
            exact (b5 (u - 1) (by omega)).2
  · have c := hb.2.2.2.2.2.1
    refine ⟨_, t2, hcl, ?_, hfr, e4.og.tr f4.og, Or.inr ?_⟩
    · rw [z0]
      simp (disch := first | exact jm_lt0 | (apply jm_ltx; (repeat (first | exact jw_0 | apply jw_i | apply jw_r | apply jw_l)); omega) | omega | assumption | exact sa_432 | exact n32_inA sb_432 (by omega) (by omega) | (refine n32_inA (by assumption) ?_ ?_ <;> omega) | exact bi01 | (rw [sa_432]; omega) | decide) only [sX12_readClause_0, sX12_readClause_1, sX12_readClause_3, sX12_readClause_6, sX12_readClause_7, sX12_readClause_10, sX12_readClause_11, sX12_readClause_12, sX12_readClause_13, sX12_readClause_15, sX12_readClause_18, sX12_readClause_19, sX12_readClause_22, sX12_readClause_23, sX12_readClause_25, sX12_readClause_28, sX12_readClause_31, sX12_readClause_32, sX12_readClause_33, sX12_readClause_34, sX12_readClause_37, sX12_readClause_38, sX12_readClause_39, sX12_readClause_42, sX12_readClause_43, sX12_readClause_44, sX12_readClause_45, sX12_readClause_46, sX12_readClause_49, sX12_readClause_50, sX12_readClause_51, sX12_readClause_52, sX12_readClause_53, sX12_readClause_56, sX12_readClause_57, sX12_readClause_58, sX12_readClause_61, sX12_readClause_64, kX12_readClause_65_AIII, sX12_readClause_65, sX12_readClause_66, sX12_readClause_69, sX12_readClause_70, sX12_readClause_71, sX12_readClause_72, sX12_readClause_73, sX12_readClause_76, sX12_readClause_77, sX12_readClause_78, sX12_readClause_79, sX12_readClause_82, sX12_readClause_83, sX12_readClause_85, sX12_readClause_88, sX12_readClause_91, sX12_readClause_92, sX12_readClause_95, sX12_readClause_96, sX12_readClause_97, sX12_readClause_98, sX12_readClause_99, sX12_readClause_102, sX12_readClause_103, sX12_readClause_106, sX12_readClause_107, sX12_readClause_109, sX12_readClause_112, sX12_readClause_115, sX12_readClause_116, sX12_readClause_119, sX12_readClause_120, sX12_readClause_121, sX12_readClause_122, sX12_readClause_124, sX12_readClause_127, sX12_readClause_128, sX12_readClause_131, sX12_readClause_132, sX12_readClause_134, sX12_readClause_137, sX12_readClause_140, sX12_readClause_141, sX12_readClause_144, sX12_readClause_145, sX12_readClause_146, sX12_readClause_147, sX12_readClause_149, sX12_readClause_152, sX12_readClause_153, sX12_readClause_156, sX12_readClause_157, sX12_readClause_159, sX12_readClause_162, sX12_readClause_165, sX12_readClause_166, sX12_readClause_169, sX12_readClause_171, sX12_readClause_172, sX12_readClause_173, sX12_readClause_175, sX12_readClause_178, sX12_readClause_179, sX12_readClause_182, sX12_readClause_183, sX12_readClause_185, sX12_readClause_188, sX12_readClause_191, sX12_readClause_192, kX12_readClause_193_AIIN, sX12_readClause_194, sX12_readClause_195, sX12_readClause_198, sX12_readClause_199, sX12_readClause_202, sX12_readClause_204, sX12_readClause_205, sX12_readClause_206, sX12_readClause_207, sX12_readClause_208, sX12_readClause_210, sX12_readClause_213, sX12_readClause_214, sX12_readClause_217, kX12_readClause_220_ANIN, sX12_readClause_220, sX12_readClause_223, sX12_readClause_224, sX12_readClause_226, sX12_readClause_229, sX12_readClause_232, sX12_readClause_233, sX12_readClause_234, sX12_readClause_237, sX12_readClause_238, sX12_readClause_239, sX12_readClause_242, kX12_readClause_245_AINN, sX12_readClause_245, sX12_readClause_246, sX12_readClause_247, sX12_readClause_248, sX12_readClause_251, sX12_readClause_252, sX12_readClause_253, sX12_readClause_256, sX12_readClause_257, sX12_readClause_258, sX12_readClause_259, sX12_readClause_262, sX12_readClause_265, sX12_readClause_266, sX12_readClause_267, sX12_readClause_270, sX12_readClause_273, sX12_readClause_274, sX12_readClause_275, sX12_readClause_276, sX12_readClause_279, sX12_readClause_280, sX12_readClause_283, sX12_readClause_284, sX12_readClause_287, sX12_readClause_288, sX12_readClause_289, sX12_readClause_292, sX12_readClause_293, sX12_readClause_294, sX12_readClause_295, sX12_readClause_298, sX12_readClause_299, sX12_readClause_300, kX12_readClause_303_AINN, kX12_readClause_303_ANII, sX12_readClause_303, evK_n, evK_v, evK_x, gI_pI, gJ_pI, gR_pI, gI_pJ, gJ_pJ, gR_pJ, gI_pR, gJ_pR, gR_pR, if_true, if_false, not_true_eq_false, not_false_eq_true, and_true, true_and, and_false, false_and, and_self, or_true, true_or, or_false, false_or, or_self, ne_eq, Decidable.not_not, Nat.reduceEqDiff, Nat.reduceEqDiff, sa_432, sb_432, n32_le, n32_lt, n32_add, n32_mul, n32_cl, of2, of3, of4, of5, of6, of7, of8, z1, z2, z3, z4, z5, z6, z7, z8, b7, e2, f2, m_fine, c, bi_ne, bi_eq]
    · obtain ⟨b, hb3⟩ := hb.2.2.1
      obtain ⟨b', hb4⟩ := hb.2.2.2.1
      exact hb.of ⟨rfl, fun b j hbj => hfx2 b j (by omega)⟩ ⟨b, hb3.2.2.1, by rw [hfx2 _ _ (by omega)]; exact hb3.2.1⟩ ⟨rfl, fun _ _ _ => rfl⟩ ⟨b', hb4.2.2.1, hb4.2.1⟩
end ON2
