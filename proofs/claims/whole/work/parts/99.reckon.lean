/-! the class: a reckoning is made where it isn't known -/
theorem OS.of {s s' : fm_S} {D : Nat → Nat} (h : OS s D) (e1 : ∀ b j, 316 ≤ b ∧ b ≤ 321 → gI s' b j = gI s b j ∧ gJ s' b j = gJ s b j) (e2 : ∀ j, j = 8 ∨ j = 9 → gR s' 307 j = gR s 307 j) : OS s' D := by
  obtain ⟨A, A', l, o1, o2, o3⟩ := h
  obtain ⟨a1, a2, a3⟩ := od_A o1
  exact ⟨A, A', l, ⟨by rw [e2 _ (Or.inl rfl), o1.1], by rw [e2 _ (Or.inr rfl), o1.2.1], o1.2.2⟩, o2.of (e1 _ _ (by omega)).1 (fun j => (e1 _ _ (by omega)).1) (fun j => (e1 _ _ (by omega)).2), o3.of (e1 _ _ (by omega)).1 (fun j => (e1 _ _ (by omega)).1) (fun j => (e1 _ _ (by omega)).2)⟩
theorem c6_reckon {g : fm_g} {d ch de ver : Nat} {w : WD} {s : fm_S} (hF : FX s) (hB : OB s) (hC : CW s w) (hw : wOK w) (hL : LG s w ver) (hc : cOK ch de) : ∃ s', ev g (d + 5) mX6_reckon 0 [some (.ref (306 : Nat)), some (.ref (3 : Nat)), some (.int (Int32.ofNat ch)), some (.int (Int32.ofNat de)), none, none, none] [] s = some (.inl (some (.int (Int32.ofNat (ch * 36 + de)))), s') ∧ RM p9 q9 r9 s s' ∧ OB s' ∧ LG s' w ver ∧ gI s' 322 (ch * 36 + de) = Int32.ofNat ver := by
  obtain ⟨hT, D, hO⟩ := hB
  have hL' := hL
  obtain ⟨l1, l2, l3, l4, l5, l6, l7⟩ := hL'
  have hcd : ch < 7 ∧ de < 36 := by unfold cOK at hc; omega
  have hn : wn w ≤ 24 := hw.2.2.1
  have ho := opt_ok hw hc
  have r2 := hF.u 306 2 322 (by decide +kernel)
  have g1 : ¬ 252 ≤ ch * 36 + de := by omega
  have hslot : ch * 36 + de < 252 := by omega
  by_cases ck : gI s 322 (ch * 36 + de) = Int32.ofNat ver
  · refine ⟨s, ?_, RM.rf, ⟨hT, D, hO⟩, hL, ck⟩
    simp (disch := first | exact jm_lt0 | (apply jm_ltx; (repeat (first | exact jw_0 | apply jw_i | apply jw_r | apply jw_l)); omega) | omega | assumption | exact sa_306 | exact sa_322 | exact n32_inA sb_306 (by omega) (by omega) | exact n32_inA sb_322 (by omega) (by omega) | (refine n32_inA (by assumption) ?_ ?_ <;> omega) | exact bi01 | (rw [sa_306]; omega) | (rw [sa_322]; omega) | decide) only [sX6_reckon_0, sX6_reckon_1, sX6_reckon_3, sX6_reckon_4, sX6_reckon_5, sX6_reckon_6, sX6_reckon_8, sX6_reckon_10, sX6_reckon_13, sX6_reckon_15, sX6_reckon_18, sX6_reckon_21, sX6_reckon_22, sX6_reckon_25, sX6_reckon_27, sX6_reckon_28, sX6_reckon_29, sX6_reckon_32, kX6_reckon_35_AAIIINN, sX6_reckon_35, sX6_reckon_37, sX6_reckon_38, sX6_reckon_39, sX6_reckon_42, sX6_reckon_44, sX6_reckon_45, sX6_reckon_48, sX6_reckon_49, sX6_reckon_50, sX6_reckon_51, sX6_reckon_54, sX6_reckon_55, sX6_reckon_58, sX6_reckon_60, sX6_reckon_63, sX6_reckon_64, kX6_reckon_66_AAIIIAI, sX6_reckon_68, sX6_reckon_70, sX6_reckon_73, sX6_reckon_75, sX6_reckon_77, sX6_reckon_80, sX6_reckon_83, sX6_reckon_86, sX6_reckon_87, sX6_reckon_90, sX6_reckon_92, sX6_reckon_94, sX6_reckon_97, sX6_reckon_100, sX6_reckon_101, sX6_reckon_104, sX6_reckon_106, sX6_reckon_108, sX6_reckon_111, sX6_reckon_112, sX6_reckon_115, sX6_reckon_117, sX6_reckon_120, sX6_reckon_122, sX6_reckon_125, sX6_reckon_128, sX6_reckon_129, sX6_reckon_132, sX6_reckon_133, sX6_reckon_136, sX6_reckon_137, sX6_reckon_140, sX6_reckon_142, sX6_reckon_143, sX6_reckon_146, sX6_reckon_147, sX6_reckon_150, sX6_reckon_152, sX6_reckon_153, sX6_reckon_156, sX6_reckon_157, sX6_reckon_160, sX6_reckon_162, sX6_reckon_163, sX6_reckon_166, sX6_reckon_167, sX6_reckon_170, kX6_reckon_173_ANINIAI, sX6_reckon_173, sX6_reckon_174, sX6_reckon_177, sX6_reckon_178, kX6_reckon_181_ANINIAN, sX6_reckon_181, sX6_reckon_182, sX6_reckon_185, sX6_reckon_187, sX6_reckon_188, sX6_reckon_191, sX6_reckon_194, sX6_reckon_195, sX6_reckon_196, sX6_reckon_199, sX6_reckon_201, sX6_reckon_202, sX6_reckon_205, sX6_reckon_207, sX6_reckon_210, sX6_reckon_211, sX6_reckon_212, sX6_reckon_215, sX6_reckon_217, sX6_reckon_218, sX6_reckon_221, sX6_reckon_222, sX6_reckon_224, evK_n, evK_v, evK_x, gI_pI, gJ_pI, gR_pI, gI_pJ, gJ_pJ, gR_pJ, gI_pR, gJ_pR, gR_pR, n32_le, n32_lt, n32_add, n32_mul, n32_cl, if_true, if_false, not_true_eq_false, not_false_eq_true, and_true, true_and, and_false, false_and, and_self, or_true, true_or, or_false, false_or, or_self, ne_eq, Decidable.not_not, Nat.reduceEqDiff, Nat.reduceEqDiff, sa_306, sb_306, sa_322, sb_322, n32_lt0, g1, r2, ck, l1]
  · -- it is made
    obtain ⟨s1, e1, hM1, hP1⟩ := c7_plan (g := g) (d := d + 3) hF hC hw hc
    have hF1 : FX s1 := hM1.fx hF (fun b j h => Or.inr h)
    have hC1 : CW s1 w := hC.of hw (fun b j hb => hM1.2.1 b j (fun q => hb (by unfold pPl at q; unfold TC; omega)))
    have hO1 : OS s1 D := hO.of (fun b j hb => ⟨hM1.2.1 _ _ (by unfold pPl; omega), hM1.2.2.1 _ _ (fun h => h)⟩) (fun j hj => hM1.2.2.2 _ _ (by unfold rD; omega))
    have hT1 : TB s1 := hT.of (fun j => ⟨hM1.2.1 _ _ (by unfold pPl; omega), hM1.2.1 _ _ (by unfold pPl; omega)⟩)
    obtain ⟨s2, e2, hM2, hZ2⟩ := c7_setOut (g := g) (d := d + 2) hF1 hO1 hC1 hw
    have hF2 := hM2.fxs hF1
    have hC2 := hC1.N hw hM2
    have hT2 := hT1.N hM2
    have hP2 := hP1.rm hM2
    obtain ⟨s3, e3, hM3, hZ3, hR3, hX3⟩ := c6_goLoop (g := g) (d := d) (slot := ch * 36 + de) hF2 hT2 hC2 hw hc hP2 (wn w) 0 s2 (by omega) RM.rf hZ2 (fun _ u hu => by omega) (fun _ => RM.rf)
    have hF3 := hM3.fxs hF2
    have hT3 := hT2.G hM3
    have hC3 := hC2.of hw (fun b j hb => hM3.2.1 b j (fun q => hb (pG_TC q)))
    obtain ⟨z1, z2, z3⟩ := go_ok hw ho (wn w) (Nat.le_refl _)
    -- counts are kept
    have stepK : ∃ s4, ev g (d + 5) mX6_reckon 173 [some (.ref (306 : Nat)), none, some (.int (Int32.ofNat ch)), none, some (.int (Int32.ofNat (ch * 36 + de))), some (.ref (4 : Nat)), none] [] s3 = ev g (d + 5) mX6_reckon 181 [some (.ref (306 : Nat)), none, none, none, some (.int (Int32.ofNat (ch * 36 + de))), some (.ref (4 : Nat)), none] [] s4 ∧ FM nO qK s3 s4 ∧ (ch ≠ 0 → s4 = s3) ∧ (ch = 0 → (∀ p, p < 6 → gJ s4 376 p = gJ s3 314 p) ∧ gJ s4 306 9 = gJ s3 307 6 ∧ gJ s4 306 10 = gJ s3 307 7) := by
      by_cases c0 : ch = 0
      · obtain ⟨s4, k1, k2, k3⟩ := c6_keepCounts (g := g) (d := d + 3) hF3
        refine ⟨s4, ?_, k2, fun h => absurd c0 h, fun _ => k3⟩
        subst c0
        simp (disch := first | exact jm_lt0 | (apply jm_ltx; (repeat (first | exact jw_0 | apply jw_i | apply jw_r | apply jw_l)); omega) | omega | assumption | exact sa_306 | exact n32_inA sb_306 (by omega) (by omega) | (refine n32_inA (by assumption) ?_ ?_ <;> omega) | exact bi01 | (rw [sa_306]; omega) | decide) only [sX6_reckon_0, sX6_reckon_1, sX6_reckon_3, sX6_reckon_4, sX6_reckon_5, sX6_reckon_6, sX6_reckon_8, sX6_reckon_10, sX6_reckon_13, sX6_reckon_15, sX6_reckon_18, sX6_reckon_21, sX6_reckon_22, sX6_reckon_25, sX6_reckon_27, sX6_reckon_28, sX6_reckon_29, sX6_reckon_32, kX6_reckon_35_AAIIINN, sX6_reckon_35, sX6_reckon_37, sX6_reckon_38, sX6_reckon_39, sX6_reckon_42, sX6_reckon_44, sX6_reckon_45, sX6_reckon_48, sX6_reckon_49, sX6_reckon_50, sX6_reckon_51, sX6_reckon_54, sX6_reckon_55, sX6_reckon_58, sX6_reckon_60, sX6_reckon_63, sX6_reckon_64, kX6_reckon_66_AAIIIAI, sX6_reckon_68, sX6_reckon_70, sX6_reckon_73, sX6_reckon_75, sX6_reckon_77, sX6_reckon_80, sX6_reckon_83, sX6_reckon_86, sX6_reckon_87, sX6_reckon_90, sX6_reckon_92, sX6_reckon_94, sX6_reckon_97, sX6_reckon_100, sX6_reckon_101, sX6_reckon_104, sX6_reckon_106, sX6_reckon_108, sX6_reckon_111, sX6_reckon_112, sX6_reckon_115, sX6_reckon_117, sX6_reckon_120, sX6_reckon_122, sX6_reckon_125, sX6_reckon_128, sX6_reckon_129, sX6_reckon_132, sX6_reckon_133, sX6_reckon_136, sX6_reckon_137, sX6_reckon_140, sX6_reckon_142, sX6_reckon_143, sX6_reckon_146, sX6_reckon_147, sX6_reckon_150, sX6_reckon_152, sX6_reckon_153, sX6_reckon_156, sX6_reckon_157, sX6_reckon_160, sX6_reckon_162, sX6_reckon_163, sX6_reckon_166, sX6_reckon_167, sX6_reckon_170, kX6_reckon_173_ANINIAI, sX6_reckon_173, sX6_reckon_174, sX6_reckon_177, sX6_reckon_178, kX6_reckon_181_ANINIAN, sX6_reckon_182, sX6_reckon_185, sX6_reckon_187, sX6_reckon_188, sX6_reckon_191, sX6_reckon_194, sX6_reckon_195, sX6_reckon_196, sX6_reckon_199, sX6_reckon_201, sX6_reckon_202, sX6_reckon_205, sX6_reckon_207, sX6_reckon_210, sX6_reckon_211, sX6_reckon_212, sX6_reckon_215, sX6_reckon_217, sX6_reckon_218, sX6_reckon_221, sX6_reckon_222, sX6_reckon_224, evK_n, evK_v, evK_x, gI_pI, gJ_pI, gR_pI, gI_pJ, gJ_pJ, gR_pJ, gI_pR, gJ_pR, gR_pR, n32_le, n32_lt, n32_add, n32_mul, n32_cl, if_true, if_false, not_true_eq_false, not_false_eq_true, and_true, true_and, and_false, false_and, and_self, or_true, true_or, or_false, false_or, or_self, ne_eq, Decidable.not_not, Nat.reduceEqDiff, Nat.reduceEqDiff, sa_306, sb_306, z32, k1]
      · have hc0' : ¬ Int32.ofNat ch = 0 := by rw [n32_eq0 (by omega)]; exact c0
        refine ⟨s3, ?_, FM.rf, fun _ => rfl, fun h => absurd h c0⟩
        simp (disch := first | exact jm_lt0 | (apply jm_ltx; (repeat (first | exact jw_0 | apply jw_i | apply jw_r | apply jw_l)); omega) | omega | assumption | exact sa_306 | exact n32_inA sb_306 (by omega) (by omega) | (refine n32_inA (by assumption) ?_ ?_ <;> omega) | exact bi01 | (rw [sa_306]; omega) | decide) only [sX6_reckon_0, sX6_reckon_1, sX6_reckon_3, sX6_reckon_4, sX6_reckon_5, sX6_reckon_6, sX6_reckon_8, sX6_reckon_10, sX6_reckon_13, sX6_reckon_15, sX6_reckon_18, sX6_reckon_21, sX6_reckon_22, sX6_reckon_25, sX6_reckon_27, sX6_reckon_28, sX6_reckon_29, sX6_reckon_32, kX6_reckon_35_AAIIINN, sX6_reckon_35, sX6_reckon_37, sX6_reckon_38, sX6_reckon_39, sX6_reckon_42, sX6_reckon_44, sX6_reckon_45, sX6_reckon_48, sX6_reckon_49, sX6_reckon_50, sX6_reckon_51, sX6_reckon_54, sX6_reckon_55, sX6_reckon_58, sX6_reckon_60, sX6_reckon_63, sX6_reckon_64, kX6_reckon_66_AAIIIAI, sX6_reckon_68, sX6_reckon_70, sX6_reckon_73, sX6_reckon_75, sX6_reckon_77, sX6_reckon_80, sX6_reckon_83, sX6_reckon_86, sX6_reckon_87, sX6_reckon_90, sX6_reckon_92, sX6_reckon_94, sX6_reckon_97, sX6_reckon_100, sX6_reckon_101, sX6_reckon_104, sX6_reckon_106, sX6_reckon_108, sX6_reckon_111, sX6_reckon_112, sX6_reckon_115, sX6_reckon_117, sX6_reckon_120, sX6_reckon_122, sX6_reckon_125, sX6_reckon_128, sX6_reckon_129, sX6_reckon_132, sX6_reckon_133, sX6_reckon_136, sX6_reckon_137, sX6_reckon_140, sX6_reckon_142, sX6_reckon_143, sX6_reckon_146, sX6_reckon_147, sX6_reckon_150, sX6_reckon_152, sX6_reckon_153, sX6_reckon_156, sX6_reckon_157, sX6_reckon_160, sX6_reckon_162, sX6_reckon_163, sX6_reckon_166, sX6_reckon_167, sX6_reckon_170, kX6_reckon_173_ANINIAI, sX6_reckon_173, sX6_reckon_174, sX6_reckon_177, sX6_reckon_178, kX6_reckon_181_ANINIAN, sX6_reckon_182, sX6_reckon_185, sX6_reckon_187, sX6_reckon_188, sX6_reckon_191, sX6_reckon_194, sX6_reckon_195, sX6_reckon_196, sX6_reckon_199, sX6_reckon_201, sX6_reckon_202, sX6_reckon_205, sX6_reckon_207, sX6_reckon_210, sX6_reckon_211, sX6_reckon_212, sX6_reckon_215, sX6_reckon_217, sX6_reckon_218, sX6_reckon_221, sX6_reckon_222, sX6_reckon_224, evK_n, evK_v, evK_x, gI_pI, gJ_pI, gR_pI, gI_pJ, gJ_pJ, gR_pJ, gI_pR, gJ_pR, gR_pR, n32_le, n32_lt, n32_add, n32_mul, n32_cl, if_true, if_false, not_true_eq_false, not_false_eq_true, and_true, true_and, and_false, false_and, and_self, or_true, true_or, or_false, false_or, or_self, ne_eq, Decidable.not_not, Nat.reduceEqDiff, Nat.reduceEqDiff, sa_306, sb_306, hc0']
    obtain ⟨s4, e4, hM4, hK4, hK4'⟩ := stepK
    have hF4 := hM4.fx hF3
    have hT4 : TB s4 := hT3.of (fun j => ⟨hM4.2.1 _ _ (fun h => h), hM4.2.1 _ _ (fun h => h)⟩)
    have hO4 : OS s4 (zGo w (opt w ch de) (wn w)).1 := hZ3.1.of (fun b j hb => ⟨hM4.2.1 _ _ (fun h => h), hM4.2.2 _ _ (by unfold qK; omega)⟩) (fun j _ => hM4.gR _ _)
    have hN4 : CN s3 s4 := CN.fm hM4 (fun j => by unfold qK; omega) (fun j => by unfold qK; omega)
    have hT4' := hZ3.2.cn hN4
    obtain ⟨s5, e5, hM5⟩ := c7_true (g := g) (d := d + 1) hF4 hT4 hO4 (by rw [z3]; exact Nat.le_refl _)
    have hF5 := hM5.fx hF4
    generalize hs6 : pJ s5 323 (ch * 36 + de) (Int64.ofNat (endS w (opt w ch de))) = s6
    have hF6 : FX s6 := by rw [← hs6]; exact hF5.pJ
    have hC6 : CW s6 w := by
      refine hC3.of hw (fun b j hb => ?_)
      rw [← hs6, gI_pJ, hM5.2.1 _ _ (fun q => hb (by unfold pH at q; unfold TC; omega)), hM4.2.1 _ _ (fun h => h)]
    have hT6 : CT3 s6 (zGo w (opt w ch de) (wn w)).2.1 (zGo w (opt w ch de) (wn w)).2.2.1 (zGo w (opt w ch de) (wn w)).2.2.2 := by
      refine (hT4'.cn (CN.h hM5)).cn ⟨fun j => ?_, fun j => ?_⟩
      · rw [← hs6, gJ_pJ, if_neg (by omega)]
      · rw [← hs6, gJ_pJ, if_neg (by omega)]
    have e6 := c7_cost (g := g) (d := d + 3) hF6 hC6 hw hT6
    have hcost : wP w 0 * sumN (zGo w (opt w ch de) (wn w)).2.1 6 + wP w 1 * (zGo w (opt w ch de) (wn w)).2.2.1 + wP w 2 * (zGo w (opt w ch de) (wn w)).2.2.2 = costS w (opt w ch de) := rfl
    have hend : truS (zGo w (opt w ch de) (wn w)).1 = endS w (opt w ch de) := rfl
    rw [hcost] at e6
    rw [hend] at e5
    generalize hs7 : pI (pJ s6 324 (ch * 36 + de) (Int64.ofNat (costS w (opt w ch de)))) 322 (ch * 36 + de) (Int32.ofNat ver) = s7
    -- what has changed
    have iI : ∀ b j, ¬ (p9 b j) → gI s7 b j = gI s b j := fun b j hb => by
      rw [← hs7, gI_pI, if_neg (fun q => hb (by unfold p9; omega)), gI_pJ, ← hs6, gI_pJ, hM5.2.1 _ _ (fun q => hb (by unfold pH at q; unfold p9; omega)), hM4.2.1 _ _ (fun h => h), hM3.2.1 _ _ (fun q => hb (pG_9 q)), hM2.2.1 _ _ (fun q => hb (pG_9 (Or.inl q))), hM1.2.1 _ _ (fun q => hb (by unfold pPl at q; unfold p9; omega))]
    have iJ : ∀ b j, ¬ (q9 b j) → gJ s7 b j = gJ s b j := fun b j hb => by
      rw [← hs7, gJ_pI, gJ_pJ, if_neg (fun q => hb (by unfold q9; omega)), ← hs6, gJ_pJ, if_neg (fun q => hb (by unfold q9; omega)), hM5.2.2 _ _ (fun h => h), hM4.2.2 _ _ (fun q => hb (by unfold qK at q; unfold q9; omega)), hM3.2.2.1 _ _ (fun q => hb (qG_9 q)), hM2.2.2.1 _ _ (fun q => hb (qG_9 (Or.inl q))), hM1.2.2.1 _ _ (fun h => h)]
    have iR : ∀ b j, ¬ (r9 b j) → gR s7 b j = gR s b j := fun b j hb => by
      have e7 : gR s7 b j = gR s5 b j := by rw [← hs7, ← hs6]; rfl
      rw [e7, hM5.gR, hM4.gR, hM3.2.2.2 _ _ (fun q => hb (Or.inl q)), hM2.2.2.2 _ _ (fun q => hb (Or.inl q)), hM1.2.2.2 _ _ (fun q => hb (Or.inr q))]
    have iX : s7.2.2.2 = s.2.2.2 := by
      have e7 : s7.2.2.2 = s5.2.2.2 := by rw [← hs7, ← hs6]; rfl
      rw [e7, hM5.1, hM4.1, hM3.1, hM2.1, hM1.1]
    have i306 : ∀ j, gI s7 306 j = gI s 306 j := fun j => by
      rw [← hs7, gI_pI, if_neg (by omega), gI_pJ, ← hs6, gI_pJ, hM5.2.1 _ _ (by unfold pH; omega), hM4.2.1 _ _ (fun h => h), hM3.2.1 _ _ (by unfold pG pN pO pE HSK; omega), hM2.2.1 _ _ (by unfold pN pO pE HSK; omega), hM1.2.1 _ _ (by unfold pPl; omega)]
    have i322 : ∀ j, j ≠ ch * 36 + de → gI s7 322 j = gI s 322 j := fun j hj => by
      rw [← hs7, gI_pI, if_neg (by omega), gI_pJ, ← hs6, gI_pJ, hM5.2.1 _ _ (by unfold pH; omega), hM4.2.1 _ _ (fun h => h), hM3.2.1 _ _ (by unfold pG pN pO pE HSK; omega), hM2.2.1 _ _ (by unfold pN pO pE HSK; omega), hM1.2.1 _ _ (by unfold pPl; omega)]
    have j323 : ∀ b j, (b = 323 ∨ b = 324) → j ≠ ch * 36 + de → gJ s7 b j = gJ s b j := fun b j hb hj => by
      rw [← hs7, gJ_pI, gJ_pJ, if_neg (by omega), ← hs6, gJ_pJ, if_neg (by omega), hM5.2.2 _ _ (fun h => h), hM4.2.2 _ _ (by unfold qK; omega), hM3.2.2.1 _ _ (by unfold qG qO; omega), hM2.2.2.1 _ _ (by unfold qO; omega), hM1.2.2.1 _ _ (fun h => h)]
    have jg : ∀ b j, (377 ≤ b ∧ b < 428) ∨ (b = 306 ∧ j = 15) → gJ s7 b j = gJ s b j := fun b j hb => by
      rw [← hs7, gJ_pI, gJ_pJ, if_neg (by omega), ← hs6, gJ_pJ, if_neg (by omega), hM5.2.2 _ _ (fun h => h), hM4.2.2 _ _ (by unfold qK; omega), hM3.2.2.1 _ _ (by unfold qG qO; omega), hM2.2.2.1 _ _ (by unfold qO; omega), hM1.2.2.1 _ _ (fun h => h)]
    have s322 : gI s7 322 (ch * 36 + de) = Int32.ofNat ver := by rw [← hs7]; simp [gI_pI]
    refine ⟨s7, ?_, ⟨iX, iI, iJ, iR⟩, ⟨?_, ?_⟩, ⟨by rw [i306, l1], l2, fun i hi => ?_, by rw [i306]; exact l4, fun ch' de' hc' he => ?_, fun he => ?_, fun he => ?_⟩, s322⟩
    · have r30 := hF.u 3 0 4 (by decide +kernel)
      have r60 := hF.u 306 0 307 (by decide +kernel)
      have r61 := hF1.u 306 0 307 (by decide +kernel)
      have r64 := hF4.u 306 0 307 (by decide +kernel)
      have r43 := hF4.u 306 3 323 (by decide +kernel)
      have r66 := hF6.u 306 0 307 (by decide +kernel)
      have r6c := hF6.u 306 4 324 (by decide +kernel)
      have r62 := hF6.u 306 2 322 (by decide +kernel)
      have h6v : gI s6 306 1 = Int32.ofNat ver := by
        have := i306 1
        rw [← hs7, gI_pI, if_neg (by omega), gI_pJ] at this
        rw [this, l1]
      simp (disch := first | exact jm_lt0 | (apply jm_ltx; (repeat (first | exact jw_0 | apply jw_i | apply jw_r | apply jw_l)); omega) | omega | assumption | exact sa_306 | exact sa_322 | exact sa_3 | exact n32_inA sb_306 (by omega) (by omega) | exact n32_inA sb_322 (by omega) (by omega) | exact n32_inA sb_3 (by omega) (by omega) | (refine n32_inA (by assumption) ?_ ?_ <;> omega) | exact bi01 | (rw [sa_306]; omega) | (rw [sa_322]; omega) | (rw [sa_3]; omega) | decide) only [sX6_reckon_0, sX6_reckon_1, sX6_reckon_3, sX6_reckon_4, sX6_reckon_5, sX6_reckon_6, sX6_reckon_8, sX6_reckon_10, sX6_reckon_13, sX6_reckon_15, sX6_reckon_18, sX6_reckon_21, sX6_reckon_22, sX6_reckon_25, sX6_reckon_27, sX6_reckon_28, sX6_reckon_29, sX6_reckon_32, kX6_reckon_35_AAIIINN, sX6_reckon_35, sX6_reckon_37, sX6_reckon_38, sX6_reckon_39, sX6_reckon_42, sX6_reckon_44, sX6_reckon_45, sX6_reckon_48, sX6_reckon_49, sX6_reckon_50, sX6_reckon_51, sX6_reckon_54, sX6_reckon_55, sX6_reckon_58, sX6_reckon_60, sX6_reckon_63, sX6_reckon_64, kX6_reckon_66_AAIIIAI, sX6_reckon_68, sX6_reckon_70, sX6_reckon_73, sX6_reckon_75, sX6_reckon_77, sX6_reckon_80, sX6_reckon_83, sX6_reckon_86, sX6_reckon_87, sX6_reckon_90, sX6_reckon_92, sX6_reckon_94, sX6_reckon_97, sX6_reckon_100, sX6_reckon_101, sX6_reckon_104, sX6_reckon_106, sX6_reckon_108, sX6_reckon_111, sX6_reckon_112, sX6_reckon_115, sX6_reckon_117, sX6_reckon_120, sX6_reckon_122, sX6_reckon_125, sX6_reckon_128, sX6_reckon_129, sX6_reckon_132, sX6_reckon_133, sX6_reckon_136, sX6_reckon_137, sX6_reckon_140, sX6_reckon_142, sX6_reckon_143, sX6_reckon_146, sX6_reckon_147, sX6_reckon_150, sX6_reckon_152, sX6_reckon_153, sX6_reckon_156, sX6_reckon_157, sX6_reckon_160, sX6_reckon_162, sX6_reckon_163, sX6_reckon_166, sX6_reckon_167, sX6_reckon_170, kX6_reckon_173_ANINIAI, sX6_reckon_173, sX6_reckon_174, sX6_reckon_177, sX6_reckon_178, kX6_reckon_181_ANINIAN, sX6_reckon_181, sX6_reckon_182, sX6_reckon_185, sX6_reckon_187, sX6_reckon_188, sX6_reckon_191, sX6_reckon_194, sX6_reckon_195, sX6_reckon_196, sX6_reckon_199, sX6_reckon_201, sX6_reckon_202, sX6_reckon_205, sX6_reckon_207, sX6_reckon_210, sX6_reckon_211, sX6_reckon_212, sX6_reckon_215, sX6_reckon_217, sX6_reckon_218, sX6_reckon_221, sX6_reckon_222, sX6_reckon_224, evK_n, evK_v, evK_x, gI_pI, gJ_pI, gR_pI, gI_pJ, gJ_pJ, gR_pJ, gI_pR, gJ_pR, gR_pR, n32_le, n32_lt, n32_add, n32_mul, n32_cl, if_true, if_false, not_true_eq_false, not_false_eq_true, and_true, true_and, and_false, false_and, and_self, or_true, true_or, or_false, false_or, or_self, ne_eq, Decidable.not_not, Nat.reduceEqDiff, Nat.reduceEqDiff, sa_306, sb_306, sa_322, sb_322, sa_3, sb_3, n32_lt0, g1, r2, ck, l1, r30, r60, e1, r61, e2]
      rw [e3, e4]
      simp (disch := first | exact jm_lt0 | (apply jm_ltx; (repeat (first | exact jw_0 | apply jw_i | apply jw_r | apply jw_l)); omega) | omega | assumption | exact sa_306 | exact sa_322 | exact sa_323 | exact sa_324 | exact n32_inA sb_306 (by omega) (by omega) | exact n32_inA sb_322 (by omega) (by omega) | exact n32_inA sb_323 (by omega) (by omega) | exact n32_inA sb_324 (by omega) (by omega) | (refine n32_inA (by assumption) ?_ ?_ <;> omega) | exact bi01 | (rw [sa_306]; omega) | (rw [sa_322]; omega) | (rw [sa_323]; omega) | (rw [sa_324]; omega) | decide) only [sX6_reckon_0, sX6_reckon_1, sX6_reckon_3, sX6_reckon_4, sX6_reckon_5, sX6_reckon_6, sX6_reckon_8, sX6_reckon_10, sX6_reckon_13, sX6_reckon_15, sX6_reckon_18, sX6_reckon_21, sX6_reckon_22, sX6_reckon_25, sX6_reckon_27, sX6_reckon_28, sX6_reckon_29, sX6_reckon_32, kX6_reckon_35_AAIIINN, sX6_reckon_35, sX6_reckon_37, sX6_reckon_38, sX6_reckon_39, sX6_reckon_42, sX6_reckon_44, sX6_reckon_45, sX6_reckon_48, sX6_reckon_49, sX6_reckon_50, sX6_reckon_51, sX6_reckon_54, sX6_reckon_55, sX6_reckon_58, sX6_reckon_60, sX6_reckon_63, sX6_reckon_64, kX6_reckon_66_AAIIIAI, sX6_reckon_68, sX6_reckon_70, sX6_reckon_73, sX6_reckon_75, sX6_reckon_77, sX6_reckon_80, sX6_reckon_83, sX6_reckon_86, sX6_reckon_87, sX6_reckon_90, sX6_reckon_92, sX6_reckon_94, sX6_reckon_97, sX6_reckon_100, sX6_reckon_101, sX6_reckon_104, sX6_reckon_106, sX6_reckon_108, sX6_reckon_111, sX6_reckon_112, sX6_reckon_115, sX6_reckon_117, sX6_reckon_120, sX6_reckon_122, sX6_reckon_125, sX6_reckon_128, sX6_reckon_129, sX6_reckon_132, sX6_reckon_133, sX6_reckon_136, sX6_reckon_137, sX6_reckon_140, sX6_reckon_142, sX6_reckon_143, sX6_reckon_146, sX6_reckon_147, sX6_reckon_150, sX6_reckon_152, sX6_reckon_153, sX6_reckon_156, sX6_reckon_157, sX6_reckon_160, sX6_reckon_162, sX6_reckon_163, sX6_reckon_166, sX6_reckon_167, sX6_reckon_170, kX6_reckon_173_ANINIAI, sX6_reckon_173, sX6_reckon_174, sX6_reckon_177, sX6_reckon_178, kX6_reckon_181_ANINIAN, sX6_reckon_181, sX6_reckon_182, sX6_reckon_185, sX6_reckon_187, sX6_reckon_188, sX6_reckon_191, sX6_reckon_194, sX6_reckon_195, sX6_reckon_196, sX6_reckon_199, sX6_reckon_201, sX6_reckon_202, sX6_reckon_205, sX6_reckon_207, sX6_reckon_210, sX6_reckon_211, sX6_reckon_212, sX6_reckon_215, sX6_reckon_217, sX6_reckon_218, sX6_reckon_221, sX6_reckon_222, sX6_reckon_224, evK_n, evK_v, evK_x, gI_pI, gJ_pI, gR_pI, gI_pJ, gJ_pJ, gR_pJ, gI_pR, gJ_pR, gR_pR, n32_le, n32_lt, n32_add, n32_mul, n32_cl, if_true, if_false, not_true_eq_false, not_false_eq_true, and_true, true_and, and_false, false_and, and_self, or_true, true_or, or_false, false_or, or_self, ne_eq, Decidable.not_not, Nat.reduceEqDiff, Nat.reduceEqDiff, sa_306, sb_306, sa_322, sb_322, sa_323, sb_323, sa_324, sb_324, r64, r43, e5, hs6, r66, r6c, e6, r62, h6v, hs7]
    · refine hT4.of (fun j => ⟨?_, ?_⟩)
      · rw [← hs7, gI_pI, if_neg (by omega), gI_pJ, ← hs6, gI_pJ, hM5.2.1 _ _ (by unfold pH; omega)]
      · rw [← hs7, gI_pI, if_neg (by omega), gI_pJ, ← hs6, gI_pJ, hM5.2.1 _ _ (by unfold pH; omega)]
    · refine ⟨_, hO4.of (fun b j hb => ⟨?_, ?_⟩) (fun j _ => ?_)⟩
      · rw [← hs7, gI_pI, if_neg (by omega), gI_pJ, ← hs6, gI_pJ, hM5.2.1 _ _ (by unfold pH; omega)]
      · rw [← hs7, gJ_pI, gJ_pJ, if_neg (by omega), ← hs6, gJ_pJ, if_neg (by omega), hM5.2.2 _ _ (fun h => h)]
      · have e7 : gR s7 307 j = gR s5 307 j := by rw [← hs7, ← hs6]; rfl
        rw [e7, hM5.gR]
    · by_cases ci : i = ch * 36 + de
      · rw [ci]
        exact ⟨ver, Nat.le_refl _, s322⟩
      · rw [i322 i ci]
        exact l3 i hi
    · by_cases ci : ch' * 36 + de' = ch * 36 + de
      · obtain ⟨q1, q2⟩ := slot_inj hc' hc ci
        subst q1 q2
        refine ⟨?_, ?_⟩
        · rw [← hs7, gJ_pI, gJ_pJ, if_neg (by omega), ← hs6, gJ_pJ, if_pos ⟨rfl, rfl⟩]
        · rw [← hs7, gJ_pI, gJ_pJ, if_pos ⟨rfl, rfl⟩]
      · rw [i322 _ ci] at he
        rw [j323 _ _ (Or.inl rfl) ci, j323 _ _ (Or.inr rfl) ci]
        exact l5 ch' de' hc' he
    · by_cases c0 : ch = 0
      · have hde : de = 0 := by unfold cOK at hc; omega
        subst c0 hde
        obtain ⟨k1, k2, k3⟩ := hK4' rfl
        have j4 : ∀ b j, ((325 ≤ b ∧ b < 377) ∨ b = 306) → gJ s7 b j = gJ s4 b j := fun b j hb => by
          rw [← hs7, gJ_pI, gJ_pJ, if_neg (by omega), ← hs6, gJ_pJ, if_neg (by omega), hM5.2.2 _ _ (fun h => h)]
        refine ⟨fun v hv => ?_, fun p hp => ?_, ?_, ?_⟩
        · obtain ⟨y1, y2, y3⟩ := hR3 rfl v hv
          refine ⟨fun x hx => ?_, fun x hx => ?_, ?_⟩
          · rw [j4 _ _ (by omega), hM4.2.2 _ _ (by unfold qK; omega), y1 x hx]
          · rw [j4 _ _ (by omega), hM4.2.2 _ _ (by unfold qK; omega), y2 x hx]
          · rw [← hs7, gI_pI, if_neg (by omega), gI_pJ, ← hs6, gI_pJ, hM5.2.1 _ _ (by unfold pH; omega), hM4.2.1 _ _ (fun h => h), y3]
        · rw [j4 _ _ (by omega), k1 p hp, hZ3.2.1 p hp]
        · rw [j4 _ _ (by omega), k2, hZ3.2.2.1]
        · rw [j4 _ _ (by omega), k3, hZ3.2.2.2]
      · have hs0 : ch * 36 + de ≠ 0 := by omega
        rw [i322 0 (by omega)] at he
        obtain ⟨y1, y2, y3, y4⟩ := l6 he
        have hX := hX3 c0
        have h43 := hK4 c0
        have jx : ∀ b j, ((325 ≤ b ∧ b < 377) ∨ b = 306) → gJ s7 b j = gJ s b j := fun b j hb => by
          rw [← hs7, gJ_pI, gJ_pJ, if_neg (by omega), ← hs6, gJ_pJ, if_neg (by omega), hM5.2.2 _ _ (fun h => h), h43, hX.2.2.1 _ _ (by unfold qO; omega), hM2.2.2.1 _ _ (by unfold qO; omega), hM1.2.2.1 _ _ (fun h => h)]
        refine ⟨fun v hv => ?_, fun p hp => ?_, ?_, ?_⟩
        · obtain ⟨z1, z2, z3⟩ := y1 v hv
          refine ⟨fun x hx => by rw [jx _ _ (by omega), z1 x hx], fun x hx => by rw [jx _ _ (by omega), z2 x hx], ?_⟩
          rw [← hs7, gI_pI, if_neg (by omega), gI_pJ, ← hs6, gI_pJ, hM5.2.1 _ _ (by unfold pH; omega), h43, hX.2.1 _ _ (by unfold pN pO pE HSK; omega), hM2.2.1 _ _ (by unfold pN pO pE HSK; omega), hM1.2.1 _ _ (by unfold pPl; omega), z3]
        · rw [jx _ _ (by omega), y2 p hp]
        · rw [jx _ _ (by omega), y3]
        · rw [jx _ _ (by omega), y4]
    · rw [i306] at he
      obtain ⟨y1, y2⟩ := l7 he
      refine ⟨fun v hv => ?_, by rw [jg _ _ (by omega), y2]⟩
      obtain ⟨z1, z2, z3⟩ := y1 v hv
      exact ⟨by rw [jg _ _ (by omega), z1], fun x hx => by rw [jg _ _ (by omega), z2 x hx], fun x hx => by rw [jg _ _ (by omega), z3 x hx]⟩
