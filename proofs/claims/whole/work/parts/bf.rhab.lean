/-! STEPS, read by both -/
section RH
variable {g : fm_g} {d : Nat} {B : Nat → Nat} {e n p m a : Nat} {s t : fm_S}
theorem rs_end {n' x : Nat} (hx : HX m s t) (hm8 : m < 8) (ha8 : a < 8) (hx16 : x ≤ 16) (hnn : n ≤ n') {q : Int32} (h : (HS B e n' p m s t ∧ q = Int32.ofNat x ∧ (n = n' ∨ tyS (gI t 441) n (n' - n) [] = some [true]) ∧ gI s 157 m = Int32.ofNat a ∧ gI s 158 m = Int32.ofNat x ∧ gI s 159 m = Int32.ofNat n) ∨ QB B e s t) : ∃ s' t', ev g (d + 31) mX5_readStep 109 [some (.ref (156 : Nat)), some (.ref (1 : Nat)), none, some (.int (Int32.ofNat m)), none] [] s = some (.inl none, s') ∧ ev g (d + 31) mX12_readStep 115 [some (.ref (432 : Nat)), some (.int (Int32.ofNat a)), some (.int q), some (.int (Int32.ofNat n))] [] t = some (.inl none, t') ∧ RC s s' ∧ RQ t t' ∧ ((∃ p', p < p' ∧ HS B e n' p' (m + 1) s' t') ∨ QB B e s' t') := by
  obtain ⟨h0, h29⟩ := id hx
  have mk : ∀ (s1 t1 : fm_S), CQ (pI s 160 m (gI s 156 6)) s1 → Mq t t1 → ev g (d + 30) mX9_needSign 0 [some (.ref (1 : Nat)), some (.int (Int32.ofNat 59))] [] (pI s 160 m (gI s 156 6)) = some (.inl none, s1) → ev g (d + 30) mX12_sign 0 [some (.ref (432 : Nat)), some (.int (Int32.ofNat 59))] [] t = some (.inl none, t1) → FX s → FX t → ev g (d + 31) mX5_readStep 109 [some (.ref (156 : Nat)), some (.ref (1 : Nat)), none, some (.int (Int32.ofNat m)), none] [] s = some (.inl none, pI s1 156 0 (Int32.ofNat (m + 1))) ∧ ev g (d + 31) mX12_readStep 115 [some (.ref (432 : Nat)), some (.int (Int32.ofNat a)), some (.int q), some (.int (Int32.ofNat n))] [] t = some (.inl none, pI (pI (pI (pI (pI t1 443 (4 * m) (Int32.ofNat a)) 443 (4 * m + 1) q) 443 (4 * m + 2) (Int32.ofNat n)) 443 (4 * m + 3) (gI t 432 28)) 432 29 (Int32.ofNat (m + 1))) := by
    intro s1 t1 hs ht e1 e2 hF hG
    have r1 := hF.u 156 4 160 (by decide +kernel)
    have hs0 : gI s1 156 0 = Int32.ofNat m := by rw [hs.2 _ _ (by omega), gI_pI, if_neg (by omega), h0]
    have hG1 := ht.fx hG
    have r2 := hG1.u 432 22 443 (by decide +kernel)
    have ht0 : gI t1 432 29 = Int32.ofNat m := by rw [ht.2 _ _ (by omega), h29]
    have ht8 : gI t1 432 28 = gI t 432 28 := ht.2 _ _ (by omega)
    refine ⟨?_, ?_⟩
    · simp (disch := first | exact jm_lt0 | (apply jm_ltx; (repeat (first | exact jw_0 | apply jw_i | apply jw_r | apply jw_l)); omega) | omega | assumption | exact sa_156 | exact sa_160 | exact sa_1 | exact n32_inA sb_156 (by omega) (by omega) | exact n32_inA sb_160 (by omega) (by omega) | exact n32_inA sb_1 (by omega) (by omega) | (refine n32_inA (by assumption) ?_ ?_ <;> omega) | exact bi01 | (rw [sa_156]; omega) | (rw [sa_160]; omega) | (rw [sa_1]; omega) | decide) only [sX5_readStep_0, sX5_readStep_1, sX5_readStep_4, sX5_readStep_5, sX5_readStep_6, sX5_readStep_9, sX5_readStep_10, sX5_readStep_11, sX5_readStep_13, sX5_readStep_16, sX5_readStep_18, sX5_readStep_20, sX5_readStep_21, sX5_readStep_24, sX5_readStep_25, sX5_readStep_26, sX5_readStep_27, sX5_readStep_30, sX5_readStep_31, sX5_readStep_32, sX5_readStep_35, sX5_readStep_36, sX5_readStep_38, kX5_readStep_41_AAIII, sX5_readStep_41, sX5_readStep_42, sX5_readStep_43, sX5_readStep_44, sX5_readStep_47, kX5_readStep_48_AAIII, sX5_readStep_48, sX5_readStep_49, sX5_readStep_52, sX5_readStep_53, sX5_readStep_55, sX5_readStep_56, sX5_readStep_57, sX5_readStep_60, sX5_readStep_61, sX5_readStep_62, sX5_readStep_64, sX5_readStep_67, sX5_readStep_68, sX5_readStep_71, sX5_readStep_72, kX5_readStep_75_AANII, sX5_readStep_75, sX5_readStep_76, sX5_readStep_77, sX5_readStep_79, kX5_readStep_82_AANII, sX5_readStep_82, sX5_readStep_83, sX5_readStep_84, sX5_readStep_87, sX5_readStep_88, sX5_readStep_89, sX5_readStep_92, sX5_readStep_93, sX5_readStep_94, sX5_readStep_96, sX5_readStep_99, sX5_readStep_100, sX5_readStep_103, sX5_readStep_104, sX5_readStep_105, sX5_readStep_106, sX5_readStep_109, sX5_readStep_110, sX5_readStep_113, sX5_readStep_114, sX5_readStep_115, sX5_readStep_118, sX5_readStep_119, sX5_readStep_120, sX5_readStep_122, sX5_readStep_125, sX5_readStep_126, sX5_readStep_127, sX5_readStep_128, sX5_readStep_129, sX5_readStep_132, evK_n, evK_v, evK_x, gI_pI, gJ_pI, gR_pI, gI_pJ, gJ_pJ, gR_pJ, gI_pR, gJ_pR, gR_pR, if_true, if_false, not_true_eq_false, not_false_eq_true, and_true, true_and, and_false, false_and, and_self, or_true, true_or, or_false, false_or, or_self, ne_eq, Decidable.not_not, Nat.reduceEqDiff, Nat.reduceEqDiff, sa_156, sb_156, sa_1, sb_1, sa_160, sb_160, n32_le, n32_lt, n32_add, n32_mul, n32_cl, r1, h0, e1, hs0]
    · simp (disch := first | exact jm_lt0 | (apply jm_ltx; (repeat (first | exact jw_0 | apply jw_i | apply jw_r | apply jw_l)); omega) | omega | assumption | exact sa_432 | exact sa_443 | exact n32_inA sb_432 (by omega) (by omega) | exact n32_inA sb_443 (by omega) (by omega) | (refine n32_inA (by assumption) ?_ ?_ <;> omega) | exact bi01 | (rw [sa_432]; omega) | (rw [sa_443]; omega) | decide) only [sX12_readStep_0, sX12_readStep_1, sX12_readStep_4, sX12_readStep_7, sX12_readStep_8, sX12_readStep_9, sX12_readStep_10, sX12_readStep_13, sX12_readStep_14, sX12_readStep_15, sX12_readStep_16, sX12_readStep_19, sX12_readStep_22, sX12_readStep_25, sX12_readStep_26, sX12_readStep_29, sX12_readStep_31, sX12_readStep_34, sX12_readStep_35, sX12_readStep_36, sX12_readStep_37, sX12_readStep_40, sX12_readStep_43, sX12_readStep_44, sX12_readStep_47, sX12_readStep_50, sX12_readStep_51, sX12_readStep_52, sX12_readStep_55, sX12_readStep_56, sX12_readStep_57, sX12_readStep_58, sX12_readStep_61, sX12_readStep_64, sX12_readStep_67, sX12_readStep_70, sX12_readStep_71, sX12_readStep_74, sX12_readStep_75, sX12_readStep_76, sX12_readStep_78, sX12_readStep_81, sX12_readStep_82, sX12_readStep_83, sX12_readStep_86, sX12_readStep_87, sX12_readStep_88, sX12_readStep_91, sX12_readStep_94, sX12_readStep_95, sX12_readStep_98, sX12_readStep_101, sX12_readStep_104, sX12_readStep_107, sX12_readStep_108, sX12_readStep_111, sX12_readStep_112, sX12_readStep_115, sX12_readStep_116, sX12_readStep_118, sX12_readStep_121, sX12_readStep_122, sX12_readStep_125, sX12_readStep_126, sX12_readStep_127, sX12_readStep_130, sX12_readStep_131, sX12_readStep_132, sX12_readStep_133, sX12_readStep_134, sX12_readStep_137, sX12_readStep_138, sX12_readStep_139, sX12_readStep_142, sX12_readStep_143, sX12_readStep_144, sX12_readStep_145, sX12_readStep_146, sX12_readStep_147, sX12_readStep_148, sX12_readStep_151, sX12_readStep_152, sX12_readStep_153, sX12_readStep_156, sX12_readStep_157, sX12_readStep_158, sX12_readStep_159, sX12_readStep_160, sX12_readStep_161, sX12_readStep_162, sX12_readStep_165, sX12_readStep_166, sX12_readStep_167, sX12_readStep_170, sX12_readStep_171, sX12_readStep_172, sX12_readStep_173, sX12_readStep_174, sX12_readStep_177, sX12_readStep_178, sX12_readStep_179, sX12_readStep_180, sX12_readStep_183, sX12_readStep_184, sX12_readStep_185, sX12_readStep_188, evK_n, evK_v, evK_x, gI_pI, gJ_pI, gR_pI, gI_pJ, gJ_pJ, gR_pJ, gI_pR, gJ_pR, gR_pR, if_true, if_false, not_true_eq_false, not_false_eq_true, and_true, true_and, and_false, false_and, and_self, or_true, true_or, or_false, false_or, or_self, ne_eq, Decidable.not_not, Nat.reduceEqDiff, Nat.reduceEqDiff, sa_432, sb_432, sa_443, sb_443, n32_le, n32_lt, n32_add, n32_mul, n32_cl, e2, r2, ht0, ht8, show ¬ ((432 : Nat) = 443) by decide]
  have rcs : ∀ s1, CQ (pI s 160 m (gI s 156 6)) s1 → RC s (pI s1 156 0 (Int32.ofNat (m + 1))) := fun s1 hs => ((RC.p (by omega)).tr hs.rc).tr (RC.p (by omega))
  have rqs : ∀ t1, Mq t t1 → RQ t (pI (pI (pI (pI (pI t1 443 (4 * m) (Int32.ofNat a)) 443 (4 * m + 1) q) 443 (4 * m + 2) (Int32.ofNat n)) 443 (4 * m + 3) (gI t 432 28)) 432 29 (Int32.ofNat (m + 1))) := fun t1 ht => ((((ht.rq.tr (RQ.p (by omega))).tr (RQ.p (by omega))).tr (RQ.p (by omega))).tr (RQ.p (by omega))).tr (RQ.p (by omega))
  rcases h with ⟨h, hq, hty, g7, g8, g9⟩ | h
  · obtain ⟨hP, hm, -, -, hR⟩ := id h
    have h6 := hP.2.2.2.2.2.2.1.1
    have h28 := hP.2.2.2.2.2.2.2.1
    have hP1 := hP.cell (b := 160) (j := m) (v := gI s 156 6) (by omega)
    obtain ⟨s1, t1, e1, e2, e3, e4, e5⟩ := q_sgn (g := g) (k := 59) hP1.q (by omega)
    obtain ⟨f1, f2⟩ := mk s1 t1 e3 e4 (e1 _) (e2 _) hP.1 hP.2.1
    refine ⟨_, _, f1, f2, rcs _ e3, rqs _ e4, ?_⟩
    rcases e5 with ⟨p', x1, x2⟩ | e5
    · have hP2 := hP1.back e3 e4 x2 (by omega)
      refine Or.inl ⟨p', x1, ?_, by omega, by rw [gI_pI, if_pos ⟨rfl, rfl⟩], by rw [gI_pI, if_pos ⟨rfl, rfl⟩], fun i hi => ?_⟩
      · obtain ⟨u1, u2, ⟨b, ⟨c1, c2, c3, c4, c5⟩, u3⟩, ⟨b', ⟨c1', c2', c3', c4', c5'⟩, u4⟩, u5, u6, u7, u8, u9, uA, uB⟩ := hP2
        refine ⟨u1.pI, u2.pI.pI.pI.pI.pI, ⟨b, ⟨by simpa [gI_pI] using c1, by simpa [gI_pI] using c2, c3, c4, fun i hi => by simpa [gI_pI] using c5 i hi⟩, u3⟩, ⟨b', ⟨by simpa [gI_pI] using c1', by simpa [gI_pI] using c2', c3', c4', fun i hi => by simpa [gI_pI] using c5' i hi⟩, u4⟩, by simpa [gI_pI] using u5, by simpa [gI_pI] using u6, by simpa [gI_pI] using u7, by simpa [gI_pI] using u8, by simpa [gI_pI] using u9, uA, fun i hi => ?_⟩
        obtain ⟨k, c, y1, y2, y3, y4, y5, y6⟩ := uB i hi
        exact ⟨k, c, y1, y2, y3, by simpa [gI_pI] using y4, by simpa [gI_pI] using y5, by simpa [gI_pI] using y6⟩
      · have gs : ∀ b j, 157 ≤ b → b ≤ 159 ∨ (b = 160 ∧ j < m) → b ≤ 160 → gI (pI s1 156 0 (Int32.ofNat (m + 1))) b j = gI s b j := fun b j hb1 hb2 hb3 => by
          rw [gI_pI, if_neg (by omega), e3.2 _ _ (by omega), gI_pI, if_neg (by omega)]
        have gt : ∀ j, j < 4 * m → gI (pI (pI (pI (pI (pI t1 443 (4 * m) (Int32.ofNat a)) 443 (4 * m + 1) q) 443 (4 * m + 2) (Int32.ofNat n)) 443 (4 * m + 3) (gI t 432 28)) 432 29 (Int32.ofNat (m + 1))) 443 j = gI t 443 j := fun j hj => by
          rw [gI_pI, if_neg (by omega), gI_pI, if_neg (by omega), gI_pI, if_neg (by omega), gI_pI, if_neg (by omega), gI_pI, if_neg (by omega), e4.2 _ _ (by omega)]
        have g441' : ∀ j, gI (pI (pI (pI (pI (pI t1 443 (4 * m) (Int32.ofNat a)) 443 (4 * m + 1) q) 443 (4 * m + 2) (Int32.ofNat n)) 443 (4 * m + 3) (gI t 432 28)) 432 29 (Int32.ofNat (m + 1))) 441 j = gI t 441 j := fun j => by
          rw [gI_pI, if_neg (by omega), gI_pI, if_neg (by omega), gI_pI, if_neg (by omega), gI_pI, if_neg (by omega), gI_pI, if_neg (by omega), e4.2 _ _ (by omega)]
        by_cases hi2 : i < m
        · obtain ⟨a', q', f', z', ⟨a1, a2, a3, a4⟩, ⟨b1, b2, b3, b4⟩, d1, d2, d3, d4, d5⟩ := hR i hi2
          refine ⟨a', q', f', z', ⟨by rw [gs _ _ (by omega) (by omega) (by omega), a1], by rw [gs _ _ (by omega) (by omega) (by omega), a2], by rw [gs _ _ (by omega) (by omega) (by omega), a3], by rw [gs _ _ (by omega) (by omega) (by omega), a4]⟩, ⟨by rw [gt _ (by omega), b1], by rw [gt _ (by omega), b2], by rw [gt _ (by omega), b3], by rw [gt _ (by omega), b4]⟩, d1, d2, d3, d4, ?_⟩
          rcases d5 with d5 | d5
          · exact Or.inl d5
          · exact Or.inr (by rw [tyS_congr (R := gI t 441) _ _ _ (fun j _ _ => g441' j), d5])
        · have hi3 : i = m := by omega
          subst hi3
          refine ⟨a, x, n, n', ⟨by rw [gs _ _ (by omega) (by omega) (by omega), g7], by rw [gs _ _ (by omega) (by omega) (by omega), g8], by rw [gs _ _ (by omega) (by omega) (by omega), g9], ?_⟩, ⟨?_, ?_, ?_, ?_⟩, ha8, hx16, hnn, Nat.le_refl _, ?_⟩
          · rw [gI_pI, if_neg (by omega), e3.2 _ _ (by omega), gI_pI, if_pos ⟨rfl, rfl⟩, h6]
          · rw [gI_pI, if_neg (by omega), gI_pI, if_neg (by omega), gI_pI, if_neg (by omega), gI_pI, if_neg (by omega), gI_pI, if_pos ⟨rfl, rfl⟩]
          · rw [gI_pI, if_neg (by omega), gI_pI, if_neg (by omega), gI_pI, if_neg (by omega), gI_pI, if_pos ⟨rfl, rfl⟩, hq]
          · rw [gI_pI, if_neg (by omega), gI_pI, if_neg (by omega), gI_pI, if_pos ⟨rfl, rfl⟩]
          · rw [gI_pI, if_neg (by omega), gI_pI, if_pos ⟨rfl, rfl⟩, h28]
          · rcases hty with d5 | d5
            · exact Or.inl d5
            · exact Or.inr (by rw [tyS_congr (R := gI t 441) _ _ _ (fun j _ _ => g441' j), d5])
    · refine Or.inr ?_
      have hb := (((e5.cell (b := 156) (j := 0) (v := Int32.ofNat (m + 1)) (by omega)).mcell (b := 443) (j := 4 * m) (v := Int32.ofNat a) (by omega)).mcell (b := 443) (j := 4 * m + 1) (v := q) (by omega)).mcell (b := 443) (j := 4 * m + 2) (v := Int32.ofNat n) (by omega)
      have hb2 := hb.mcell (b := 443) (j := 4 * m + 3) (v := gI t 432 28) (by omega)
      obtain ⟨c, hc⟩ := hb2.2.2.2.1
      obtain ⟨b, hb'⟩ := hb2.2.2.1
      exact hb2.of ⟨rfl, fun _ _ _ => rfl⟩ ⟨b, hb'.2.2.1, hb'.2.1⟩ ⟨rfl, fun b j hbj => by rw [gI_pI, if_neg (by omega)]⟩ ⟨c, hc.2.2.1, by rw [gI_pI, if_neg (by omega)]; exact hc.2.1⟩
  · have hB1 := h.cell (b := 160) (j := m) (v := gI s 156 6) (by omega)
    obtain ⟨e1, e2⟩ := q_sgn' (g := g) (k := Int32.ofNat 59) hB1
    obtain ⟨f1, f2⟩ := mk _ _ CQ.rf Mq.rf (e1 _) (e2 _) h.1 h.2.1
    refine ⟨_, _, f1, f2, rcs _ CQ.rf, rqs _ Mq.rf, Or.inr ?_⟩
    have hb := (((hB1.cell (b := 156) (j := 0) (v := Int32.ofNat (m + 1)) (by omega)).mcell (b := 443) (j := 4 * m) (v := Int32.ofNat a) (by omega)).mcell (b := 443) (j := 4 * m + 1) (v := q) (by omega)).mcell (b := 443) (j := 4 * m + 2) (v := Int32.ofNat n) (by omega)
    have hb2 := hb.mcell (b := 443) (j := 4 * m + 3) (v := gI t 432 28) (by omega)
    obtain ⟨c, hc⟩ := hb2.2.2.2.1
    obtain ⟨b, hb'⟩ := hb2.2.2.1
    exact hb2.of ⟨rfl, fun _ _ _ => rfl⟩ ⟨b, hb'.2.2.1, hb'.2.1⟩ ⟨rfl, fun b j hbj => by rw [gI_pI, if_neg (by omega)]⟩ ⟨c, hc.2.2.1, by rw [gI_pI, if_neg (by omega)]; exact hc.2.1⟩
theorem rs_step (h : HS B e n p m s t) (he : e ≤ 150) : ∃ s' t', ev g (d + 31) mX5_readStep 0 [some (.ref (156 : Nat)), some (.ref (1 : Nat)), none, none, none] [] s = some (.inl none, s') ∧ ev g (d + 31) mX12_readStep 0 [some (.ref (432 : Nat)), none, none, none] [] t = some (.inl none, t') ∧ RC s s' ∧ RQ t t' ∧ ((m < 8 ∧ ∃ n' p', p < p' ∧ HS B e n' p' (m + 1) s' t') ∨ QB B e s' t') := by
  rcases rs_act (g := g) (d := d) h he with ⟨s1, t1, p1, a, e1, e2, e3, e4, ha, hm8, hp, h1, h157⟩ | ⟨s1, t1, e1, e2, e3, e4, hb⟩
  · obtain ⟨s2, t2, q, f1, f2, f3, f4, hx, hc⟩ := rs_by (g := g) (d := d) h1 he ha hm8 h157
    have key : ∃ x, x ≤ 16 ∧ ((∃ p', p1 ≤ p' ∧ q = Int32.ofNat x ∧ HS B e n p' m s2 t2 ∧ gI s2 157 m = Int32.ofNat a ∧ gI s2 158 m = Int32.ofNat x) ∨ QB B e s2 t2) := by
      rcases hc with ⟨p', x, x1, x2, x3, x4⟩ | hc
      · exact ⟨x, x2, Or.inl ⟨p', x1, x3, x4⟩⟩
      · exact ⟨0, by decide, Or.inr hc⟩
    obtain ⟨x, hx16, hc⟩ := key
    have key2 : ∃ p2, p1 ≤ p2 ∧ ((HS B e n p2 m s2 t2 ∧ gI s2 157 m = Int32.ofNat a ∧ gI s2 158 m = Int32.ofNat x ∧ q = Int32.ofNat x) ∨ QB B e s2 t2) := by
      rcases hc with ⟨p', x1, x3, x4, x5, x6⟩ | hc
      · exact ⟨p', x1, Or.inl ⟨x4, x5, x6, x3⟩⟩
      · exact ⟨p1, Nat.le_refl _, Or.inr hc⟩
    obtain ⟨p2, hp2, hc⟩ := key2
    obtain ⟨s3, t3, g1, g2, g3, g4, hx3, hd⟩ := rs_if (g := g) (d := d) (q := q) (x := x) (a := a) (p := p2) (n := n) hx hm8 he hc
    have key3 : ∃ n' p3, p2 ≤ p3 ∧ n ≤ n' ∧ ((HS B e n' p3 m s3 t3 ∧ q = Int32.ofNat x ∧ (n = n' ∨ tyS (gI t3 441) n (n' - n) [] = some [true]) ∧ gI s3 157 m = Int32.ofNat a ∧ gI s3 158 m = Int32.ofNat x ∧ gI s3 159 m = Int32.ofNat n) ∨ QB B e s3 t3) := by
      rcases hd with ⟨n', p', x1, x2, x3, x4, x5, x6, x7, x8⟩ | hd
      · exact ⟨n', p', x1, x2, Or.inl ⟨x3, x8, x4, x5, x6, x7⟩⟩
      · exact ⟨n, p2, Nat.le_refl _, Nat.le_refl _, Or.inr hd⟩
    obtain ⟨n', p3, hp3, hnn, hd⟩ := key3
    obtain ⟨s4, t4, i1, i2, i3, i4, i5⟩ := rs_end (g := g) (d := d) hx3 hm8 ha hx16 hnn hd
    refine ⟨s4, t4, e1.trans (f1.trans (g1.trans i1)), e2.trans (f2.trans (g2.trans i2)), ((e3.tr f3).tr g3).tr i3, ((e4.tr f4).tr g4).tr i4, ?_⟩
    rcases i5 with ⟨p', y1, y2⟩ | i5
    · exact Or.inl ⟨hm8, n', p', by omega, y2⟩
    · exact Or.inr i5
  · exact ⟨s1, t1, e1, e2, e3, e4, Or.inr hb⟩
end RH
