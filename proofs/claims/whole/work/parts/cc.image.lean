/-! undo, image, restore on both sides -/
section CC0
variable {g : fm_g} {d c ver : Nat} {w : WD} {G : GS} {s t : fm_S}
theorem MW.y {t t' : fm_S} {w : WD} (h : MW t w) (p : ∀ b j, (b = 436 ∨ b = 439 ∨ b = 440 ∨ (445 ≤ b ∧ b ≤ 448) ∨ b = 450 ∨ (b = 432 ∧ (j = 18 ∨ j = 19 ∨ j = 32))) → gI t' b j = gI t b j) : MW t' w := by
  obtain ⟨h1, h2, h3, ⟨h4, h5, h6⟩, h7, h8, h9⟩ := h
  refine ⟨fun i hi => by rw [p _ _ (by omega), h1 i hi], fun i hi => by rw [p _ _ (by omega), h2 i hi], by rw [p _ _ (by omega), h3], ⟨by rw [p _ _ (by omega), h4], h5, fun v hv => ?_⟩, fun q hq => ?_, by rw [p _ _ (by omega), h8], fun i hi => ?_⟩
  · obtain ⟨⟨a1, a2⟩, a3, a4⟩ := h6 v hv
    exact ⟨⟨by rw [p _ _ (by omega), a1], a2⟩, by rw [p _ _ (by omega), a3], a4⟩
  · obtain ⟨a1, a2, a3⟩ := h7 q hq
    refine ⟨by rw [p _ _ (by omega), a1], fun i hi => ?_, fun i hi => ?_⟩
    · obtain ⟨b1, b2, b3, b4⟩ := a2 i hi
      exact ⟨by rw [p _ _ (by omega), b1], by rw [p _ _ (by omega), b2], by rw [p _ _ (by omega), b3], by rw [p _ _ (by omega), b4]⟩
    · obtain ⟨b1, b2⟩ := a3 i hi
      exact ⟨by rw [p _ _ (by omega), b1], by rw [p _ _ (by omega), b2]⟩
  · obtain ⟨a1, a2, a3⟩ := h9 i hi
    exact ⟨by rw [p _ _ (by omega), a1], by rw [p _ _ (by omega), a2], by rw [p _ _ (by omega), a3]⟩

theorem m_undoLoop {ch : Nat} {t0 : fm_S} (hF : FX t0) (hc : ch < 20) (h62 : gI t0 432 62 = Int32.ofNat ch) : ∀ (m k : Nat) (t : fm_S), k + m = 24 → FM (fun b _ => b = 439 ∨ b = 440) nO t0 t → (∀ j, j < k → gI t 439 j = gI t0 458 (49 * ch + j) ∧ gI t 440 j = gI t0 458 (49 * ch + 24 + j)) → ∃ t', ev g d mX12_undo 26 [some (.ref (432 : Nat)), some (.int (Int32.ofNat k))] [] t = ev g d mX12_undo 81 [some (.ref (432 : Nat)), none] [] t' ∧ FM (fun b _ => b = 439 ∨ b = 440) nO t0 t' ∧ ∀ j, j < 24 → gI t' 439 j = gI t0 458 (49 * ch + j) ∧ gI t' 440 j = gI t0 458 (49 * ch + 24 + j) := by
  intro m
  induction m with
  | zero =>
    intro k t hk hM hJ
    have hil : k = 24 := by omega
    subst hil
    refine ⟨t, ?_, hM, hJ⟩
    rw [sX12_undo_26]
    simp (disch := first | exact jm_lt0 | (apply jm_ltx; (repeat (first | exact jw_0 | apply jw_i | apply jw_r | apply jw_l)); omega) | omega | assumption | exact sa_432 | exact n32_inA sb_432 (by omega) (by omega) | (refine n32_inA (by assumption) ?_ ?_ <;> omega) | exact bi01 | (rw [sa_432]; omega) | decide) only [sX12_undo_0, sX12_undo_1, sX12_undo_2, sX12_undo_5, sX12_undo_6, sX12_undo_9, sX12_undo_12, sX12_undo_13, sX12_undo_14, sX12_undo_15, sX12_undo_16, sX12_undo_19, sX12_undo_20, sX12_undo_21, sX12_undo_24, sX12_undo_25, sX12_undo_27, sX12_undo_29, sX12_undo_32, sX12_undo_33, sX12_undo_36, sX12_undo_37, sX12_undo_38, sX12_undo_41, sX12_undo_43, sX12_undo_44, sX12_undo_47, sX12_undo_48, sX12_undo_49, sX12_undo_50, sX12_undo_51, sX12_undo_52, sX12_undo_53, sX12_undo_56, sX12_undo_57, sX12_undo_58, sX12_undo_61, sX12_undo_63, sX12_undo_64, sX12_undo_67, sX12_undo_68, sX12_undo_70, sX12_undo_71, sX12_undo_72, sX12_undo_73, sX12_undo_74, sX12_undo_75, sX12_undo_78, kX12_undo_81_AI, sX12_undo_82, sX12_undo_83, sX12_undo_86, sX12_undo_88, sX12_undo_89, sX12_undo_92, sX12_undo_93, sX12_undo_95, sX12_undo_96, sX12_undo_97, sX12_undo_100, sX12_undo_101, sX12_undo_104, evK_n, evK_v, evK_x, gI_pI, gJ_pI, gR_pI, gI_pJ, gJ_pJ, gR_pJ, gI_pR, gJ_pR, gR_pR, if_true, if_false, not_true_eq_false, not_false_eq_true, and_true, true_and, and_false, false_and, and_self, or_true, true_or, or_false, false_or, or_self, ne_eq, Decidable.not_not, Nat.reduceEqDiff, Nat.reduceEqDiff, n32_le, n32_lt, n32_add, n32_mul, n32_cl, Nat.le_refl]
  | succ m ih =>
    intro k t hk hM hJ
    have hFt := hM.fx hF
    have r61 := hFt.u 432 61 458 (by decide +kernel)
    have r14 := hFt.u 432 14 439 (by decide +kernel)
    have r15 := hFt.u 432 15 440 (by decide +kernel)
    have c62 : gI t 432 62 = Int32.ofNat ch := by rw [hM.2.1 _ _ (by omega), h62]
    have m1 : gI t 458 (49 * ch + k) = gI t0 458 (49 * ch + k) := hM.2.1 _ _ (by omega)
    have m2 : gI t 458 (49 * ch + 24 + k) = gI t0 458 (49 * ch + 24 + k) := hM.2.1 _ _ (by omega)
    have g1 : ¬ 24 ≤ k := by omega
    obtain ⟨t', f1, f2, f3⟩ := ih (k + 1) (pI (pI t 439 k (gI t0 458 (49 * ch + k))) 440 k (gI t0 458 (49 * ch + 24 + k))) (by omega) ((hM.tr (FM.pI (Or.inl rfl))).tr (FM.pI (Or.inr rfl))) (fun j hj => by
      by_cases cj : j = k
      · subst cj
        exact ⟨by rw [gI_pI, if_neg (by omega), gI_pI, if_pos ⟨rfl, rfl⟩], by rw [gI_pI, if_pos ⟨rfl, rfl⟩]⟩
      · rw [gI_pI, if_neg (by omega), gI_pI, if_neg (by omega), gI_pI, if_neg (by omega), gI_pI, if_neg (by omega)]
        exact hJ j (by omega))
    refine ⟨t', ?_, f2, f3⟩
    rw [sX12_undo_26]
    simp (disch := first | exact jm_lt0 | (apply jm_ltx; (repeat (first | exact jw_0 | apply jw_i | apply jw_r | apply jw_l)); omega) | omega | assumption | exact sa_432 | exact sa_458 | exact sa_439 | exact sa_440 | exact n32_inA sb_432 (by omega) (by omega) | exact n32_inA sb_458 (by omega) (by omega) | exact n32_inA sb_439 (by omega) (by omega) | exact n32_inA sb_440 (by omega) (by omega) | (refine n32_inA (by assumption) ?_ ?_ <;> omega) | exact bi01 | (rw [sa_432]; omega) | (rw [sa_458]; omega) | (rw [sa_439]; omega) | (rw [sa_440]; omega) | decide) only [sX12_undo_0, sX12_undo_1, sX12_undo_2, sX12_undo_5, sX12_undo_6, sX12_undo_9, sX12_undo_12, sX12_undo_13, sX12_undo_14, sX12_undo_15, sX12_undo_16, sX12_undo_19, sX12_undo_20, sX12_undo_21, sX12_undo_24, sX12_undo_25, sX12_undo_27, sX12_undo_29, sX12_undo_32, sX12_undo_33, sX12_undo_36, sX12_undo_37, sX12_undo_38, sX12_undo_41, sX12_undo_43, sX12_undo_44, sX12_undo_47, sX12_undo_48, sX12_undo_49, sX12_undo_50, sX12_undo_51, sX12_undo_52, sX12_undo_53, sX12_undo_56, sX12_undo_57, sX12_undo_58, sX12_undo_61, sX12_undo_63, sX12_undo_64, sX12_undo_67, sX12_undo_68, sX12_undo_70, sX12_undo_71, sX12_undo_72, sX12_undo_73, sX12_undo_74, sX12_undo_75, sX12_undo_78, kX12_undo_81_AI, sX12_undo_82, sX12_undo_83, sX12_undo_86, sX12_undo_88, sX12_undo_89, sX12_undo_92, sX12_undo_93, sX12_undo_95, sX12_undo_96, sX12_undo_97, sX12_undo_100, sX12_undo_101, sX12_undo_104, evK_n, evK_v, evK_x, gI_pI, gJ_pI, gR_pI, gI_pJ, gJ_pJ, gR_pJ, gI_pR, gJ_pR, gR_pR, if_true, if_false, not_true_eq_false, not_false_eq_true, and_true, true_and, and_false, false_and, and_self, or_true, true_or, or_false, false_or, or_self, ne_eq, Decidable.not_not, Nat.reduceEqDiff, Nat.reduceEqDiff, n32_le, n32_lt, n32_add, n32_mul, n32_cl, sa_432, sb_432, sa_458, sb_458, sa_439, sb_439, sa_440, sb_440, g1, r61, r14, r15, c62, m1, m2, show ¬ ((432 : Nat) = 439) by decide, show ¬ ((458 : Nat) = 439) by decide]
    exact f1
theorem opn_undo (h : Inv c s t) (hc : c < 1000) : OpN g (d + 35) mX11_undo mX12_undo [some (.ref (0 : Nat))] [some (.ref (432 : Nat)), none] c s t := by
  obtain ⟨w, G, ver, hC, hM, hG, hw, hv⟩ := h
  have hF := hC.1.1
  have hM0 := hM.t0
  have hD := hG.2.2.1
  have hDc : (yD G).1 ≤ 20 := hD.1
  have hd5 := hC.2.2.2.1
  have hdM := hM0.2.2.2.2.2.1
  have c62 := hdM.1
  have r06 := hF.u 0 6 306 (by decide +kernel)
  have hn24 : wn w ≤ 24 := hw.2.2.1
  by_cases c0 : (yD G).1 = 0
  · have tb := d_turnBack (g := g) (d := d + 34) (s := s) (a := 5) (by decide) hd5.1 hDc
    rw [if_neg (by omega)] at tb
    refine ⟨-1, s, _, ?_, ?_, ⟨w, G, ver, hC, hM0, hG, hw, by omega⟩, CLK.rf, t0_mlk⟩
    · simp (disch := first | exact jm_lt0 | (apply jm_ltx; (repeat (first | exact jw_0 | apply jw_i | apply jw_r | apply jw_l)); omega) | omega | assumption | exact sa_0 | exact sa_5 | exact n32_inA sb_0 (by omega) (by omega) | exact n32_inA sb_5 (by omega) (by omega) | (refine n32_inA (by assumption) ?_ ?_ <;> omega) | exact bi01 | (rw [sa_0]; omega) | (rw [sa_5]; omega) | decide) only [sX11_undo_0, sX11_undo_1, sX11_undo_4, sX11_undo_7, sX11_undo_10, sX11_undo_11, sX11_undo_12, sX11_undo_13, sX11_undo_16, sX11_undo_19, sX11_undo_20, sX11_undo_23, sX11_undo_26, evK_n, evK_v, evK_x, gI_pI, gJ_pI, gR_pI, gI_pJ, gJ_pJ, gR_pJ, gI_pR, gJ_pR, gR_pR, if_true, if_false, not_true_eq_false, not_false_eq_true, and_true, true_and, and_false, false_and, and_self, or_true, true_or, or_false, false_or, or_self, ne_eq, Decidable.not_not, Nat.reduceEqDiff, Nat.reduceEqDiff, n32_le, n32_lt, n32_add, n32_mul, n32_cl, sa_0, sb_0, sa_5, sb_5, c11_diary hF, tb, z32]
    · have c0' : gI (pI t 432 0 (Int32.ofNat 0)) 432 62 = 0 := by rw [c62, c0]; rfl
      generalize ht : pI t 432 0 (Int32.ofNat 0) = t0 at *
      simp (disch := first | exact jm_lt0 | (apply jm_ltx; (repeat (first | exact jw_0 | apply jw_i | apply jw_r | apply jw_l)); omega) | omega | assumption | exact sa_432 | exact n32_inA sb_432 (by omega) (by omega) | (refine n32_inA (by assumption) ?_ ?_ <;> omega) | exact bi01 | (rw [sa_432]; omega) | decide) only [sX12_undo_0, sX12_undo_1, sX12_undo_2, sX12_undo_5, sX12_undo_6, sX12_undo_9, sX12_undo_12, sX12_undo_13, sX12_undo_14, sX12_undo_15, sX12_undo_16, sX12_undo_19, sX12_undo_20, sX12_undo_21, sX12_undo_24, sX12_undo_25, sX12_undo_27, sX12_undo_29, sX12_undo_32, sX12_undo_33, sX12_undo_36, sX12_undo_37, sX12_undo_38, sX12_undo_41, sX12_undo_43, sX12_undo_44, sX12_undo_47, sX12_undo_48, sX12_undo_49, sX12_undo_50, sX12_undo_51, sX12_undo_52, sX12_undo_53, sX12_undo_56, sX12_undo_57, sX12_undo_58, sX12_undo_61, sX12_undo_63, sX12_undo_64, sX12_undo_67, sX12_undo_68, sX12_undo_70, sX12_undo_71, sX12_undo_72, sX12_undo_73, sX12_undo_74, sX12_undo_75, sX12_undo_78, kX12_undo_81_AI, sX12_undo_81, sX12_undo_82, sX12_undo_83, sX12_undo_86, sX12_undo_88, sX12_undo_89, sX12_undo_92, sX12_undo_93, sX12_undo_95, sX12_undo_96, sX12_undo_97, sX12_undo_100, sX12_undo_101, sX12_undo_104, ht, evK_n, evK_v, evK_x, gI_pI, gJ_pI, gR_pI, gI_pJ, gJ_pJ, gR_pJ, gI_pR, gJ_pR, gR_pR, if_true, if_false, not_true_eq_false, not_false_eq_true, and_true, true_and, and_false, false_and, and_self, or_true, true_or, or_false, false_or, or_self, ne_eq, Decidable.not_not, Nat.reduceEqDiff, Nat.reduceEqDiff, n32_le, n32_lt, n32_add, n32_mul, n32_cl, sa_432, sb_432, c0']
  · have tb := d_turnBack (g := g) (d := d + 34) (s := s) (a := 5) (by decide) hd5.1 hDc
    rw [if_pos (by omega)] at tb
    have hF1 : FX (pI s 5 0 (Int32.ofNat ((yD G).1 - 1))) := hF.pI
    have fg := fun d => c6_forget (g := g) (d := d) (s := pI s 5 0 (Int32.ofNat ((yD G).1 - 1))) (ver := ver) (by rw [gI_pI, if_neg (by omega), hC.1.2.2.2.2.1])
    have r06b := hF1.u 0 6 306 (by decide +kernel)
    have hFa : FX (pI (pI s 5 0 (Int32.ofNat ((yD G).1 - 1))) 306 1 (Int32.ofNat (ver + 1))) := hF1.pI
    have hDD : drOK ((yD G).1 - 1, (yD G).2) := ⟨by show (yD G).1 - 1 ≤ 20; omega, fun k hk => hD.2 k (by have hk' : k ≤ (yD G).1 - 1 := hk; omega)⟩
    have hdd : drC (pI (pI s 5 0 (Int32.ofNat ((yD G).1 - 1))) 306 1 (Int32.ofNat (ver + 1))) 5 ((yD G).1 - 1, (yD G).2) := ⟨by rw [gI_pI, if_neg (by omega), gI_pI, if_pos ⟨rfl, rfl⟩], fun k hk => by
      have hk' : k ≤ (yD G).1 - 1 := hk
      exact (hd5.2 k (by omega)).of (hD.2 k (by omega)) (fun b j hb => by rw [gI_pI, if_neg (by omega), gI_pI, if_neg (by omega)])⟩
    -- the model
    generalize ht : pI t 432 0 (Int32.ofNat 0) = t0 at *
    have hF0 : FX (pI t0 432 62 (Int32.ofNat ((yD G).1 - 1))) := hM0.1.pI
    obtain ⟨t1, f1, f2, f3⟩ := m_undoLoop (g := g) (d := d + 35) (ch := (yD G).1 - 1) hF0 (by omega) (by rw [gI_pI, if_pos ⟨rfl, rfl⟩]) 24 0 _ rfl FM.rf (fun j hj => by omega)
    have hFt := f2.fx hF0
    have r61 := hFt.u 432 61 458 (by decide +kernel)
    have c62b : gI t1 432 62 = Int32.ofNat ((yD G).1 - 1) := by rw [f2.2.1 _ _ (by omega), gI_pI, if_pos ⟨rfl, rfl⟩]
    obtain ⟨p1, p2⟩ := hdM.2 ((yD G).1 - 1) (by omega)
    have hn2 := (hD.2 ((yD G).1 - 1) (by omega))
    have m1 : gI t1 458 (49 * ((yD G).1 - 1) + 48) = Int32.ofNat ((yD G).2 ((yD G).1 - 1)).1 := by rw [f2.2.1 _ _ (by omega), gI_pI, if_neg (by omega), p1]
    have hV : MV (pI t1 432 19 (Int32.ofNat ((yD G).2 ((yD G).1 - 1)).1)) ((yD G).2 ((yD G).1 - 1)).1 ((yD G).2 ((yD G).1 - 1)).2.1 ((yD G).2 ((yD G).1 - 1)).2.2 := ⟨by rw [gI_pI, if_pos ⟨rfl, rfl⟩], hn2.1, fun v hv => by
      have := hn2.1
      obtain ⟨q1, q2⟩ := f3 v (by omega)
      rw [gI_pI, if_neg (by omega), gI_pI, if_neg (by omega), q1, q2, gI_pI, if_neg (by omega), gI_pI, if_neg (by omega)]
      exact ⟨⟨(p2 v hv).1, (hn2.2 v hv).1⟩, (p2 v hv).2, (hn2.2 v hv).2⟩⟩
    have hs2 : t1.2 = t0.2 := Prod.ext (funext fun b => funext fun j => by show gJ t1 b j = gJ t0 b j; rw [f2.2.2 b j (fun q => q)]; rfl) (by rw [f2.1]; rfl)
    have hfm : ∀ b j, ¬ (b = 439 ∨ b = 440 ∨ b = 458 ∨ (b = 432 ∧ (j = 0 ∨ j = 19 ∨ j = 62))) → gI (pI t1 432 19 (Int32.ofNat ((yD G).2 ((yD G).1 - 1)).1)) b j = gI t b j := fun b j hb => by rw [gI_pI, if_neg (by omega), f2.2.1 _ _ (by omega), gI_pI, if_neg (by omega), ← ht, gI_pI, if_neg (by omega)]
    have hdM2 : drM (pI t1 432 19 (Int32.ofNat ((yD G).2 ((yD G).1 - 1)).1)) ((yD G).1 - 1, (yD G).2) := ⟨by rw [gI_pI, if_neg (by omega), c62b], fun k hk => by
      have hk' : k < (yD G).1 - 1 := hk
      exact (hdM.2 k (by omega)).of (fun j => by rw [gI_pI, if_neg (by omega), f2.2.1 _ _ (by omega), gI_pI, if_neg (by omega)])⟩
    have hE2 : (pI t1 432 19 (Int32.ofNat ((yD G).2 ((yD G).1 - 1)).1)).2 = t.2 := by
      show t1.2 = t.2
      rw [hs2, ← ht]
      rfl
    refine ⟨Int32.ofNat ((yD G).1 - 1), pI (pI s 5 0 (Int32.ofNat ((yD G).1 - 1))) 306 1 (Int32.ofNat (ver + 1)), pI t1 432 19 (Int32.ofNat ((yD G).2 ((yD G).1 - 1)).1), ?_, ?_, ⟨_, _, ver + 1, hC.chg hG (by omega) rfl (fun b j k1 k2 => by rw [gI_pI, if_neg k2, gI_pI, if_neg (by omega)]) (by rw [gI_pI, if_pos ⟨rfl, rfl⟩]) hdd hDD, hM.chg hG hDD hE2 hfm hV hdM2, hG.chg hDD, wV_ok hw hn2, by omega⟩, chg_clk rfl (fun b j k1 k2 => by rw [gI_pI, if_neg k2, gI_pI, if_neg (by omega)]), chg_mlk hE2 hfm⟩
    · simp (disch := first | exact jm_lt0 | (apply jm_ltx; (repeat (first | exact jw_0 | apply jw_i | apply jw_r | apply jw_l)); omega) | omega | assumption | exact sa_0 | exact sa_5 | exact sa_306 | exact n32_inA sb_0 (by omega) (by omega) | exact n32_inA sb_5 (by omega) (by omega) | exact n32_inA sb_306 (by omega) (by omega) | (refine n32_inA (by assumption) ?_ ?_ <;> omega) | exact bi01 | (rw [sa_0]; omega) | (rw [sa_5]; omega) | (rw [sa_306]; omega) | decide) only [sX11_undo_0, sX11_undo_1, sX11_undo_4, sX11_undo_7, sX11_undo_10, sX11_undo_11, sX11_undo_12, sX11_undo_13, sX11_undo_16, sX11_undo_19, sX11_undo_20, sX11_undo_23, sX11_undo_26, evK_n, evK_v, evK_x, gI_pI, gJ_pI, gR_pI, gI_pJ, gJ_pJ, gR_pJ, gI_pR, gJ_pR, gR_pR, if_true, if_false, not_true_eq_false, not_false_eq_true, and_true, true_and, and_false, false_and, and_self, or_true, true_or, or_false, false_or, or_self, ne_eq, Decidable.not_not, Nat.reduceEqDiff, Nat.reduceEqDiff, n32_le, n32_lt, n32_add, n32_mul, n32_cl, sa_0, sb_0, sa_5, sb_5, sa_306, sb_306, c11_diary hF, tb, r06, r06b, fg, c11_diary hFa, c11_diary hF1, show ¬ (Int32.ofNat 1 = 0) by decide, show ¬ ((5 : Nat) = 306) by decide]
    · have c0' : ¬ Int32.ofNat (yD G).1 = 0 := by rw [n32_eq0 (by omega)]; exact c0
      have hsub : Int32.ofNat (yD G).1 - Int32.ofNat 1 = Int32.ofNat ((yD G).1 - 1) := n32_sub (by omega)
      have e0 : ev g (d + 35) mX12_undo 0 [some (.ref (432 : Nat)), none] [] t = ev g (d + 35) mX12_undo 26 [some (.ref (432 : Nat)), some (.int (Int32.ofNat 0))] [] (pI t0 432 62 (Int32.ofNat ((yD G).1 - 1))) := by
        simp (disch := first | exact jm_lt0 | (apply jm_ltx; (repeat (first | exact jw_0 | apply jw_i | apply jw_r | apply jw_l)); omega) | omega | assumption | exact sa_432 | exact n32_inA sb_432 (by omega) (by omega) | (refine n32_inA (by assumption) ?_ ?_ <;> omega) | exact bi01 | (rw [sa_432]; omega) | decide) only [sX12_undo_0, sX12_undo_1, sX12_undo_2, sX12_undo_5, sX12_undo_6, sX12_undo_9, sX12_undo_12, sX12_undo_13, sX12_undo_14, sX12_undo_15, sX12_undo_16, sX12_undo_19, sX12_undo_20, sX12_undo_21, sX12_undo_24, sX12_undo_25, sX12_undo_27, sX12_undo_29, sX12_undo_32, sX12_undo_33, sX12_undo_36, sX12_undo_37, sX12_undo_38, sX12_undo_41, sX12_undo_43, sX12_undo_44, sX12_undo_47, sX12_undo_48, sX12_undo_49, sX12_undo_50, sX12_undo_51, sX12_undo_52, sX12_undo_53, sX12_undo_56, sX12_undo_57, sX12_undo_58, sX12_undo_61, sX12_undo_63, sX12_undo_64, sX12_undo_67, sX12_undo_68, sX12_undo_70, sX12_undo_71, sX12_undo_72, sX12_undo_73, sX12_undo_74, sX12_undo_75, sX12_undo_78, kX12_undo_81_AI, sX12_undo_82, sX12_undo_83, sX12_undo_86, sX12_undo_88, sX12_undo_89, sX12_undo_92, sX12_undo_93, sX12_undo_95, sX12_undo_96, sX12_undo_97, sX12_undo_100, sX12_undo_101, sX12_undo_104, ht, evK_n, evK_v, evK_x, gI_pI, gJ_pI, gR_pI, gI_pJ, gJ_pJ, gR_pJ, gI_pR, gJ_pR, gR_pR, if_true, if_false, not_true_eq_false, not_false_eq_true, and_true, true_and, and_false, false_and, and_self, or_true, true_or, or_false, false_or, or_self, ne_eq, Decidable.not_not, Nat.reduceEqDiff, Nat.reduceEqDiff, n32_le, n32_lt, n32_add, n32_mul, n32_cl, sa_432, sb_432, c62, c0', hsub]
      rw [e0, f1]
      simp (disch := first | exact jm_lt0 | (apply jm_ltx; (repeat (first | exact jw_0 | apply jw_i | apply jw_r | apply jw_l)); omega) | omega | assumption | exact sa_432 | exact sa_458 | exact n32_inA sb_432 (by omega) (by omega) | exact n32_inA sb_458 (by omega) (by omega) | (refine n32_inA (by assumption) ?_ ?_ <;> omega) | exact bi01 | (rw [sa_432]; omega) | (rw [sa_458]; omega) | decide) only [sX12_undo_0, sX12_undo_1, sX12_undo_2, sX12_undo_5, sX12_undo_6, sX12_undo_9, sX12_undo_12, sX12_undo_13, sX12_undo_14, sX12_undo_15, sX12_undo_16, sX12_undo_19, sX12_undo_20, sX12_undo_21, sX12_undo_24, sX12_undo_25, sX12_undo_27, sX12_undo_29, sX12_undo_32, sX12_undo_33, sX12_undo_36, sX12_undo_37, sX12_undo_38, sX12_undo_41, sX12_undo_43, sX12_undo_44, sX12_undo_47, sX12_undo_48, sX12_undo_49, sX12_undo_50, sX12_undo_51, sX12_undo_52, sX12_undo_53, sX12_undo_56, sX12_undo_57, sX12_undo_58, sX12_undo_61, sX12_undo_63, sX12_undo_64, sX12_undo_67, sX12_undo_68, sX12_undo_70, sX12_undo_71, sX12_undo_72, sX12_undo_73, sX12_undo_74, sX12_undo_75, sX12_undo_78, kX12_undo_81_AI, sX12_undo_81, sX12_undo_82, sX12_undo_83, sX12_undo_86, sX12_undo_88, sX12_undo_89, sX12_undo_92, sX12_undo_93, sX12_undo_95, sX12_undo_96, sX12_undo_97, sX12_undo_100, sX12_undo_101, sX12_undo_104, evK_n, evK_v, evK_x, gI_pI, gJ_pI, gR_pI, gI_pJ, gJ_pJ, gR_pJ, gI_pR, gJ_pR, gR_pR, if_true, if_false, not_true_eq_false, not_false_eq_true, and_true, true_and, and_false, false_and, and_self, or_true, true_or, or_false, false_or, or_self, ne_eq, Decidable.not_not, Nat.reduceEqDiff, Nat.reduceEqDiff, n32_le, n32_lt, n32_add, n32_mul, n32_cl, sa_432, sb_432, sa_458, sb_458, r61, c62b, m1, show ¬ ((62 : Nat) = 19) by decide]
theorem m_krT {q a size la : Nat} {bb : Int32} (hb : ¬ bb = 0) {t0 : fm_S} (hF : FX t0) (ha : (shp a).1 = 60) (ha2 : (shp a).2 = la) (hla : size ≤ la ∧ la < 100000) (hne : a ≠ 459) (hq : q + size ≤ 3090) : ∀ (m k : Nat) (t : fm_S), k + m = size → FM (fun b j => b = 459 ∧ q ≤ j ∧ j < q + size) nO t0 t → (∀ j, j < k → gI t 459 (q + j) = gI t0 a j) → ∃ t', ev g d mX12_keepsRow 3 [some (.ref (432 : Nat)), some (.int (Int32.ofNat q)), some (.ref a), some (.int (Int32.ofNat size)), some (.int bb), some (.int (Int32.ofNat k))] [] t = some (.inl (some (.int (Int32.ofNat (q + size)))), t') ∧ FM (fun b j => b = 459 ∧ q ≤ j ∧ j < q + size) nO t0 t' ∧ ∀ j, j < size → gI t' 459 (q + j) = gI t0 a j := by
  intro m
  induction m with
  | zero =>
    intro k t hk hM hJ
    have hil : k = size := by omega
    subst hil
    refine ⟨t, ?_, hM, hJ⟩
    rw [sX12_keepsRow_3]
    simp (disch := first | exact jm_lt0 | (apply jm_ltx; (repeat (first | exact jw_0 | apply jw_i | apply jw_r | apply jw_l)); omega) | omega | assumption | (refine n32_inA (by assumption) ?_ ?_ <;> omega) | exact bi01 | decide) only [sX12_keepsRow_0, sX12_keepsRow_1, sX12_keepsRow_5, sX12_keepsRow_6, sX12_keepsRow_9, sX12_keepsRow_11, sX12_keepsRow_14, sX12_keepsRow_15, sX12_keepsRow_18, sX12_keepsRow_19, sX12_keepsRow_21, sX12_keepsRow_22, sX12_keepsRow_23, sX12_keepsRow_25, sX12_keepsRow_26, sX12_keepsRow_27, sX12_keepsRow_30, sX12_keepsRow_31, sX12_keepsRow_33, sX12_keepsRow_34, sX12_keepsRow_37, sX12_keepsRow_38, sX12_keepsRow_40, sX12_keepsRow_41, sX12_keepsRow_42, sX12_keepsRow_43, sX12_keepsRow_46, kX12_keepsRow_49_AIAIII, sX12_keepsRow_49, sX12_keepsRow_50, sX12_keepsRow_51, sX12_keepsRow_52, evK_n, evK_v, evK_x, gI_pI, gJ_pI, gR_pI, gI_pJ, gJ_pJ, gR_pJ, gI_pR, gJ_pR, gR_pR, if_true, if_false, not_true_eq_false, not_false_eq_true, and_true, true_and, and_false, false_and, and_self, or_true, true_or, or_false, false_or, or_self, ne_eq, Decidable.not_not, Nat.reduceEqDiff, Nat.reduceEqDiff, n32_le, n32_lt, n32_add, n32_mul, n32_cl]
    rw [if_pos (Nat.le_refl _)]
  | succ m ih =>
    intro k t hk hM hJ
    have hFt := hM.fx hF
    have r63 := hFt.u 432 63 459 (by decide +kernel)
    have m1 : gI t a k = gI t0 a k := hM.2.1 _ _ (by omega)
    have g1 : ¬ size ≤ k := by omega
    obtain ⟨t', f1, f2, f3⟩ := ih (k + 1) (pI t 459 (q + k) (gI t0 a k)) (by omega) (hM.tr (FM.pI (by omega))) (fun j hj => by
      by_cases cj : j = k
      · rw [cj, gI_pI, if_pos ⟨rfl, rfl⟩]
      · rw [gI_pI, if_neg (by omega), hJ j (by omega)])
    refine ⟨t', ?_, f2, f3⟩
    rw [sX12_keepsRow_3]
    simp (disch := first | exact jm_lt0 | (apply jm_ltx; (repeat (first | exact jw_0 | apply jw_i | apply jw_r | apply jw_l)); omega) | omega | assumption | exact sa_432 | exact sa_459 | exact n32_inA sb_432 (by omega) (by omega) | exact n32_inA sb_459 (by omega) (by omega) | (refine n32_inA (by assumption) ?_ ?_ <;> omega) | exact bi01 | (rw [sa_432]; omega) | (rw [sa_459]; omega) | decide) only [sX12_keepsRow_0, sX12_keepsRow_1, sX12_keepsRow_5, sX12_keepsRow_6, sX12_keepsRow_9, sX12_keepsRow_11, sX12_keepsRow_14, sX12_keepsRow_15, sX12_keepsRow_18, sX12_keepsRow_19, sX12_keepsRow_21, sX12_keepsRow_22, sX12_keepsRow_23, sX12_keepsRow_25, sX12_keepsRow_26, sX12_keepsRow_27, sX12_keepsRow_30, sX12_keepsRow_31, sX12_keepsRow_33, sX12_keepsRow_34, sX12_keepsRow_37, sX12_keepsRow_38, sX12_keepsRow_40, sX12_keepsRow_41, sX12_keepsRow_42, sX12_keepsRow_43, sX12_keepsRow_46, kX12_keepsRow_49_AIAIII, sX12_keepsRow_49, sX12_keepsRow_50, sX12_keepsRow_51, sX12_keepsRow_52, evK_n, evK_v, evK_x, gI_pI, gJ_pI, gR_pI, gI_pJ, gJ_pJ, gR_pJ, gI_pR, gJ_pR, gR_pR, if_true, if_false, not_true_eq_false, not_false_eq_true, and_true, true_and, and_false, false_and, and_self, or_true, true_or, or_false, false_or, or_self, ne_eq, Decidable.not_not, Nat.reduceEqDiff, Nat.reduceEqDiff, n32_le, n32_lt, n32_add, n32_mul, n32_cl, sa_432, sb_432, sa_459, sb_459, ha, ha2, g1, hb, r63, m1]
    exact f1
theorem m_krF {q a size la : Nat} {t0 : fm_S} (hF : FX t0) (ha : (shp a).1 = 60) (ha2 : (shp a).2 = la) (hla : size ≤ la ∧ la < 100000) (hne : a ≠ 459 ∧ a ≠ 432) (hq : q + size ≤ 3090) : ∀ (m k : Nat) (t : fm_S), k + m = size → FM (fun b _ => b = a) nO t0 t → (∀ j, j < k → gI t a j = gI t0 459 (q + j)) → ∃ t', ev g d mX12_keepsRow 3 [some (.ref (432 : Nat)), some (.int (Int32.ofNat q)), some (.ref a), some (.int (Int32.ofNat size)), some (.int (Int32.ofNat 0)), some (.int (Int32.ofNat k))] [] t = some (.inl (some (.int (Int32.ofNat (q + size)))), t') ∧ FM (fun b _ => b = a) nO t0 t' ∧ ∀ j, j < size → gI t' a j = gI t0 459 (q + j) := by
  intro m
  induction m with
  | zero =>
    intro k t hk hM hJ
    have hil : k = size := by omega
    subst hil
    refine ⟨t, ?_, hM, hJ⟩
    rw [sX12_keepsRow_3]
    simp (disch := first | exact jm_lt0 | (apply jm_ltx; (repeat (first | exact jw_0 | apply jw_i | apply jw_r | apply jw_l)); omega) | omega | assumption | (refine n32_inA (by assumption) ?_ ?_ <;> omega) | exact bi01 | decide) only [sX12_keepsRow_0, sX12_keepsRow_1, sX12_keepsRow_5, sX12_keepsRow_6, sX12_keepsRow_9, sX12_keepsRow_11, sX12_keepsRow_14, sX12_keepsRow_15, sX12_keepsRow_18, sX12_keepsRow_19, sX12_keepsRow_21, sX12_keepsRow_22, sX12_keepsRow_23, sX12_keepsRow_25, sX12_keepsRow_26, sX12_keepsRow_27, sX12_keepsRow_30, sX12_keepsRow_31, sX12_keepsRow_33, sX12_keepsRow_34, sX12_keepsRow_37, sX12_keepsRow_38, sX12_keepsRow_40, sX12_keepsRow_41, sX12_keepsRow_42, sX12_keepsRow_43, sX12_keepsRow_46, kX12_keepsRow_49_AIAIII, sX12_keepsRow_49, sX12_keepsRow_50, sX12_keepsRow_51, sX12_keepsRow_52, evK_n, evK_v, evK_x, gI_pI, gJ_pI, gR_pI, gI_pJ, gJ_pJ, gR_pJ, gI_pR, gJ_pR, gR_pR, if_true, if_false, not_true_eq_false, not_false_eq_true, and_true, true_and, and_false, false_and, and_self, or_true, true_or, or_false, false_or, or_self, ne_eq, Decidable.not_not, Nat.reduceEqDiff, Nat.reduceEqDiff, n32_le, n32_lt, n32_add, n32_mul, n32_cl]
    rw [if_pos (Nat.le_refl _)]
  | succ m ih =>
    intro k t hk hM hJ
    have hFt := hM.fx hF
    have r63 := hFt.u 432 63 459 (by decide +kernel)
    have m1 : gI t 459 (q + k) = gI t0 459 (q + k) := hM.2.1 _ _ (by omega)
    have g1 : ¬ size ≤ k := by omega
    obtain ⟨t', f1, f2, f3⟩ := ih (k + 1) (pI t a k (gI t0 459 (q + k))) (by omega) (hM.tr (FM.pI rfl)) (fun j hj => by
      by_cases cj : j = k
      · rw [cj, gI_pI, if_pos ⟨rfl, rfl⟩]
      · rw [gI_pI, if_neg (by omega), hJ j (by omega)])
    refine ⟨t', ?_, f2, f3⟩
    rw [sX12_keepsRow_3]
    simp (disch := first | exact jm_lt0 | (apply jm_ltx; (repeat (first | exact jw_0 | apply jw_i | apply jw_r | apply jw_l)); omega) | omega | assumption | exact sa_432 | exact sa_459 | exact n32_inA sb_432 (by omega) (by omega) | exact n32_inA sb_459 (by omega) (by omega) | (refine n32_inA (by assumption) ?_ ?_ <;> omega) | exact bi01 | (rw [sa_432]; omega) | (rw [sa_459]; omega) | decide) only [sX12_keepsRow_0, sX12_keepsRow_1, sX12_keepsRow_5, sX12_keepsRow_6, sX12_keepsRow_9, sX12_keepsRow_11, sX12_keepsRow_14, sX12_keepsRow_15, sX12_keepsRow_18, sX12_keepsRow_19, sX12_keepsRow_21, sX12_keepsRow_22, sX12_keepsRow_23, sX12_keepsRow_25, sX12_keepsRow_26, sX12_keepsRow_27, sX12_keepsRow_30, sX12_keepsRow_31, sX12_keepsRow_33, sX12_keepsRow_34, sX12_keepsRow_37, sX12_keepsRow_38, sX12_keepsRow_40, sX12_keepsRow_41, sX12_keepsRow_42, sX12_keepsRow_43, sX12_keepsRow_46, kX12_keepsRow_49_AIAIII, sX12_keepsRow_49, sX12_keepsRow_50, sX12_keepsRow_51, sX12_keepsRow_52, evK_n, evK_v, evK_x, gI_pI, gJ_pI, gR_pI, gI_pJ, gJ_pJ, gR_pJ, gI_pR, gJ_pR, gR_pR, if_true, if_false, not_true_eq_false, not_false_eq_true, and_true, true_and, and_false, false_and, and_self, or_true, true_or, or_false, false_or, or_self, ne_eq, Decidable.not_not, Nat.reduceEqDiff, Nat.reduceEqDiff, n32_le, n32_lt, n32_add, n32_mul, n32_cl, sa_432, sb_432, sa_459, sb_459, ha, ha2, g1, z32, r63, m1]
    exact f1
theorem krT {q a size la : Nat} (hF : FX t) (ha : (shp a).1 = 60) (ha2 : (shp a).2 = la) (hla : size ≤ la ∧ la < 100000) (hne : a ≠ 459) (hq : q + size ≤ 3090) : ∃ t', ev g d mX12_keepsRow 0 [some (.ref (432 : Nat)), some (.int (Int32.ofNat q)), some (.ref a), some (.int (Int32.ofNat size)), some (.int (Int32.ofNat 1)), none] [] t = some (.inl (some (.int (Int32.ofNat (q + size)))), t') ∧ FM (fun b j => b = 459 ∧ q ≤ j ∧ j < q + size) nO t t' ∧ ∀ j, j < size → gI t' 459 (q + j) = gI t a j := by
  obtain ⟨t', f1, f2, f3⟩ := m_krT (g := g) (d := d) (bb := Int32.ofNat 1) (by decide) hF ha ha2 hla hne hq size 0 t (by omega) FM.rf (fun j hj => by omega)
  exact ⟨t', by rw [sX12_keepsRow_0, sX12_keepsRow_1]; exact f1, f2, f3⟩
theorem krF {q a size la : Nat} (hF : FX t) (ha : (shp a).1 = 60) (ha2 : (shp a).2 = la) (hla : size ≤ la ∧ la < 100000) (hne : a ≠ 459 ∧ a ≠ 432) (hq : q + size ≤ 3090) : ∃ t', ev g d mX12_keepsRow 0 [some (.ref (432 : Nat)), some (.int (Int32.ofNat q)), some (.ref a), some (.int (Int32.ofNat size)), some (.int (Int32.ofNat 0)), none] [] t = some (.inl (some (.int (Int32.ofNat (q + size)))), t') ∧ FM (fun b _ => b = a) nO t t' ∧ ∀ j, j < size → gI t' a j = gI t 459 (q + j) := by
  obtain ⟨t', f1, f2, f3⟩ := m_krF (g := g) (d := d) hF ha ha2 hla hne hq size 0 t (by omega) FM.rf (fun j hj => by omega)
  exact ⟨t', by rw [sX12_keepsRow_0, sX12_keepsRow_1]; exact f1, f2, f3⟩
/-- an image is kept -/
theorem m_keepT {i : Nat} {D : DR} (hF : FX t) (hi : i < 3) (hD : drOK D) (hV : MV t (D.2 D.1).1 (D.2 D.1).2.1 (D.2 D.1).2.2) (hd : drM t D) : ∃ t', ev g (d + 1) mX12_keepsAll 0 [some (.ref (432 : Nat)), some (.int (Int32.ofNat i)), some (.int (Int32.ofNat 1)), none] [] t = some (.inl none, t') ∧ FM (fun b j => b = 459 ∧ 1030 * i ≤ j ∧ j < 1030 * i + 1030) nO t t' ∧ imM t' i D := by
  have r14 := hF.u 432 14 439 (by decide +kernel)
  obtain ⟨t1, e1, x1, y1⟩ := krT (g := g) (d := d) (q := 1030 * i) (a := 439) (size := 24) hF (by decide +kernel) rfl (by decide +kernel) (by decide) (by omega)
  have hF1 := x1.fx hF
  have r15 := hF1.u 432 15 440 (by decide +kernel)
  obtain ⟨t2, e2, x2, y2⟩ := krT (g := g) (d := d) (q := 1030 * i + 24) (a := 440) (size := 24) hF1 (by decide +kernel) rfl (by decide +kernel) (by decide) (by omega)
  have hF2 := x2.fx hF1
  have r61 := hF2.u 432 61 458 (by decide +kernel)
  obtain ⟨t3, e3, x3, y3⟩ := krT (g := g) (d := d) (q := 1030 * i + 24 + 24) (a := 458) (size := 980) hF2 (by decide +kernel) rfl (by decide +kernel) (by decide) (by omega)
  have hF3 := x3.fx hF2
  have r63 := hF3.u 432 63 459 (by decide +kernel)
  have k1 : ∀ b j, b ≠ 459 → gI t1 b j = gI t b j := fun b j hb => x1.2.1 _ _ (by omega)
  have k2 : ∀ b j, b ≠ 459 → gI t2 b j = gI t b j := fun b j hb => (x2.2.1 _ _ (by omega)).trans (k1 b j hb)
  have k3 : ∀ b j, b ≠ 459 → gI t3 b j = gI t b j := fun b j hb => (x3.2.1 _ _ (by omega)).trans (k2 b j hb)
  have c19 : gI t3 432 19 = Int32.ofNat (D.2 D.1).1 := by rw [k3 _ _ (by omega), hV.1]
  have c62 : gI t3 432 62 = Int32.ofNat D.1 := by rw [k3 _ _ (by omega), hd.1]
  have hDc := hD.1
  have hcur := (hD.2 D.1 (Nat.le_refl _)).1
  refine ⟨pI (pI t3 459 (1030 * i + 24 + 24 + 980) (Int32.ofNat (D.2 D.1).1)) 459 (1030 * i + 24 + 24 + 980 + 1) (Int32.ofNat D.1), ?_, ((((x1.mono (fun b j q => by omega) (fun _ _ q => q)).tr (x2.mono (fun b j q => by omega) (fun _ _ q => q))).tr (x3.mono (fun b j q => by omega) (fun _ _ q => q))).tr (FM.pI (by omega))).tr (FM.pI (by omega)), ?_, ⟨?_, fun v hv => ⟨?_, ?_⟩⟩, fun k hk => ?_⟩
  · simp (disch := first | exact jm_lt0 | (apply jm_ltx; (repeat (first | exact jw_0 | apply jw_i | apply jw_r | apply jw_l)); omega) | omega | assumption | exact sa_432 | exact sa_459 | exact n32_inA sb_432 (by omega) (by omega) | exact n32_inA sb_459 (by omega) (by omega) | (refine n32_inA (by assumption) ?_ ?_ <;> omega) | exact bi01 | (rw [sa_432]; omega) | (rw [sa_459]; omega) | decide) only [sX12_keepsAll_0, sX12_keepsAll_1, sX12_keepsAll_4, sX12_keepsAll_5, sX12_keepsAll_6, sX12_keepsAll_7, sX12_keepsAll_10, sX12_keepsAll_12, sX12_keepsAll_13, sX12_keepsAll_16, sX12_keepsAll_17, sX12_keepsAll_18, sX12_keepsAll_19, sX12_keepsAll_20, sX12_keepsAll_23, sX12_keepsAll_25, sX12_keepsAll_26, sX12_keepsAll_29, sX12_keepsAll_30, sX12_keepsAll_31, sX12_keepsAll_32, sX12_keepsAll_33, sX12_keepsAll_36, sX12_keepsAll_39, sX12_keepsAll_40, sX12_keepsAll_43, sX12_keepsAll_44, sX12_keepsAll_45, sX12_keepsAll_48, sX12_keepsAll_49, sX12_keepsAll_52, sX12_keepsAll_53, sX12_keepsAll_54, sX12_keepsAll_57, sX12_keepsAll_58, sX12_keepsAll_59, sX12_keepsAll_62, sX12_keepsAll_63, sX12_keepsAll_64, sX12_keepsAll_65, sX12_keepsAll_66, sX12_keepsAll_69, sX12_keepsAll_70, kX12_keepsAll_73_AIII, sX12_keepsAll_73, sX12_keepsAll_74, sX12_keepsAll_75, sX12_keepsAll_78, sX12_keepsAll_79, sX12_keepsAll_80, sX12_keepsAll_83, sX12_keepsAll_84, sX12_keepsAll_85, sX12_keepsAll_88, sX12_keepsAll_89, sX12_keepsAll_90, sX12_keepsAll_91, sX12_keepsAll_92, kX12_keepsAll_95_AIII, kX12_keepsAll_95_ANNI, sX12_keepsAll_95, evK_n, evK_v, evK_x, gI_pI, gJ_pI, gR_pI, gI_pJ, gJ_pJ, gR_pJ, gI_pR, gJ_pR, gR_pR, if_true, if_false, not_true_eq_false, not_false_eq_true, and_true, true_and, and_false, false_and, and_self, or_true, true_or, or_false, false_or, or_self, ne_eq, Decidable.not_not, Nat.reduceEqDiff, Nat.reduceEqDiff, n32_le, n32_lt, n32_add, n32_mul, n32_cl, sa_432, sb_432, sa_459, sb_459, r14, e1, r15, e2, r61, e3, r63, c19, c62, show ¬ (Int32.ofNat 1 = 0) by decide, show ¬ ((432 : Nat) = 459) by decide]
  · rw [gI_pI, if_pos ⟨rfl, by omega⟩]
  · rw [gI_pI, if_neg (by omega), gI_pI, if_pos ⟨rfl, by omega⟩]
  · rw [gI_pI, if_neg (by omega), gI_pI, if_neg (by omega), x3.2.1 _ _ (by omega), x2.2.1 _ _ (by omega), y1 v (by omega)]
    exact (hV.2.2 v hv).1.1
  · rw [gI_pI, if_neg (by omega), gI_pI, if_neg (by omega), x3.2.1 _ _ (by omega), y2 v (by omega), k1 _ _ (by omega)]
    exact (hV.2.2 v hv).2.1
  · obtain ⟨p1, p2⟩ := hd.2 k hk
    have hn := (hD.2 k (by omega)).1
    have z : ∀ j, j < 980 → gI (pI (pI t3 459 (1030 * i + 24 + 24 + 980) (Int32.ofNat (D.2 D.1).1)) 459 (1030 * i + 24 + 24 + 980 + 1) (Int32.ofNat D.1)) 459 (1030 * i + 24 + 24 + j) = gI t 458 j := fun j hj => by
      rw [gI_pI, if_neg (by omega), gI_pI, if_neg (by omega), y3 j hj, k2 _ _ (by omega)]
    refine ⟨?_, fun v hv => ⟨?_, ?_⟩⟩
    · have := z (49 * k + 48) (by omega)
      rw [show 1030 * i + 48 + 49 * k + 48 = 1030 * i + 24 + 24 + (49 * k + 48) by omega, this, p1]
    · have := z (49 * k + v) (by omega)
      rw [show 1030 * i + 48 + 49 * k + v = 1030 * i + 24 + 24 + (49 * k + v) by omega, this, (p2 v hv).1]
    · have := z (49 * k + 24 + v) (by omega)
      rw [show 1030 * i + 48 + 49 * k + 24 + v = 1030 * i + 24 + 24 + (49 * k + 24 + v) by omega, this, (p2 v hv).2]
/-- all is as in an image -/
theorem m_keepF {i : Nat} {D : DR} (hF : FX t) (hi : i < 3) (hD : drOK D) (him : imM t i D) : ∃ t', ev g (d + 1) mX12_keepsAll 0 [some (.ref (432 : Nat)), some (.int (Int32.ofNat i)), some (.int (Int32.ofNat 0)), none] [] t = some (.inl none, t') ∧ FM (fun b j => b = 439 ∨ b = 440 ∨ b = 458 ∨ (b = 432 ∧ (j = 19 ∨ j = 62))) nO t t' ∧ MV t' (D.2 D.1).1 (D.2 D.1).2.1 (D.2 D.1).2.2 ∧ drM t' D := by
  have r14 := hF.u 432 14 439 (by decide +kernel)
  obtain ⟨t1, e1, x1, y1⟩ := krF (g := g) (d := d) (q := 1030 * i) (a := 439) (size := 24) hF (by decide +kernel) rfl (by decide +kernel) (by decide) (by omega)
  have hF1 := x1.fx hF
  have r15 := hF1.u 432 15 440 (by decide +kernel)
  obtain ⟨t2, e2, x2, y2⟩ := krF (g := g) (d := d) (q := 1030 * i + 24) (a := 440) (size := 24) hF1 (by decide +kernel) rfl (by decide +kernel) (by decide) (by omega)
  have hF2 := x2.fx hF1
  have r61 := hF2.u 432 61 458 (by decide +kernel)
  obtain ⟨t3, e3, x3, y3⟩ := krF (g := g) (d := d) (q := 1030 * i + 24 + 24) (a := 458) (size := 980) hF2 (by decide +kernel) rfl (by decide +kernel) (by decide) (by omega)
  have hF3 := x3.fx hF2
  have r63 := hF3.u 432 63 459 (by decide +kernel)
  obtain ⟨i1, ⟨i2, i3⟩, i4⟩ := him
  have k1 : ∀ j, gI t1 459 j = gI t 459 j := fun j => x1.2.1 _ _ (by omega)
  have k2 : ∀ j, gI t2 459 j = gI t 459 j := fun j => (x2.2.1 _ _ (by omega)).trans (k1 j)
  have k3 : ∀ j, gI t3 459 j = gI t 459 j := fun j => (x3.2.1 _ _ (by omega)).trans (k2 j)
  have c19 : gI t3 459 (1030 * i + 24 + 24 + 980) = Int32.ofNat (D.2 D.1).1 := by rw [k3, show 1030 * i + 24 + 24 + 980 = 1030 * i + 1028 by omega, i2]
  have c62 : gI t3 459 (1030 * i + 24 + 24 + 980 + 1) = Int32.ofNat D.1 := by rw [k3, show 1030 * i + 24 + 24 + 980 + 1 = 1030 * i + 1029 by omega, i1]
  have hDc := hD.1
  have hcur := hD.2 D.1 (Nat.le_refl _)
  have hc24 := hcur.1
  refine ⟨pI (pI t3 432 19 (Int32.ofNat (D.2 D.1).1)) 432 62 (Int32.ofNat D.1), ?_, ((((x1.mono (fun b j q => by omega) (fun _ _ q => q)).tr (x2.mono (fun b j q => by omega) (fun _ _ q => q))).tr (x3.mono (fun b j q => by omega) (fun _ _ q => q))).tr (FM.pI (by omega))).tr (FM.pI (by omega)), ⟨?_, hcur.1, fun v hv => ⟨⟨?_, (hcur.2 v hv).1⟩, ?_, (hcur.2 v hv).2⟩⟩, ?_, fun k hk => ?_⟩
  · simp (disch := first | exact jm_lt0 | (apply jm_ltx; (repeat (first | exact jw_0 | apply jw_i | apply jw_r | apply jw_l)); omega) | omega | assumption | exact sa_432 | exact sa_459 | exact n32_inA sb_432 (by omega) (by omega) | exact n32_inA sb_459 (by omega) (by omega) | (refine n32_inA (by assumption) ?_ ?_ <;> omega) | exact bi01 | (rw [sa_432]; omega) | (rw [sa_459]; omega) | decide) only [sX12_keepsAll_0, sX12_keepsAll_1, sX12_keepsAll_4, sX12_keepsAll_5, sX12_keepsAll_6, sX12_keepsAll_7, sX12_keepsAll_10, sX12_keepsAll_12, sX12_keepsAll_13, sX12_keepsAll_16, sX12_keepsAll_17, sX12_keepsAll_18, sX12_keepsAll_19, sX12_keepsAll_20, sX12_keepsAll_23, sX12_keepsAll_25, sX12_keepsAll_26, sX12_keepsAll_29, sX12_keepsAll_30, sX12_keepsAll_31, sX12_keepsAll_32, sX12_keepsAll_33, sX12_keepsAll_36, sX12_keepsAll_39, sX12_keepsAll_40, sX12_keepsAll_43, sX12_keepsAll_44, sX12_keepsAll_45, sX12_keepsAll_48, sX12_keepsAll_49, sX12_keepsAll_52, sX12_keepsAll_53, sX12_keepsAll_54, sX12_keepsAll_57, sX12_keepsAll_58, sX12_keepsAll_59, sX12_keepsAll_62, sX12_keepsAll_63, sX12_keepsAll_64, sX12_keepsAll_65, sX12_keepsAll_66, sX12_keepsAll_69, sX12_keepsAll_70, kX12_keepsAll_73_AIII, sX12_keepsAll_73, sX12_keepsAll_74, sX12_keepsAll_75, sX12_keepsAll_78, sX12_keepsAll_79, sX12_keepsAll_80, sX12_keepsAll_83, sX12_keepsAll_84, sX12_keepsAll_85, sX12_keepsAll_88, sX12_keepsAll_89, sX12_keepsAll_90, sX12_keepsAll_91, sX12_keepsAll_92, kX12_keepsAll_95_AIII, kX12_keepsAll_95_ANNI, sX12_keepsAll_95, evK_n, evK_v, evK_x, gI_pI, gJ_pI, gR_pI, gI_pJ, gJ_pJ, gR_pJ, gI_pR, gJ_pR, gR_pR, if_true, if_false, not_true_eq_false, not_false_eq_true, and_true, true_and, and_false, false_and, and_self, or_true, true_or, or_false, false_or, or_self, ne_eq, Decidable.not_not, Nat.reduceEqDiff, Nat.reduceEqDiff, n32_le, n32_lt, n32_add, n32_mul, n32_cl, sa_432, sb_432, sa_459, sb_459, r14, e1, r15, e2, r61, e3, r63, c19, c62, z32, show ¬ ((459 : Nat) = 432) by decide]
  · rw [gI_pI, if_neg (by omega), gI_pI, if_pos ⟨rfl, rfl⟩]
  · rw [gI_pI, if_neg (by omega), gI_pI, if_neg (by omega), x3.2.1 _ _ (by omega), x2.2.1 _ _ (by omega), y1 v (by omega)]
    exact (i3 v hv).1
  · rw [gI_pI, if_neg (by omega), gI_pI, if_neg (by omega), x3.2.1 _ _ (by omega), y2 v (by omega), k1]
    exact (i3 v hv).2
  · rw [gI_pI, if_pos ⟨rfl, rfl⟩]
  · obtain ⟨p1, p2⟩ := i4 k hk
    have hn := (hD.2 k (by omega)).1
    have z : ∀ j, j < 980 → gI (pI (pI t3 432 19 (Int32.ofNat (D.2 D.1).1)) 432 62 (Int32.ofNat D.1)) 458 j = gI t 459 (1030 * i + 24 + 24 + j) := fun j hj => by
      rw [gI_pI, if_neg (by omega), gI_pI, if_neg (by omega), y3 j hj, k2]
    refine ⟨?_, fun v hv => ⟨?_, ?_⟩⟩
    · rw [z _ (by omega), show 1030 * i + 24 + 24 + (49 * k + 48) = 1030 * i + 48 + 49 * k + 48 by omega, p1]
    · rw [z _ (by omega), show 1030 * i + 24 + 24 + (49 * k + v) = 1030 * i + 48 + 49 * k + v by omega, (p2 v hv).1]
    · rw [z _ (by omega), show 1030 * i + 24 + 24 + (49 * k + 24 + v) = 1030 * i + 48 + 49 * k + 24 + v by omega, (p2 v hv).2]
theorem drC.copied {s' : fm_S} {a b : Nat} {D : DR} (h : drC s a D) (hD : drOK D) (h1 : diC s s' a b (D.1 + 1)) (h0 : gI s' b 0 = Int32.ofNat D.1) : drC s' b D := ⟨h0, fun k hk => by
  obtain ⟨p1, p2⟩ := h.2 k hk
  obtain ⟨q1, q2⟩ := h1.2.2 k (by omega)
  have hn := (hD.2 k hk).1
  exact ⟨by rw [q1, p1], fun v hv => ⟨by rw [(q2 v (by omega)).1, (p2 v hv).1], by rw [(q2 v (by omega)).2, (p2 v hv).2]⟩⟩⟩
theorem im_in {i : Nat} (h : i < 3) : 168 + 46 * i ∈ diL := by
  have : i = 0 ∨ i = 1 ∨ i = 2 := by omega
  rcases this with rfl | rfl | rfl <;> decide
theorem opn_image (h : Inv c s t) : OpN g (d + 35) mX11_image mX12_image [some (.ref (0 : Nat))] [some (.ref (432 : Nat))] c s t := by
  obtain ⟨w, G, ver, hC, hM, hG, hw, hv⟩ := h
  have hF := hC.1.1
  have hM0 := hM.t0
  have hD := hG.2.2.1
  have hcur := hG.2.2.2.2.2
  have hik : yik G ≤ 3 := hG.2.2.2.1
  have hd5 := hC.2.2.2.1
  have a8 := hC.2.2.2.2.1
  have b64 := hM0.2.2.2.2.2.2.1
  have r05 := hF.u 0 5 167 (by decide +kernel)
  have hn24 : wn w ≤ 24 := hw.2.2.1
  by_cases c3 : yik G = 3
  · refine ⟨-1, s, _, ?_, ?_, ⟨w, G, ver, hC, hM0, hG, hw, by omega⟩, CLK.rf, t0_mlk⟩
    · simp (disch := first | exact jm_lt0 | (apply jm_ltx; (repeat (first | exact jw_0 | apply jw_i | apply jw_r | apply jw_l)); omega) | omega | assumption | exact sa_0 | exact sa_167 | exact n32_inA sb_0 (by omega) (by omega) | exact n32_inA sb_167 (by omega) (by omega) | (refine n32_inA (by assumption) ?_ ?_ <;> omega) | exact bi01 | (rw [sa_0]; omega) | (rw [sa_167]; omega) | decide) only [sX11_image_0, sX11_image_1, sX11_image_4, sX11_image_7, sX11_image_8, sX11_image_11, sX11_image_12, sX11_image_15, sX11_image_16, sX11_image_19, sX11_image_20, sX11_image_23, sX11_image_24, sX11_image_27, sX11_image_28, kX11_image_31_A, sX11_image_31, sX11_image_32, sX11_image_33, sX11_image_34, sX11_image_37, sX11_image_38, sX11_image_41, sX11_image_42, sX11_image_43, sX11_image_46, sX11_image_49, sX11_image_50, sX11_image_51, sX11_image_54, sX11_image_55, sX11_image_56, sX11_image_59, sX11_image_60, sX11_image_63, evK_n, evK_v, evK_x, gI_pI, gJ_pI, gR_pI, gI_pJ, gJ_pJ, gR_pJ, gI_pR, gJ_pR, gR_pR, if_true, if_false, not_true_eq_false, not_false_eq_true, and_true, true_and, and_false, false_and, and_self, or_true, true_or, or_false, false_or, or_self, ne_eq, Decidable.not_not, Nat.reduceEqDiff, Nat.reduceEqDiff, n32_le, n32_lt, n32_add, n32_mul, n32_cl, sa_0, sb_0, sa_167, sb_167, r05, a8, c3, n32_lt0, Nat.lt_irrefl, Nat.le_refl]
    · have b64' : gI (pI t 432 0 (Int32.ofNat 0)) 432 64 = Int32.ofNat 3 := by rw [b64, c3]
      generalize ht : pI t 432 0 (Int32.ofNat 0) = t0 at *
      simp (disch := first | exact jm_lt0 | (apply jm_ltx; (repeat (first | exact jw_0 | apply jw_i | apply jw_r | apply jw_l)); omega) | omega | assumption | exact sa_432 | exact n32_inA sb_432 (by omega) (by omega) | (refine n32_inA (by assumption) ?_ ?_ <;> omega) | exact bi01 | (rw [sa_432]; omega) | decide) only [sX12_image_0, sX12_image_1, sX12_image_2, sX12_image_5, sX12_image_6, sX12_image_9, sX12_image_10, sX12_image_13, sX12_image_14, sX12_image_15, sX12_image_16, sX12_image_17, sX12_image_20, sX12_image_21, sX12_image_24, sX12_image_25, sX12_image_26, sX12_image_29, sX12_image_30, sX12_image_31, sX12_image_34, sX12_image_35, sX12_image_38, ht, evK_n, evK_v, evK_x, gI_pI, gJ_pI, gR_pI, gI_pJ, gJ_pJ, gR_pJ, gI_pR, gJ_pR, gR_pR, if_true, if_false, not_true_eq_false, not_false_eq_true, and_true, true_and, and_false, false_and, and_self, or_true, true_or, or_false, false_or, or_self, ne_eq, Decidable.not_not, Nat.reduceEqDiff, Nat.reduceEqDiff, n32_le, n32_lt, n32_add, n32_mul, n32_cl, sa_432, sb_432, b64']
  · have hi3 : yik G < 3 := by omega
    have key : ∀ i, i < 3 → (167, i, 168 + 46 * i) ∈ fxL := by decide +kernel
    have r167 : gR s 167 (yik G) = 168 + 46 * yik G := hF _ (key _ hi3)
    have hne : gR s 167 (Int32.ofNat (yik G)).toNatClampNeg ≠ 0 := by rw [n32_cl (by omega), r167]; omega
    obtain ⟨s1, e1, x1, x2⟩ := d_copy (g := g) (d := d + 33) hF (a := 5) (b := 168 + 46 * yik G) (by decide) (im_in hi3) (by omega) hd5.1 hD.1
    have hF1 : FX s1 := hF.of (by rw [x1.1])
    have a8b : gI s1 0 8 = Int32.ofNat (yik G) := by rw [x1.2.1 _ _ (by omega), a8]
    obtain ⟨t1, f1, z1, z2⟩ := m_keepT (g := g) (d := d + 33) hM0.1 hi3 hD (by rw [hcur]; exact hM0.2.2.1.2.2.2.1) hM0.2.2.2.2.2.1
    have b64b : gI t1 432 64 = Int32.ofNat (yik G) := by rw [z1.2.1 _ _ (by omega), b64]
    generalize hsd : (pI s1 0 8 (Int32.ofNat (yik G + 1))) = s2
    have es : ∀ b j, ¬ (168 + 46 * yik G ≤ b ∧ b < 168 + 46 * yik G + 46) → ¬ (b = 0 ∧ j = 8) → gI s2 b j = gI s b j := fun b j k1 k2 => by rw [← hsd, gI_pI, if_neg k2, x1.2.1 _ _ (by omega)]
    have es2 : s2.2 = s.2 := by rw [← hsd]; exact x1.1
    have hdi : drC s2 (168 + 46 * yik G) (yD G) := (hd5.copied hD x1 x2).of hD (fun b j k1 k2 => by rw [← hsd, gI_pI, if_neg (by omega)])
    generalize htd : (pI t1 432 64 (Int32.ofNat (yik G + 1))) = t2
    have et : ∀ b j, ¬ (b = 459 ∧ 1030 * yik G ≤ j ∧ j < 1030 * yik G + 1030) → ¬ (b = 432 ∧ (j = 0 ∨ j = 64)) → gI t2 b j = gI t b j := fun b j k1 k2 => by rw [← htd, gI_pI, if_neg (by omega), z1.2.1 _ _ k1, gI_pI, if_neg (by omega)]
    have et2 : ∀ b j, gJ t2 b j = gJ t b j := fun b j => by rw [← htd, gJ_pI, z1.2.2 _ _ (fun q => q), gJ_pI]
    have hFt2 : FX t2 := by rw [← htd]; exact (z1.fx hM0.1).pI
    obtain ⟨g1, g2, g3, g4, g5, g6⟩ := hG
    obtain ⟨a1, a2, a3, a4, a5, a6, a7, a9⟩ := hC.2
    obtain ⟨m1, m2, m3, m4, m5, m6, m7, m8⟩ := hM.2.2.2
    refine ⟨Int32.ofNat (yik G + 1), s2, t2, ?_, ?_, ⟨w, (yB G, yL G, yF G, yNf G, yNa G, yD G, yik G + 1, fun i => if i < yik G then yIm G i else yD G), ver, ⟨hC.1.of (hF.of (by rw [es2])) (fun b j k1 k2 k3 => es _ _ (by omega) (by omega)) (fun b j hb => ⟨es _ _ (by omega) (by omega), by show s2.2.1 b j = s.2.1 b j; rw [es2]⟩) (fun j _ => by show s2.2.2.1 307 j = s.2.2.1 307 j; rw [es2]), ⟨by rw [es _ _ (by omega) (by omega)]; exact a1, fun i hi => by rw [es _ _ (by omega) (by omega)]; exact a2 i hi, a3.of g3 (fun b j q1 q2 => es _ _ (by omega) (by omega)), ?_, fun i hi => ?_, by rw [es _ _ (by omega) (by omega)]; exact a6, by rw [es _ _ (by omega) (by omega)]; exact a7, by rw [es _ _ (by omega) (by omega)]; exact a9⟩⟩, ⟨hFt2, hM.2.1.of (fun b j hb => et _ _ (by omega) (by omega)) (fun b j _ => et2 b j), hM.2.2.1.y (fun b j hb => et _ _ (by omega) (by omega)), ⟨by rw [et _ _ (by omega) (by omega)]; exact m1, fun i hi => by rw [et _ _ (by omega) (by omega)]; exact m2 i hi, m3.k (fun b j hb => et _ _ (by omega) (by omega)), ?_, fun i hi => ?_, by rw [et _ _ (by omega) (by omega)]; exact m6, by rw [et _ _ (by omega) (by omega)]; exact m7, by rw [et _ _ (by omega) (by omega)]; exact m8⟩⟩, ⟨g1, g2, g3, by show yik G + 1 ≤ 3; omega, fun i hi => ?_, g6⟩, hw, by omega⟩, ⟨fun b j h1 h2 => ⟨es _ _ (by omega) (by omega), by show s2.2.1 b j = s.2.1 b j; rw [es2]⟩, fun b j _ => by show s2.2.2.1 b j = s.2.2.1 b j; rw [es2], Or.inl (by rw [es2])⟩, ⟨fun b j h => ⟨et _ _ (by omega) (by omega), et2 b j⟩, fun b j => by rw [← htd, gR_pI, z1.gR, gR_pI], by rw [← htd]; show t1.2.2.2 = t.2.2.2; rw [z1.1]; rfl⟩⟩
    · rw [← hsd]
      have sh4 := (diS_of (im_in hi3)).1
      simp (disch := first | exact jm_lt0 | (apply jm_ltx; (repeat (first | exact jw_0 | apply jw_i | apply jw_r | apply jw_l)); omega) | omega | assumption | exact sa_0 | exact sa_167 | exact n32_inA sb_0 (by omega) (by omega) | exact n32_inA sb_167 (by omega) (by omega) | (refine n32_inA (by assumption) ?_ ?_ <;> omega) | exact bi01 | (rw [sa_0]; omega) | (rw [sa_167]; omega) | decide) only [sX11_image_0, sX11_image_1, sX11_image_4, sX11_image_7, sX11_image_8, sX11_image_11, sX11_image_12, sX11_image_15, sX11_image_16, sX11_image_19, sX11_image_20, sX11_image_23, sX11_image_24, sX11_image_27, sX11_image_28, kX11_image_31_A, sX11_image_31, sX11_image_32, sX11_image_33, sX11_image_34, sX11_image_37, sX11_image_38, sX11_image_41, sX11_image_42, sX11_image_43, sX11_image_46, sX11_image_49, sX11_image_50, sX11_image_51, sX11_image_54, sX11_image_55, sX11_image_56, sX11_image_59, sX11_image_60, sX11_image_63, evK_n, evK_v, evK_x, gI_pI, gJ_pI, gR_pI, gI_pJ, gJ_pJ, gR_pJ, gI_pR, gJ_pR, gR_pR, if_true, if_false, not_true_eq_false, not_false_eq_true, and_true, true_and, and_false, false_and, and_self, or_true, true_or, or_false, false_or, or_self, ne_eq, Decidable.not_not, Nat.reduceEqDiff, Nat.reduceEqDiff, n32_le, n32_lt, n32_add, n32_mul, n32_cl, sa_0, sb_0, sa_167, sb_167, sh4, r05, a8, n32_lt0, show ¬ 3 ≤ yik G by omega, r167, c11_diary hF, e1, a8b]
    · have b64' : ¬ Int32.ofNat (yik G) = Int32.ofNat 3 := by rw [n20 (by omega) (by omega)]; exact c3
      rw [← htd]
      generalize ht : pI t 432 0 (Int32.ofNat 0) = t0 at *
      simp (disch := first | exact jm_lt0 | (apply jm_ltx; (repeat (first | exact jw_0 | apply jw_i | apply jw_r | apply jw_l)); omega) | omega | assumption | exact sa_432 | exact n32_inA sb_432 (by omega) (by omega) | (refine n32_inA (by assumption) ?_ ?_ <;> omega) | exact bi01 | (rw [sa_432]; omega) | decide) only [sX12_image_0, sX12_image_1, sX12_image_2, sX12_image_5, sX12_image_6, sX12_image_9, sX12_image_10, sX12_image_13, sX12_image_14, sX12_image_15, sX12_image_16, sX12_image_17, sX12_image_20, sX12_image_21, sX12_image_24, sX12_image_25, sX12_image_26, sX12_image_29, sX12_image_30, sX12_image_31, sX12_image_34, sX12_image_35, sX12_image_38, ht, evK_n, evK_v, evK_x, gI_pI, gJ_pI, gR_pI, gI_pJ, gJ_pJ, gR_pJ, gI_pR, gJ_pR, gR_pR, if_true, if_false, not_true_eq_false, not_false_eq_true, and_true, true_and, and_false, false_and, and_self, or_true, true_or, or_false, false_or, or_self, ne_eq, Decidable.not_not, Nat.reduceEqDiff, Nat.reduceEqDiff, n32_le, n32_lt, n32_add, n32_mul, n32_cl, sa_432, sb_432, b64, b64', f1, b64b]
    · rw [← hsd, gI_pI, if_pos ⟨rfl, rfl⟩]
    · have hi' : i < yik G + 1 := hi
      show drC s2 (168 + 46 * i) (if i < yik G then yIm G i else yD G)
      by_cases ci : i < yik G
      · rw [if_pos ci]
        exact (a5 i ci).of (g5 i ci) (fun b j q1 q2 => es _ _ (by omega) (by omega))
      · rw [if_neg ci, show i = yik G by omega]
        exact hdi
    · rw [← htd, gI_pI, if_pos ⟨rfl, rfl⟩]
    · have hi' : i < yik G + 1 := hi
      show imM t2 i (if i < yik G then yIm G i else yD G)
      by_cases ci : i < yik G
      · rw [if_pos ci]
        obtain ⟨p1, p2, p3⟩ := m5 i ci
        have hDc := (g5 i ci).1
        have z : ∀ j, j < 1030 * i + 1030 → gI t2 459 j = gI t 459 j := fun j hj => et _ _ (by omega) (by omega)
        refine ⟨by rw [z _ (by omega), p1], ⟨by rw [z _ (by omega), p2.1], fun v hv => ?_⟩, fun k hk => ⟨?_, fun v hv => ?_⟩⟩
        · have := ((g5 i ci).2 _ (Nat.le_refl _)).1
          exact ⟨by rw [z _ (by omega), (p2.2 v hv).1], by rw [z _ (by omega), (p2.2 v hv).2]⟩
        · rw [z _ (by omega), (p3 k hk).1]
        · have := ((g5 i ci).2 k (by omega)).1
          exact ⟨by rw [z _ (by omega), ((p3 k hk).2 v hv).1], by rw [z _ (by omega), ((p3 k hk).2 v hv).2]⟩
      · rw [if_neg ci, show i = yik G by omega, ← htd]
        exact z2.of (fun j => by rw [gI_pI, if_neg (by omega)])
    · have hi' : i < yik G + 1 := hi
      show drOK (if i < yik G then yIm G i else yD G)
      split
      · exact g5 i (by assumption)
      · exact g3
end CC0
