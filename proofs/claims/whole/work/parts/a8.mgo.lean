/-! the model: a reckoning -/
/-- the options stand so -/
def PM (t : fm_S) (o : OPT) (bk : Bool) : Prop := gI t 432 43 = Int32.ofNat o.1 ∧ gI t 432 44 = Int32.ofNat o.2.1 ∧ gI t 432 45 = Int32.ofNat o.2.2.1 ∧ gI t 432 46 = (if o.2.2.2.1 = 99 then -1 else Int32.ofNat o.2.2.2.1) ∧ gI t 432 50 = bi (bk = true) ∧ ((gI t 432 49 = 1 ∧ ∀ p, p < 6 → o.2.2.2.2 p = 6) ∨ (gI t 432 49 = 0 ∧ gI t 432 47 = -1 ∧ gI t 432 48 = -1 ∧ ∀ p, p < 6 → o.2.2.2.2 p = p) ∨ (gI t 432 49 = 0 ∧ ∃ a b, gI t 432 47 = Int32.ofNat a ∧ gI t 432 48 = Int32.ofNat b ∧ a < 6 ∧ b < 6 ∧ ∀ p, p < 6 → o.2.2.2.2 p = if p = a then b else if p = b then a else p))
theorem PM.of {t t' : fm_S} {o : OPT} {bk : Bool} (h : PM t o bk) (x : OPq t t') : PM t' o bk := by
  obtain ⟨h1, h2, h3, h4, h5, h6⟩ := h
  refine ⟨by rw [x _ (by omega) (by omega), h1], by rw [x _ (by omega) (by omega), h2], by rw [x _ (by omega) (by omega), h3], by rw [x _ (by omega) (by omega), h4], by rw [x _ (by omega) (by omega), h5], ?_⟩
  rw [x 47 (by omega) (by omega), x 48 (by omega) (by omega), x 49 (by omega) (by omega)]
  exact h6
theorem m_habitOf {g : fm_g} {d p : Nat} {o : OPT} {bk : Bool} {t : fm_S} (hP : PM t o bk) (hp : p < 6) : ev g d mX12_habitOf 0 [some (.ref (432 : Nat)), some (.int (Int32.ofNat p))] [] t = some (.inl (some (.int (Int32.ofNat (o.2.2.2.2 p)))), t) := by
  obtain ⟨-, -, -, -, -, h⟩ := hP
  rcases h with ⟨h1, h2⟩ | ⟨h1, h2, h3, h4⟩ | ⟨h1, a, b, h2, h3, ha, hb, h4⟩
  · rw [h2 p hp]
    simp (disch := first | exact jm_lt0 | (apply jm_ltx; (repeat (first | exact jw_0 | apply jw_i | apply jw_r | apply jw_l)); omega) | omega | assumption | exact sa_432 | exact n32_inA sb_432 (by omega) (by omega) | (refine n32_inA (by assumption) ?_ ?_ <;> omega) | exact bi01 | (rw [sa_432]; omega) | decide) only [sX12_habitOf_0, sX12_habitOf_1, sX12_habitOf_4, sX12_habitOf_7, sX12_habitOf_9, sX12_habitOf_12, sX12_habitOf_13, sX12_habitOf_14, sX12_habitOf_17, sX12_habitOf_20, sX12_habitOf_21, sX12_habitOf_24, sX12_habitOf_27, sX12_habitOf_28, sX12_habitOf_29, sX12_habitOf_32, sX12_habitOf_35, sX12_habitOf_36, sX12_habitOf_39, kX12_habitOf_42_AI, sX12_habitOf_42, kX12_habitOf_43_AI, kX12_habitOf_43_NI, sX12_habitOf_43, evK_n, evK_v, evK_x, gI_pI, gJ_pI, gR_pI, gI_pJ, gJ_pJ, gR_pJ, gI_pR, gJ_pR, gR_pR, if_true, if_false, not_true_eq_false, not_false_eq_true, and_true, true_and, and_false, false_and, and_self, or_true, true_or, or_false, false_or, or_self, ne_eq, Decidable.not_not, Nat.reduceEqDiff, Nat.reduceEqDiff, sa_432, sb_432, h1, show ¬ ((1 : Int32) = 0) by decide]
  · rw [h4 p hp]
    have : ¬ Int32.ofNat p = -1 := of_eq_false (n32_neg (by omega))
    simp (disch := first | exact jm_lt0 | (apply jm_ltx; (repeat (first | exact jw_0 | apply jw_i | apply jw_r | apply jw_l)); omega) | omega | assumption | exact sa_432 | exact n32_inA sb_432 (by omega) (by omega) | (refine n32_inA (by assumption) ?_ ?_ <;> omega) | exact bi01 | (rw [sa_432]; omega) | decide) only [sX12_habitOf_0, sX12_habitOf_1, sX12_habitOf_4, sX12_habitOf_7, sX12_habitOf_9, sX12_habitOf_12, sX12_habitOf_13, sX12_habitOf_14, sX12_habitOf_17, sX12_habitOf_20, sX12_habitOf_21, sX12_habitOf_24, sX12_habitOf_27, sX12_habitOf_28, sX12_habitOf_29, sX12_habitOf_32, sX12_habitOf_35, sX12_habitOf_36, sX12_habitOf_39, kX12_habitOf_42_AI, sX12_habitOf_42, kX12_habitOf_43_AI, kX12_habitOf_43_NI, sX12_habitOf_43, evK_n, evK_v, evK_x, gI_pI, gJ_pI, gR_pI, gI_pJ, gJ_pJ, gR_pJ, gI_pR, gJ_pR, gR_pR, if_true, if_false, not_true_eq_false, not_false_eq_true, and_true, true_and, and_false, false_and, and_self, or_true, true_or, or_false, false_or, or_self, ne_eq, Decidable.not_not, Nat.reduceEqDiff, Nat.reduceEqDiff, sa_432, sb_432, h1, h2, h3, this]
  · rw [h4 p hp]
    by_cases c : p = a
    · subst c
      rw [if_pos rfl]
      simp (disch := first | exact jm_lt0 | (apply jm_ltx; (repeat (first | exact jw_0 | apply jw_i | apply jw_r | apply jw_l)); omega) | omega | assumption | exact sa_432 | exact n32_inA sb_432 (by omega) (by omega) | (refine n32_inA (by assumption) ?_ ?_ <;> omega) | exact bi01 | (rw [sa_432]; omega) | decide) only [sX12_habitOf_0, sX12_habitOf_1, sX12_habitOf_4, sX12_habitOf_7, sX12_habitOf_9, sX12_habitOf_12, sX12_habitOf_13, sX12_habitOf_14, sX12_habitOf_17, sX12_habitOf_20, sX12_habitOf_21, sX12_habitOf_24, sX12_habitOf_27, sX12_habitOf_28, sX12_habitOf_29, sX12_habitOf_32, sX12_habitOf_35, sX12_habitOf_36, sX12_habitOf_39, kX12_habitOf_42_AI, sX12_habitOf_42, kX12_habitOf_43_AI, kX12_habitOf_43_NI, sX12_habitOf_43, evK_n, evK_v, evK_x, gI_pI, gJ_pI, gR_pI, gI_pJ, gJ_pJ, gR_pJ, gI_pR, gJ_pR, gR_pR, if_true, if_false, not_true_eq_false, not_false_eq_true, and_true, true_and, and_false, false_and, and_self, or_true, true_or, or_false, false_or, or_self, ne_eq, Decidable.not_not, Nat.reduceEqDiff, Nat.reduceEqDiff, sa_432, sb_432, h1, h2, h3]
    · rw [if_neg c]
      by_cases c2 : p = b
      · subst c2
        rw [if_pos rfl]
        simp (disch := first | exact jm_lt0 | (apply jm_ltx; (repeat (first | exact jw_0 | apply jw_i | apply jw_r | apply jw_l)); omega) | omega | assumption | exact sa_432 | exact n32_inA sb_432 (by omega) (by omega) | (refine n32_inA (by assumption) ?_ ?_ <;> omega) | exact bi01 | (rw [sa_432]; omega) | decide) only [sX12_habitOf_0, sX12_habitOf_1, sX12_habitOf_4, sX12_habitOf_7, sX12_habitOf_9, sX12_habitOf_12, sX12_habitOf_13, sX12_habitOf_14, sX12_habitOf_17, sX12_habitOf_20, sX12_habitOf_21, sX12_habitOf_24, sX12_habitOf_27, sX12_habitOf_28, sX12_habitOf_29, sX12_habitOf_32, sX12_habitOf_35, sX12_habitOf_36, sX12_habitOf_39, kX12_habitOf_42_AI, sX12_habitOf_42, kX12_habitOf_43_AI, kX12_habitOf_43_NI, sX12_habitOf_43, evK_n, evK_v, evK_x, gI_pI, gJ_pI, gR_pI, gI_pJ, gJ_pJ, gR_pJ, gI_pR, gJ_pR, gR_pR, if_true, if_false, not_true_eq_false, not_false_eq_true, and_true, true_and, and_false, false_and, and_self, or_true, true_or, or_false, false_or, or_self, ne_eq, Decidable.not_not, Nat.reduceEqDiff, Nat.reduceEqDiff, sa_432, sb_432, h1, h2, h3, n32_eq, c]
      · rw [if_neg c2]
        simp (disch := first | exact jm_lt0 | (apply jm_ltx; (repeat (first | exact jw_0 | apply jw_i | apply jw_r | apply jw_l)); omega) | omega | assumption | exact sa_432 | exact n32_inA sb_432 (by omega) (by omega) | (refine n32_inA (by assumption) ?_ ?_ <;> omega) | exact bi01 | (rw [sa_432]; omega) | decide) only [sX12_habitOf_0, sX12_habitOf_1, sX12_habitOf_4, sX12_habitOf_7, sX12_habitOf_9, sX12_habitOf_12, sX12_habitOf_13, sX12_habitOf_14, sX12_habitOf_17, sX12_habitOf_20, sX12_habitOf_21, sX12_habitOf_24, sX12_habitOf_27, sX12_habitOf_28, sX12_habitOf_29, sX12_habitOf_32, sX12_habitOf_35, sX12_habitOf_36, sX12_habitOf_39, kX12_habitOf_42_AI, sX12_habitOf_42, kX12_habitOf_43_AI, kX12_habitOf_43_NI, sX12_habitOf_43, evK_n, evK_v, evK_x, gI_pI, gJ_pI, gR_pI, gI_pJ, gJ_pJ, gR_pJ, gI_pR, gJ_pR, gR_pR, if_true, if_false, not_true_eq_false, not_false_eq_true, and_true, true_and, and_false, false_and, and_self, or_true, true_or, or_false, false_or, or_self, ne_eq, Decidable.not_not, Nat.reduceEqDiff, Nat.reduceEqDiff, sa_432, sb_432, h1, h2, h3, n32_eq, c, c2]
def zCome (w : WD) (o : OPT) (bk : Bool) (v : Nat) (D : Nat → Nat) : Nat → Nat := if bk = true then filD w v (pas (cFall o.1) D) else pas (cFall o.1) D
theorem come_ok {w : WD} {o : OPT} {bk : Bool} {v u : Nat} {D : Nat → Nat} (ho : oOK o) (hS : SUP u D) (hU : UNS D) : SUP u (zCome w o bk v D) ∧ UNS (zCome w o bk v D) ∧ sumN (zCome w o bk v D) NS ≤ sumN D NS := by
  obtain ⟨f1, f2, f3⟩ := fall_ok ho.1 hS hU
  obtain ⟨g1, g2, g3⟩ := fil_ok (w := w) (v := v) f1 f2
  unfold zCome
  split
  · exact ⟨g1, g2, by omega⟩
  · exact ⟨f1, f2, by omega⟩
theorem m_comes {g : fm_g} {d v : Nat} {D : Nat → Nat} {o : OPT} {bk : Bool} {w : WD} {t : fm_S} (hF : FX t) (hO : OM t D) (hD : sumN D NS ≤ ONE) (hS : SUP v D) (hU : UNS D) (hW : MW t w) (hw : wOK w) (hv : v < wn w) (hP : PM t o bk) (ho : oOK o) : ∃ t', ev g (d + 3) mX12_comes 0 [some (.ref (432 : Nat)), some (.int (Int32.ofNat v))] [] t = some (.inl none, t') ∧ FM pM qM t t' ∧ OMw t' (zCome w o bk v D) (v + 1) ∧ CM t t' ∧ OPq t t' ∧ F467 t' w v := by
  obtain ⟨t1, e1, hM1, hO1, hC1, hV1⟩ := m_falls (g := g) (d := d + 1) hF hO hD ho.1 hP.1
  have hF1 := hM1.fx hF
  have hW1 : MW t1 w := hW.of hM1.2.1
  have hP1 := hP.of hV1
  obtain ⟨s1, s2, s3⟩ := fall_ok ho.1 hS hU
  have hn : wn w ≤ 24 := hw.2.2.1
  have h50 := hP1.2.2.2.2.1
  have stepA : ∃ t2, ev g (d + 3) mX12_comes 0 [some (.ref (432 : Nat)), some (.int (Int32.ofNat v))] [] t = ev g (d + 3) mX12_comes 16 [some (.ref (432 : Nat)), some (.int (Int32.ofNat v))] [] t2 ∧ FM pM qM t t2 ∧ OMw t2 (zCome w o bk v D) (v + 1) ∧ CM t t2 ∧ OPq t t2 := by
    cases bk with
    | false =>
      refine ⟨t1, ?_, hM1, ?_, hC1, hV1⟩
      · rw [bi_f (by decide)] at h50
        simp (disch := first | exact jm_lt0 | (apply jm_ltx; (repeat (first | exact jw_0 | apply jw_i | apply jw_r | apply jw_l)); omega) | omega | assumption | exact sa_432 | exact n32_inA sb_432 (by omega) (by omega) | (refine n32_inA (by assumption) ?_ ?_ <;> omega) | exact bi01 | (rw [sa_432]; omega) | decide) only [sX12_comes_0, sX12_comes_1, sX12_comes_4, sX12_comes_5, sX12_comes_8, sX12_comes_11, sX12_comes_12, sX12_comes_13, sX12_comes_17, sX12_comes_20, sX12_comes_21, sX12_comes_22, sX12_comes_25, sX12_comes_26, sX12_comes_27, sX12_comes_28, sX12_comes_29, sX12_comes_32, sX12_comes_34, sX12_comes_35, sX12_comes_36, sX12_comes_39, sX12_comes_40, sX12_comes_41, sX12_comes_44, sX12_comes_46, sX12_comes_47, sX12_comes_48, sX12_comes_51, sX12_comes_52, evK_n, evK_v, evK_x, gI_pI, gJ_pI, gR_pI, gI_pJ, gJ_pJ, gR_pJ, gI_pR, gJ_pR, gR_pR, if_true, if_false, not_true_eq_false, not_false_eq_true, and_true, true_and, and_false, false_and, and_self, or_true, true_or, or_false, false_or, or_self, ne_eq, Decidable.not_not, Nat.reduceEqDiff, Nat.reduceEqDiff, sa_432, sb_432, e1, h50, z32]
      · exact (hO1.w s1 : OMw t1 _ v) |> fun ⟨l, a1, a2, a3⟩ => ⟨l, a1, a2, fun k hk => by have := a3 k hk; omega⟩
    | true =>
      obtain ⟨t2, e2, hM2, hO2⟩ := m_keepsBook (g := g) (d := d) hF1 hW1 hw hv (hO1.w s1) (by omega)
      have hM2' : FM pM qM t1 t2 := hM2.mono (fun b j q => by unfold pMh at q; unfold pM; omega) (fun b j q => by unfold qL at q; unfold qM; omega)
      refine ⟨t2, ?_, hM1.tr hM2', ?_, hC1.tr (CM.fm hM2 (fun j => by unfold qL; omega) (by unfold qL; omega) (by unfold qL; omega)), OPq.tr hV1 (fun j h1 h2 => hM2.2.1 _ _ (by unfold pMh; omega))⟩
      · rw [bi_t rfl] at h50
        simp (disch := first | exact jm_lt0 | (apply jm_ltx; (repeat (first | exact jw_0 | apply jw_i | apply jw_r | apply jw_l)); omega) | omega | assumption | exact sa_432 | exact n32_inA sb_432 (by omega) (by omega) | (refine n32_inA (by assumption) ?_ ?_ <;> omega) | exact bi01 | (rw [sa_432]; omega) | decide) only [sX12_comes_0, sX12_comes_1, sX12_comes_4, sX12_comes_5, sX12_comes_8, sX12_comes_11, sX12_comes_12, sX12_comes_13, sX12_comes_17, sX12_comes_20, sX12_comes_21, sX12_comes_22, sX12_comes_25, sX12_comes_26, sX12_comes_27, sX12_comes_28, sX12_comes_29, sX12_comes_32, sX12_comes_34, sX12_comes_35, sX12_comes_36, sX12_comes_39, sX12_comes_40, sX12_comes_41, sX12_comes_44, sX12_comes_46, sX12_comes_47, sX12_comes_48, sX12_comes_51, sX12_comes_52, evK_n, evK_v, evK_x, gI_pI, gJ_pI, gR_pI, gI_pJ, gJ_pJ, gR_pJ, gI_pR, gJ_pR, gR_pR, if_true, if_false, not_true_eq_false, not_false_eq_true, and_true, true_and, and_false, false_and, and_self, or_true, true_or, or_false, false_or, or_self, ne_eq, Decidable.not_not, Nat.reduceEqDiff, Nat.reduceEqDiff, sa_432, sb_432, e1, h50, show ¬ (Int32.ofNat 1 = 0) by decide, e2]
      · exact hO2 |> fun ⟨l, a1, a2, a3⟩ => ⟨l, a1, a2, fun k hk => by have := a3 k hk; omega⟩
  obtain ⟨t2, e2, hM2, hO2, hC2, hV2⟩ := stepA
  have hF2 := hM2.fx hF
  have hW2 : MW t2 w := hW.of hM2.2.1
  obtain ⟨v1, v2, v3⟩ := hW2.2.2.2.1
  have mv := (v3 v hv).2.1
  have r15 := hF2.u 432 15 440 (by decide +kernel)
  have r56 := hF2.u 432 56 457 (by decide +kernel)
  have hF3 : FX (pI t2 457 4 (Int32.ofNat (wM w v))) := hF2.pI
  have hV3 : MV (pI t2 457 4 (Int32.ofNat (wM w v))) (wn w) (wW w) (wM w) := by
    refine ⟨by rw [gI_pI, if_neg (by omega), v1], v2, fun u hu => ?_⟩
    obtain ⟨k1, k2, k3⟩ := v3 u hu
    exact ⟨by rw [gI_pI, if_neg (by omega)]; exact k1, by rw [gI_pI, if_neg (by omega)]; exact k2, k3⟩
  have e3 := m_sinceOf (g := g) (d := d + 2) hF3 hV3 hv
  have hF4 : FX (pI (pI t2 457 4 (Int32.ofNat (wM w v))) 457 6 (sncW (wW w) (wM w) v v)) := hF3.pI
  have hV4 : MV (pI (pI t2 457 4 (Int32.ofNat (wM w v))) 457 6 (sncW (wW w) (wM w) v v)) (wn w) (wW w) (wM w) := by
    obtain ⟨v1, v2, v3⟩ := hV3
    refine ⟨by rw [gI_pI, if_neg (by omega), v1], v2, fun u hu => ?_⟩
    obtain ⟨k1, k2, k3⟩ := v3 u hu
    exact ⟨by rw [gI_pI, if_neg (by omega)]; exact k1, by rw [gI_pI, if_neg (by omega)]; exact k2, k3⟩
  have e4 := m_whichOf (g := g) (d := d + 2) hF4 hV4 hv
  refine ⟨pI (pI (pI t2 457 4 (Int32.ofNat (wM w v))) 457 6 (sncW (wW w) (wM w) v v)) 457 7 (Int32.ofNat (cntW (wW w) (wW w v) (v + 1))), ?_, hM2.tr (((FM.pI (by unfold pM; omega)).tr (FM.pI (by unfold pM; omega))).tr (FM.pI (by unfold pM; omega))), ?_, ?_, ?_, ?_⟩
  · rw [e2]
    simp (disch := first | exact jm_lt0 | (apply jm_ltx; (repeat (first | exact jw_0 | apply jw_i | apply jw_r | apply jw_l)); omega) | omega | assumption | exact sa_432 | exact sa_457 | exact sa_440 | exact n32_inA sb_432 (by omega) (by omega) | exact n32_inA sb_457 (by omega) (by omega) | exact n32_inA sb_440 (by omega) (by omega) | (refine n32_inA (by assumption) ?_ ?_ <;> omega) | exact bi01 | (rw [sa_432]; omega) | (rw [sa_457]; omega) | (rw [sa_440]; omega) | decide) only [sX12_comes_0, sX12_comes_1, sX12_comes_4, sX12_comes_5, sX12_comes_8, sX12_comes_11, sX12_comes_12, sX12_comes_13, sX12_comes_16, sX12_comes_17, sX12_comes_20, sX12_comes_21, sX12_comes_22, sX12_comes_25, sX12_comes_26, sX12_comes_27, sX12_comes_28, sX12_comes_29, sX12_comes_32, sX12_comes_34, sX12_comes_35, sX12_comes_36, sX12_comes_39, sX12_comes_40, sX12_comes_41, sX12_comes_44, sX12_comes_46, sX12_comes_47, sX12_comes_48, sX12_comes_51, sX12_comes_52, evK_n, evK_v, evK_x, gI_pI, gJ_pI, gR_pI, gI_pJ, gJ_pJ, gR_pJ, gI_pR, gJ_pR, gR_pR, n32_cl, if_true, if_false, not_true_eq_false, not_false_eq_true, and_true, true_and, and_false, false_and, and_self, or_true, true_or, or_false, false_or, or_self, ne_eq, Decidable.not_not, Nat.reduceEqDiff, Nat.reduceEqDiff, sa_432, sb_432, sa_457, sb_457, sa_440, sb_440, r15, r56, mv, e3, e4, show ¬ ((432 : Nat) = 457) by decide]
  · obtain ⟨l, a1, a2, a3⟩ := hO2
    refine ⟨l, a1.of ?_ (fun j => ?_) (fun j => ?_), a2.of ?_ (fun j => ?_) (fun j => ?_), a3⟩
    · simp [gI_pI]
    · simp [gI_pI]
    · simp [gJ_pI]
    · simp [gI_pI]
    · simp [gI_pI]
    · simp [gJ_pI]
  · exact hC2.tr ⟨fun j => by simp [gJ_pI], by simp [gJ_pI], by simp [gJ_pI]⟩
  · exact OPq.tr hV2 (fun j _ _ => by simp [gI_pI])
  · exact ⟨by simp [gI_pI], by simp [gI_pI], by simp [gI_pI]⟩
theorem m_bgLoop {g : fm_g} {d : Nat} {l : List Nat} {D : Nat → Nat} {s0 : fm_S} (hF : FX s0) (h : ML s0 l D) : ∀ (m i : Nat) (s : fm_S), i + m = l.length → FM nO qL s0 s → (∀ q, q < 16900 → gJ s 453 q = Int64.ofNat (if kof q ∈ l.take i then 0 else pq D q)) → ∃ s', ev g d mX12_begin 2 [some (.ref (432 : Nat)), some (.int (Int32.ofNat i))] [] s = ev g d mX12_begin 28 [some (.ref (432 : Nat)), none] [] s' ∧ FM nO qL s0 s' ∧ ∀ q, q < 16900 → gJ s' 453 q = Int64.ofNat 0 := by
  have hl := h.len
  intro m
  induction m with
  | zero =>
    intro i s hi hM hJ
    have hil : i = l.length := by omega
    subst hil
    have e1 : gI s 432 35 = Int32.ofNat l.length := by rw [hM.2.1 _ _ (fun h => h), h.1]
    refine ⟨s, ?_, hM, fun q hq => ?_⟩
    · rw [sX12_begin_2]
      simp (disch := first | exact jm_lt0 | (apply jm_ltx; (repeat (first | exact jw_0 | apply jw_i | apply jw_r | apply jw_l)); omega) | omega | assumption | exact sa_432 | exact n32_inA sb_432 (by omega) (by omega) | (refine n32_inA (by assumption) ?_ ?_ <;> omega) | exact bi01 | (rw [sa_432]; omega) | decide) only [sX12_begin_0, sX12_begin_1, sX12_begin_3, sX12_begin_4, sX12_begin_7, sX12_begin_10, sX12_begin_11, sX12_begin_14, sX12_begin_15, sX12_begin_18, sX12_begin_19, sX12_begin_20, sX12_begin_21, sX12_begin_22, sX12_begin_25, kX12_begin_28_AI, sX12_begin_29, sX12_begin_30, sX12_begin_33, sX12_begin_34, sX12_begin_37, sX12_begin_38, sX12_begin_39, sX12_begin_42, sX12_begin_43, sX12_begin_44, sX12_begin_45, sX12_begin_48, sX12_begin_49, sX12_begin_50, sX12_begin_51, sX12_begin_54, sX12_begin_55, sX12_begin_56, sX12_begin_57, sX12_begin_58, sX12_begin_61, sX12_begin_62, sX12_begin_63, sX12_begin_66, sX12_begin_67, sX12_begin_70, sX12_begin_71, sX12_begin_72, sX12_begin_75, sX12_begin_76, sX12_begin_77, sX12_begin_79, sX12_begin_81, sX12_begin_84, sX12_begin_85, sX12_begin_88, sX12_begin_89, sX12_begin_90, sX12_begin_91, sX12_begin_94, kX12_begin_97_AI, sX12_begin_97, sX12_begin_98, sX12_begin_99, sX12_begin_102, sX12_begin_103, sX12_begin_104, sX12_begin_107, evK_n, evK_v, evK_x, gI_pI, gJ_pI, gR_pI, gI_pJ, gJ_pJ, gR_pJ, gI_pR, gJ_pR, gR_pR, n32_le, n32_lt, n32_add, n32_mul, n32_cl, if_true, if_false, not_true_eq_false, not_false_eq_true, and_true, true_and, and_false, false_and, and_self, or_true, true_or, or_false, false_or, or_self, ne_eq, Decidable.not_not, Nat.reduceEqDiff, Nat.reduceEqDiff, sa_432, sb_432, e1]
      rw [if_pos (by omega)]
    · rw [hJ q hq, List.take_length]
      by_cases c : kof q ∈ l
      · rw [if_pos c]
      · rw [if_neg c]
        congr 1
        unfold pq
        split
        next hk =>
          rcases Nat.eq_zero_or_pos (D (kof q)) with h0 | h0
          · exact h0
          · exact absurd ((h.2.2.2.2.2 _ hk).2 (by omega)) c
        next => rfl
  | succ m ih =>
    intro i s hi hM hJ
    have hFs := hM.fx hF
    have r33 := hFs.u 432 33 451 (by decide +kernel)
    have r37 := hFs.u 432 37 453 (by decide +kernel)
    have hil : i < l.length := by omega
    have hik : l[i]? = some l[i] := List.getElem?_eq_getElem hil
    have hk : l[i] < NS := h.2.2.1 _ (List.getElem_mem hil)
    have hmx := mix_lt hk
    have e1 : gI s 432 35 = Int32.ofNat l.length := by rw [hM.2.1 _ _ (fun h => h), h.1]
    have e2 : gI s 451 i = Int32.ofNat (mix l[i]) := by rw [hM.2.1 _ _ (fun h => h), h.2.2.2.1 i _ hik]
    have g1 : ¬ l.length ≤ i := by omega
    obtain ⟨s', f1, f2, f3⟩ := ih (i + 1) (pJ s 453 (mix l[i]) (Int64.ofNat 0)) (by omega) (hM.tr (FM.pJ rfl)) (fun q hq => by rw [gJ_pJ]; exact clr_row hq hik hk (hJ q hq))
    refine ⟨s', ?_, f2, f3⟩
    rw [sX12_begin_2]
    simp (disch := first | exact jm_lt0 | (apply jm_ltx; (repeat (first | exact jw_0 | apply jw_i | apply jw_r | apply jw_l)); omega) | omega | assumption | exact sa_432 | exact sa_451 | exact sa_453 | exact n32_inA sb_432 (by omega) (by omega) | exact n32_inA sb_451 (by omega) (by omega) | exact n32_inA sb_453 (by omega) (by omega) | (refine n32_inA (by assumption) ?_ ?_ <;> omega) | exact bi01 | (rw [sa_432]; omega) | (rw [sa_451]; omega) | (rw [sa_453]; omega) | decide) only [sX12_begin_0, sX12_begin_1, sX12_begin_3, sX12_begin_4, sX12_begin_7, sX12_begin_10, sX12_begin_11, sX12_begin_14, sX12_begin_15, sX12_begin_18, sX12_begin_19, sX12_begin_20, sX12_begin_21, sX12_begin_22, sX12_begin_25, kX12_begin_28_AI, sX12_begin_29, sX12_begin_30, sX12_begin_33, sX12_begin_34, sX12_begin_37, sX12_begin_38, sX12_begin_39, sX12_begin_42, sX12_begin_43, sX12_begin_44, sX12_begin_45, sX12_begin_48, sX12_begin_49, sX12_begin_50, sX12_begin_51, sX12_begin_54, sX12_begin_55, sX12_begin_56, sX12_begin_57, sX12_begin_58, sX12_begin_61, sX12_begin_62, sX12_begin_63, sX12_begin_66, sX12_begin_67, sX12_begin_70, sX12_begin_71, sX12_begin_72, sX12_begin_75, sX12_begin_76, sX12_begin_77, sX12_begin_79, sX12_begin_81, sX12_begin_84, sX12_begin_85, sX12_begin_88, sX12_begin_89, sX12_begin_90, sX12_begin_91, sX12_begin_94, kX12_begin_97_AI, sX12_begin_97, sX12_begin_98, sX12_begin_99, sX12_begin_102, sX12_begin_103, sX12_begin_104, sX12_begin_107, evK_n, evK_v, evK_x, gI_pI, gJ_pI, gR_pI, gI_pJ, gJ_pJ, gR_pJ, gI_pR, gJ_pR, gR_pR, n32_le, n32_lt, n32_add, n32_mul, n32_cl, if_true, if_false, not_true_eq_false, not_false_eq_true, and_true, true_and, and_false, false_and, and_self, or_true, true_or, or_false, false_or, or_self, ne_eq, Decidable.not_not, Nat.reduceEqDiff, Nat.reduceEqDiff, sa_432, sb_432, sa_451, sb_451, sa_453, sb_453, e1, e2, r33, r37, g1]
    exact f1
/-- the rows are sound, whatever lies in them -/
def OMx (t : fm_S) : Prop := ∃ l D, ML t l D ∧ MX t [] (fun _ => 0)
theorem OM.x {t : fm_S} {D : Nat → Nat} (h : OM t D) : OMx t := by
  obtain ⟨l, h1, h2, -⟩ := h
  exact ⟨l, D, h1, h2⟩
theorem OMw.x {t : fm_S} {D : Nat → Nat} {u : Nat} (h : OMw t D u) : OMx t := by
  obtain ⟨l, h1, h2, -⟩ := h
  exact ⟨l, D, h1, h2⟩
theorem m_begin {g : fm_g} {d : Nat} {w : WD} {t : fm_S} (hF : FX t) (hO : OMx t) (hW : MW t w) (hw : wOK w) : ∃ t', ev g (d + 1) mX12_begin 0 [some (.ref (432 : Nat)), none] [] t = some (.inl none, t') ∧ FM pM qM t t' ∧ OM t' (zBeg w).1 ∧ CM3 t' (fun _ => 0) 0 0 ∧ OPq t t' := by
  obtain ⟨l, D, o1, o2⟩ := hO
  obtain ⟨b1, b2, b3, b4, b5, b6⟩ := begK_ok hw
  obtain ⟨t1, t2, t3, t4, -⟩ := hw.1
  obtain ⟨s1, e1, hM1, hz1⟩ := m_bgLoop (g := g) (d := d + 1) hF o1 l.length 0 t (by omega) FM.rf (fun q hq => by simpa using o1.2.2.2.2.1 q hq)
  have hM1' : FM pM qM t s1 := hM1.mono (fun _ _ h => h.elim) (fun b j q => by unfold qL at q; unfold qM; omega)
  have hF1 := hM1.fx hF
  have hW1 : MW s1 w := hW.of hM1'.2.1
  have w1 := hW1.1 1 (by decide)
  have w2 := hW1.1 2 (by decide)
  have w3 := hW1.1 3 (by decide)
  have r11 := hF1.u 432 11 436 (by decide +kernel)
  have r33 := hF1.u 432 33 451 (by decide +kernel)
  have r37 := hF1.u 432 37 453 (by decide +kernel)
  have r39 := hF1.u 432 39 455 (by decide +kernel)
  have hmx := mix_lt b1
  have e2 := m_index (g := g) (d := d) (c := wT w 1) (di := wT w 2) (ca := wT w 3) (st := 0) (se := 0) (s := pI s1 432 35 (Int32.ofNat 1))
  rw [mix_nm (by omega) (by omega) (by omega)] at e2
  have hk : nm (wT w 1) (wT w 2) (wT w 3) 0 0 = begK w := rfl
  rw [hk] at e2
  generalize hs2 : pJ (pI (pI s1 432 35 (Int32.ofNat 1)) 451 0 (Int32.ofNat (mix (begK w)))) 453 (mix (begK w)) (Int64.ofNat ONE) = s2
  have hM2 : FM pM qM s1 s2 := by
    rw [← hs2]
    exact ((FM.pI (by unfold pM; omega)).tr (FM.pI (by unfold pM; omega))).tr (FM.pJ (by unfold qM; omega))
  have hF2 := hM2.fx hF1
  have r39' := hF2.u 432 39 455 (by decide +kernel)
  refine ⟨pJ (pJ (pJ (pJ (pJ (pJ (pJ (pJ s2 455 0 (Int64.ofNat 0)) 455 1 (Int64.ofNat 0)) 455 2 (Int64.ofNat 0)) 455 3 (Int64.ofNat 0)) 455 4 (Int64.ofNat 0)) 455 5 (Int64.ofNat 0)) 432 41 (Int64.ofNat 0)) 432 42 (Int64.ofNat 0), ?_, (hM1'.tr hM2).tr ((((((((FM.pJ (by unfold qM; omega)).tr (FM.pJ (by unfold qM; omega))).tr (FM.pJ (by unfold qM; omega))).tr (FM.pJ (by unfold qM; omega))).tr (FM.pJ (by unfold qM; omega))).tr (FM.pJ (by unfold qM; omega))).tr (FM.pJ (by unfold qM; omega))).tr (FM.pJ (by unfold qM; omega))), ?_, ?_, ?_⟩
  · rw [sX12_begin_0, sX12_begin_1, e1]
    have p1 : ev g (d + 1) mX12_begin 28 [some (.ref (432 : Nat)), none] [] s1 = ev g (d + 1) mX12_begin 76 [some (.ref (432 : Nat)), none] [] s2 := by
      rw [← hs2]
      simp (disch := first | exact jm_lt0 | (apply jm_ltx; (repeat (first | exact jw_0 | apply jw_i | apply jw_r | apply jw_l)); omega) | omega | assumption | exact sa_432 | exact sa_436 | exact sa_451 | exact sa_453 | exact n32_inA sb_432 (by omega) (by omega) | exact n32_inA sb_436 (by omega) (by omega) | exact n32_inA sb_451 (by omega) (by omega) | exact n32_inA sb_453 (by omega) (by omega) | (refine n32_inA (by assumption) ?_ ?_ <;> omega) | exact bi01 | (rw [sa_432]; omega) | (rw [sa_436]; omega) | (rw [sa_451]; omega) | (rw [sa_453]; omega) | decide) only [sX12_begin_0, sX12_begin_1, sX12_begin_3, sX12_begin_4, sX12_begin_7, sX12_begin_10, sX12_begin_11, sX12_begin_14, sX12_begin_15, sX12_begin_18, sX12_begin_19, sX12_begin_20, sX12_begin_21, sX12_begin_22, sX12_begin_25, kX12_begin_28_AI, sX12_begin_28, sX12_begin_29, sX12_begin_30, sX12_begin_33, sX12_begin_34, sX12_begin_37, sX12_begin_38, sX12_begin_39, sX12_begin_42, sX12_begin_43, sX12_begin_44, sX12_begin_45, sX12_begin_48, sX12_begin_49, sX12_begin_50, sX12_begin_51, sX12_begin_54, sX12_begin_55, sX12_begin_56, sX12_begin_57, sX12_begin_58, sX12_begin_61, sX12_begin_62, sX12_begin_63, sX12_begin_66, sX12_begin_67, sX12_begin_70, sX12_begin_71, sX12_begin_72, sX12_begin_75, sX12_begin_77, sX12_begin_79, sX12_begin_81, sX12_begin_84, sX12_begin_85, sX12_begin_88, sX12_begin_89, sX12_begin_90, sX12_begin_91, sX12_begin_94, kX12_begin_97_AI, sX12_begin_97, sX12_begin_98, sX12_begin_99, sX12_begin_102, sX12_begin_103, sX12_begin_104, sX12_begin_107, evK_n, evK_v, evK_x, gI_pI, gJ_pI, gR_pI, gI_pJ, gJ_pJ, gR_pJ, gI_pR, gJ_pR, gR_pR, n32_le, n32_lt, n32_add, n32_mul, n32_cl, if_true, if_false, not_true_eq_false, not_false_eq_true, and_true, true_and, and_false, false_and, and_self, or_true, true_or, or_false, false_or, or_self, ne_eq, Decidable.not_not, Nat.reduceEqDiff, Nat.reduceEqDiff, sa_432, sb_432, sa_436, sb_436, sa_451, sb_451, sa_453, sb_453, r11, w1, w2, w3, e2, r33, r37, show ¬ ((432 : Nat) = 451) by decide]
    rw [p1, sX12_begin_76, sX12_begin_77]
    have lp : ∀ (i : Nat) (s : fm_S), i < 6 → FX s → ev g (d + 1) mX12_begin 78 [some (.ref (432 : Nat)), some (.int (Int32.ofNat i))] [] s = ev g (d + 1) mX12_begin 78 [some (.ref (432 : Nat)), some (.int (Int32.ofNat (i + 1)))] [] (pJ s 455 i (Int64.ofNat 0)) := fun i s hi hFs => by
      have r := hFs.u 432 39 455 (by decide +kernel)
      have g1 : ¬ 6 ≤ i := by omega
      rw [sX12_begin_78]
      simp (disch := first | exact jm_lt0 | (apply jm_ltx; (repeat (first | exact jw_0 | apply jw_i | apply jw_r | apply jw_l)); omega) | omega | assumption | exact sa_432 | exact sa_455 | exact n32_inA sb_432 (by omega) (by omega) | exact n32_inA sb_455 (by omega) (by omega) | (refine n32_inA (by assumption) ?_ ?_ <;> omega) | exact bi01 | (rw [sa_432]; omega) | (rw [sa_455]; omega) | decide) only [sX12_begin_0, sX12_begin_1, sX12_begin_3, sX12_begin_4, sX12_begin_7, sX12_begin_10, sX12_begin_11, sX12_begin_14, sX12_begin_15, sX12_begin_18, sX12_begin_19, sX12_begin_20, sX12_begin_21, sX12_begin_22, sX12_begin_25, kX12_begin_28_AI, sX12_begin_28, sX12_begin_29, sX12_begin_30, sX12_begin_33, sX12_begin_34, sX12_begin_37, sX12_begin_38, sX12_begin_39, sX12_begin_42, sX12_begin_43, sX12_begin_44, sX12_begin_45, sX12_begin_48, sX12_begin_49, sX12_begin_50, sX12_begin_51, sX12_begin_54, sX12_begin_55, sX12_begin_56, sX12_begin_57, sX12_begin_58, sX12_begin_61, sX12_begin_62, sX12_begin_63, sX12_begin_66, sX12_begin_67, sX12_begin_70, sX12_begin_71, sX12_begin_72, sX12_begin_75, sX12_begin_76, sX12_begin_77, sX12_begin_79, sX12_begin_81, sX12_begin_84, sX12_begin_85, sX12_begin_88, sX12_begin_89, sX12_begin_90, sX12_begin_91, sX12_begin_94, kX12_begin_97_AI, sX12_begin_97, sX12_begin_98, sX12_begin_99, sX12_begin_102, sX12_begin_103, sX12_begin_104, sX12_begin_107, evK_n, evK_v, evK_x, gI_pI, gJ_pI, gR_pI, gI_pJ, gJ_pJ, gR_pJ, gI_pR, gJ_pR, gR_pR, n32_le, n32_lt, n32_add, n32_mul, n32_cl, if_true, if_false, not_true_eq_false, not_false_eq_true, and_true, true_and, and_false, false_and, and_self, or_true, true_or, or_false, false_or, or_self, ne_eq, Decidable.not_not, Nat.reduceEqDiff, Nat.reduceEqDiff, sa_432, sb_432, sa_455, sb_455, r, g1]
    have l0 := lp 0 s2 (by decide) hF2
    have l1 := lp 1 (pJ s2 455 0 (Int64.ofNat 0)) (by decide) hF2.pJ
    have l2 := lp 2 (pJ (pJ s2 455 0 (Int64.ofNat 0)) 455 1 (Int64.ofNat 0)) (by decide) hF2.pJ.pJ
    have l3 := lp 3 (pJ (pJ (pJ s2 455 0 (Int64.ofNat 0)) 455 1 (Int64.ofNat 0)) 455 2 (Int64.ofNat 0)) (by decide) hF2.pJ.pJ.pJ
    have l4 := lp 4 (pJ (pJ (pJ (pJ s2 455 0 (Int64.ofNat 0)) 455 1 (Int64.ofNat 0)) 455 2 (Int64.ofNat 0)) 455 3 (Int64.ofNat 0)) (by decide) hF2.pJ.pJ.pJ.pJ
    have l5 := lp 5 (pJ (pJ (pJ (pJ (pJ s2 455 0 (Int64.ofNat 0)) 455 1 (Int64.ofNat 0)) 455 2 (Int64.ofNat 0)) 455 3 (Int64.ofNat 0)) 455 4 (Int64.ofNat 0)) (by decide) hF2.pJ.pJ.pJ.pJ.pJ
    refine l0.trans (l1.trans (l2.trans (l3.trans (l4.trans (l5.trans ?_)))))
    rw [sX12_begin_78]
    simp (disch := first | exact jm_lt0 | (apply jm_ltx; (repeat (first | exact jw_0 | apply jw_i | apply jw_r | apply jw_l)); omega) | omega | assumption | exact sa_432 | exact sa_455 | exact n32_inA sb_432 (by omega) (by omega) | exact n32_inA sb_455 (by omega) (by omega) | (refine n32_inA (by assumption) ?_ ?_ <;> omega) | exact bi01 | (rw [sa_432]; omega) | (rw [sa_455]; omega) | decide) only [sX12_begin_0, sX12_begin_1, sX12_begin_3, sX12_begin_4, sX12_begin_7, sX12_begin_10, sX12_begin_11, sX12_begin_14, sX12_begin_15, sX12_begin_18, sX12_begin_19, sX12_begin_20, sX12_begin_21, sX12_begin_22, sX12_begin_25, kX12_begin_28_AI, sX12_begin_28, sX12_begin_29, sX12_begin_30, sX12_begin_33, sX12_begin_34, sX12_begin_37, sX12_begin_38, sX12_begin_39, sX12_begin_42, sX12_begin_43, sX12_begin_44, sX12_begin_45, sX12_begin_48, sX12_begin_49, sX12_begin_50, sX12_begin_51, sX12_begin_54, sX12_begin_55, sX12_begin_56, sX12_begin_57, sX12_begin_58, sX12_begin_61, sX12_begin_62, sX12_begin_63, sX12_begin_66, sX12_begin_67, sX12_begin_70, sX12_begin_71, sX12_begin_72, sX12_begin_75, sX12_begin_76, sX12_begin_77, sX12_begin_79, sX12_begin_81, sX12_begin_84, sX12_begin_85, sX12_begin_88, sX12_begin_89, sX12_begin_90, sX12_begin_91, sX12_begin_94, kX12_begin_97_AI, sX12_begin_97, sX12_begin_98, sX12_begin_99, sX12_begin_102, sX12_begin_103, sX12_begin_104, sX12_begin_107, evK_n, evK_v, evK_x, gI_pI, gJ_pI, gR_pI, gI_pJ, gJ_pJ, gR_pJ, gI_pR, gJ_pR, gR_pR, n32_le, n32_lt, n32_add, n32_mul, n32_cl, if_true, if_false, not_true_eq_false, not_false_eq_true, and_true, true_and, and_false, false_and, and_self, or_true, true_or, or_false, false_or, or_self, ne_eq, Decidable.not_not, Nat.reduceEqDiff, Nat.reduceEqDiff, sa_432, sb_432, sa_455, sb_455, show ((6 : Nat) ≤ 5 + 1) = True from eq_true (by decide)]
  · refine ⟨[begK w], ⟨?_, by simp, fun k hk => by rw [List.mem_singleton.mp hk]; exact b1, fun i k hik => ?_, fun q hq => ?_, fun k hk => ⟨?_, fun h => ?_⟩⟩, o2.of ?_ (fun j => ?_) (fun j => ?_), fun k hk => ?_⟩
    · rw [← hs2]
      simp [gI_pJ, gI_pI]
    · have : i = 0 ∧ k = begK w := by
        cases i with
        | zero => exact ⟨rfl, by simpa using hik.symm⟩
        | succ i => simp at hik
      rw [this.1, this.2, ← hs2]
      simp [gI_pJ, gI_pI]
    · rw [← hs2]
      simp only [gJ_pJ, gJ_pI, show ¬ ((453 : Nat) = 432) by decide, show ¬ ((453 : Nat) = 455) by decide, false_and, if_false, true_and]
      unfold pq zBeg
      dsimp only
      by_cases c : q = mix (begK w)
      · rw [if_pos c, c, kof_mix b1, if_pos b1, if_pos rfl]
      · rw [if_neg c, hz1 q hq]
        have : ¬ kof q = begK w := fun h => c ((mix_eq hq b1).mpr h)
        rw [if_neg this]
        split <;> rfl
    · unfold zBeg
      dsimp only
      split <;> decide
    · have : k = begK w := by
        by_cases c : k = begK w
        · exact c
        · exact absurd (if_neg c) h
      rw [this]
      exact List.mem_singleton.mpr rfl
    · rw [← hs2]
      simp only [gI_pJ, gI_pI, show ¬ ((36 : Nat) = 35) by decide, show ¬ ((432 : Nat) = 451) by decide, false_and, and_false, if_false]
      exact hM1.2.1 _ _ (fun h => h)
    · rw [← hs2]
      simp only [gI_pJ, gI_pI, show ¬ ((452 : Nat) = 432) by decide, show ¬ ((452 : Nat) = 451) by decide, false_and, if_false]
      exact hM1.2.1 _ _ (fun h => h)
    · rw [← hs2]
      simp only [gJ_pJ, gJ_pI, show ¬ ((454 : Nat) = 432) by decide, show ¬ ((454 : Nat) = 455) by decide, show ¬ ((454 : Nat) = 453) by decide, false_and, if_false]
      exact hM1.2.2 _ _ (by unfold qL; omega)
    · rw [List.mem_singleton.mp hk]
      unfold zBeg
      dsimp only
      rw [if_pos rfl]
      decide
  · refine ⟨fun p hp => ?_, by simp [gJ_pJ], by simp [gJ_pJ]⟩
    have : p = 0 ∨ p = 1 ∨ p = 2 ∨ p = 3 ∨ p = 4 ∨ p = 5 := by omega
    rcases this with rfl | rfl | rfl | rfl | rfl | rfl <;> simp [gJ_pJ]
  · intro j h1 h2
    rw [← hs2]
    simp only [gI_pJ, gI_pI, show ¬ ((432 : Nat) = 451) by decide, false_and, if_false]
    rw [if_neg (by omega), hM1.2.1 _ _ (fun h => h)]
