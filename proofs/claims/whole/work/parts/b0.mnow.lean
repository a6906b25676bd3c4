/-! the model: reckonings of the day, what is asked of them -/
theorem hx_pred {n : Nat} (hn : n ≤ 24) : ∀ v, v ≤ 24 → ((Int32.ofNat n - Int32.ofNat 1 < Int32.ofNat v) = (n ≤ v)) := by
  intro v hv
  cases n with
  | zero =>
    have : (Int32.ofNat 0 - Int32.ofNat 1 < Int32.ofNat v) := by
      rw [Int32.lt_iff_toInt_lt, show (Int32.ofNat 0 - Int32.ofNat 1).toInt = -1 by decide, Int32.toInt_ofNat_of_lt (by omega)]
      omega
    exact (eq_true this).trans (eq_true (Nat.zero_le v)).symm
  | succ n =>
    rw [n32_sub (by omega), n32_lt (by omega) (by omega)]
    exact propext (by omega)
theorem hx_self {n : Nat} (hn : n < 24) : ∀ v, v ≤ 24 → ((Int32.ofNat n < Int32.ofNat v) = (n + 1 ≤ v)) := by
  intro v hv
  rw [n32_lt (by omega) (by omega)]
  exact propext (by omega)
theorem m_goes {g : fm_g} {d N : Nat} {x : Int32} {w : WD} {o : OPT} {bk : Bool} {t : fm_S} (hF : FX t) (hO : OMx t) (hW : MW t w) (hw : wOK w) (hP : PM t o bk) (ho : oOK o) (hN : N ≤ wn w) (hx : ∀ v, v ≤ 24 → ((x < Int32.ofNat v) = (N ≤ v))) : ∃ t', ev g (d + 4) mX12_goes 0 [some (.ref (432 : Nat)), some (.int x), none, none, none] [] t = some (.inl none, t') ∧ FM pM qMT t t' ∧ OM t' (zMd w o bk N).1 ∧ CM3 t' (zMd w o bk N).2.1 (zMd w o bk N).2.2.1 (zMd w o bk N).2.2.2 ∧ OPq t t' ∧ TRA t' w o bk N := by
  obtain ⟨t1, e1, hM1, hO1, hC1, hV1⟩ := m_begin (g := g) (d := d + 2) hF hO hW hw
  have hF1 := hM1.fx hF
  have hW1 : MW t1 w := hW.of hM1.2.1
  obtain ⟨t', f1, f2, f3, f4, f5, f6⟩ := m_goesLoop (g := g) (d := d) (x := x) hF1 hW1 hw (hP.of hV1) ho hN hx N 0 t1 (by omega) FM.rf hO1 hC1 OPq.rf (fun v hv => absurd hv (by omega))
  refine ⟨t', ?_, (FM.mt hM1).tr f2, f3, f4, hV1.tr f5, f6⟩
  simp (disch := first | exact jm_lt0 | (apply jm_ltx; (repeat (first | exact jw_0 | apply jw_i | apply jw_r | apply jw_l)); omega) | omega | assumption | exact sa_432 | exact n32_inA sb_432 (by omega) (by omega) | (refine n32_inA (by assumption) ?_ ?_ <;> omega) | exact bi01 | (rw [sa_432]; omega) | decide) only [sX12_goes_0, sX12_goes_1, sX12_goes_4, sX12_goes_5, evK_n, evK_v, evK_x, gI_pI, gJ_pI, gR_pI, gI_pJ, gJ_pJ, gR_pJ, gI_pR, gJ_pR, gR_pR, if_true, if_false, not_true_eq_false, not_false_eq_true, and_true, true_and, and_false, false_and, and_self, or_true, true_or, or_false, false_or, or_self, ne_eq, Decidable.not_not, Nat.reduceEqDiff, Nat.reduceEqDiff, e1]
  exact f1
theorem m_goesAll {g : fm_g} {d : Nat} {w : WD} {o : OPT} {bk : Bool} {t : fm_S} (hF : FX t) (hO : OMx t) (hW : MW t w) (hw : wOK w) (hP : PM t o bk) (ho : oOK o) : ∃ t', ev g (d + 5) mX12_goesAll 0 [some (.ref (432 : Nat))] [] t = some (.inl none, t') ∧ FM pM qMT t t' ∧ OM t' (zMd w o bk (wn w)).1 ∧ CM3 t' (zMd w o bk (wn w)).2.1 (zMd w o bk (wn w)).2.2.1 (zMd w o bk (wn w)).2.2.2 ∧ OPq t t' ∧ TRA t' w o bk (wn w) := by
  have hn : wn w ≤ 24 := hw.2.2.1
  obtain ⟨t', f1, f2⟩ := m_goes (g := g) (d := d) hF hO hW hw hP ho (Nat.le_refl _) (hx_pred hn)
  refine ⟨t', ?_, f2⟩
  have h19 := hW.2.2.2.1.1
  simp (disch := first | exact jm_lt0 | (apply jm_ltx; (repeat (first | exact jw_0 | apply jw_i | apply jw_r | apply jw_l)); omega) | omega | assumption | exact sa_432 | exact n32_inA sb_432 (by omega) (by omega) | (refine n32_inA (by assumption) ?_ ?_ <;> omega) | exact bi01 | (rw [sa_432]; omega) | decide) only [sX12_goesAll_0, sX12_goesAll_1, sX12_goesAll_2, sX12_goesAll_5, sX12_goesAll_6, sX12_goesAll_7, sX12_goesAll_10, evK_n, evK_v, evK_x, gI_pI, gJ_pI, gR_pI, gI_pJ, gJ_pJ, gR_pJ, gI_pR, gJ_pR, gR_pR, if_true, if_false, not_true_eq_false, not_false_eq_true, and_true, true_and, and_false, false_and, and_self, or_true, true_or, or_false, false_or, or_self, ne_eq, Decidable.not_not, Nat.reduceEqDiff, Nat.reduceEqDiff, sa_432, sb_432, h19, f1]
def pMp (b j : Nat) : Prop := b = 432 ∧ 43 ≤ j ∧ j ≤ 50
theorem pMp_pM {b j : Nat} (h : pMp b j) : pM b j := by unfold pMp at h; unfold pM; omega
theorem m_plain {g : fm_g} {d : Nat} {w : WD} {t : fm_S} (hF : FX t) (hW : MW t w) : ∃ t', ev g d mX12_plain 0 [some (.ref (432 : Nat))] [] t = some (.inl none, t') ∧ FM pMp nO t t' ∧ PM t' (o00 w) false := by
  have w4 := hW.1 4 (by decide)
  have w6 := hW.1 6 (by decide)
  have r11 := hF.u 432 11 436 (by decide +kernel)
  refine ⟨pI (pI (pI (pI (pI (pI (pI (pI t 432 43 (Int32.ofNat (wT w 4))) 432 44 (Int32.ofNat (wT w 6))) 432 45 (Int32.ofNat 0)) 432 46 (-1)) 432 47 (-1)) 432 48 (-1)) 432 49 (Int32.ofNat 0)) 432 50 (Int32.ofNat 0), ?_, ?_, ?_⟩
  · simp (disch := first | exact jm_lt0 | (apply jm_ltx; (repeat (first | exact jw_0 | apply jw_i | apply jw_r | apply jw_l)); omega) | omega | assumption | exact sa_432 | exact sa_436 | exact n32_inA sb_432 (by omega) (by omega) | exact n32_inA sb_436 (by omega) (by omega) | (refine n32_inA (by assumption) ?_ ?_ <;> omega) | exact bi01 | (rw [sa_432]; omega) | (rw [sa_436]; omega) | decide) only [sX12_plain_0, sX12_plain_1, sX12_plain_2, sX12_plain_5, sX12_plain_6, sX12_plain_7, sX12_plain_10, sX12_plain_11, sX12_plain_12, sX12_plain_15, sX12_plain_17, sX12_plain_18, sX12_plain_21, sX12_plain_22, sX12_plain_23, sX12_plain_26, sX12_plain_27, sX12_plain_28, sX12_plain_31, sX12_plain_32, sX12_plain_33, sX12_plain_36, sX12_plain_37, sX12_plain_38, sX12_plain_41, sX12_plain_42, sX12_plain_43, sX12_plain_46, sX12_plain_47, sX12_plain_48, sX12_plain_51, evK_n, evK_v, evK_x, gI_pI, gJ_pI, gR_pI, gI_pJ, gJ_pJ, gR_pJ, gI_pR, gJ_pR, gR_pR, n32_cl, if_true, if_false, not_true_eq_false, not_false_eq_true, and_true, true_and, and_false, false_and, and_self, or_true, true_or, or_false, false_or, or_self, ne_eq, Decidable.not_not, Nat.reduceEqDiff, Nat.reduceEqDiff, sa_432, sb_432, sa_436, sb_436, r11, w4, w6, show ¬ ((436 : Nat) = 432) by decide]
  · exact (((((((FM.pI (by unfold pMp; omega)).tr (FM.pI (by unfold pMp; omega))).tr (FM.pI (by unfold pMp; omega))).tr (FM.pI (by unfold pMp; omega))).tr (FM.pI (by unfold pMp; omega))).tr (FM.pI (by unfold pMp; omega))).tr (FM.pI (by unfold pMp; omega))).tr (FM.pI (by unfold pMp; omega))
  · refine ⟨by simp [gI_pI, o00, opt], by simp [gI_pI, o00, opt], by simp [gI_pI, o00, opt], by simp [gI_pI, o00, opt], by simp [gI_pI, bi], Or.inr (Or.inl ⟨by simp [gI_pI], by simp [gI_pI], by simp [gI_pI], fun p _ => by simp [o00, opt]⟩)⟩
theorem m_costNow {g : fm_g} {d : Nat} {w : WD} {o : OPT} {t : fm_S} (hF : FX t) (hO : OMx t) (hW : MW t w) (hw : wOK w) (hP : PM t o false) (ho : oOK o) : ∃ t', ev g (d + 6) mX12_costNow 0 [some (.ref (432 : Nat)), none, none, none] [] t = some (.inl (some (.long (Int64.ofNat (costS w o)))), t') ∧ FM pM qMT t t' ∧ OMx t' ∧ OPq t t' := by
  obtain ⟨t', f1, f2, f3, f4, f5, f6⟩ := m_goesAll (g := g) (d := d) hF hO hW hw hP ho
  refine ⟨t', ?_, f2, f3.x, f5⟩
  have hF1 := f2.fx hF
  have hW1 : MW t' w := hW.of f2.2.1
  have p0 := hW1.2.1 0 (by decide)
  have p1 := hW1.2.1 1 (by decide)
  have p2 := hW1.2.1 2 (by decide)
  have q0 := hw.2.1 0 (by decide)
  have q1 := hw.2.1 1 (by decide)
  have q2 := hw.2.1 2 (by decide)
  have r11 := hF1.u 432 11 436 (by decide +kernel)
  have r39 := hF1.u 432 39 455 (by decide +kernel)
  obtain ⟨c0, c6, c7⟩ := f4
  have lp : ∀ (i : Nat), i < 6 → ev g (d + 6) mX12_costNow 8 [some (.ref (432 : Nat)), some (.long (Int64.ofNat (sumN (zMd w o false (wn w)).2.1 i))), none, some (.int (Int32.ofNat i))] [] t' = ev g (d + 6) mX12_costNow 8 [some (.ref (432 : Nat)), some (.long (Int64.ofNat (sumN (zMd w o false (wn w)).2.1 (i + 1)))), none, some (.int (Int32.ofNat (i + 1)))] [] t' := fun i hi => by
    have g1 : ¬ 6 ≤ i := by omega
    have ci := c0 i hi
    have hs : sumN (zMd w o false (wn w)).2.1 (i + 1) = sumN (zMd w o false (wn w)).2.1 i + (zMd w o false (wn w)).2.1 i := rfl
    rw [sX12_costNow_8, hs]
    simp (disch := first | exact jm_lt0 | (apply jm_ltx; (repeat (first | exact jw_0 | apply jw_i | apply jw_r | apply jw_l)); omega) | omega | assumption | exact sa_432 | exact sa_455 | exact n32_inA sb_432 (by omega) (by omega) | exact n32_inA sb_455 (by omega) (by omega) | (refine n32_inA (by assumption) ?_ ?_ <;> omega) | exact bi01 | (rw [sa_432]; omega) | (rw [sa_455]; omega) | decide) only [sX12_costNow_0, sX12_costNow_1, sX12_costNow_4, sX12_costNow_5, sX12_costNow_6, sX12_costNow_7, sX12_costNow_9, sX12_costNow_11, sX12_costNow_14, sX12_costNow_15, sX12_costNow_16, sX12_costNow_19, sX12_costNow_20, sX12_costNow_21, sX12_costNow_22, sX12_costNow_23, sX12_costNow_26, kX12_costNow_29_AJNI, sX12_costNow_29, sX12_costNow_30, sX12_costNow_33, sX12_costNow_35, sX12_costNow_36, sX12_costNow_37, sX12_costNow_38, sX12_costNow_39, sX12_costNow_40, sX12_costNow_43, sX12_costNow_45, sX12_costNow_46, sX12_costNow_47, sX12_costNow_48, sX12_costNow_51, sX12_costNow_52, sX12_costNow_53, sX12_costNow_54, sX12_costNow_57, sX12_costNow_59, sX12_costNow_60, sX12_costNow_61, sX12_costNow_62, sX12_costNow_65, sX12_costNow_66, sX12_costNow_67, evK_n, evK_v, evK_x, gI_pI, gJ_pI, gR_pI, gI_pJ, gJ_pJ, gR_pJ, gI_pR, gJ_pR, gR_pR, n32_le, n32_lt, n32_add, n32_mul, n32_cl, if_true, if_false, not_true_eq_false, not_false_eq_true, and_true, true_and, and_false, false_and, and_self, or_true, true_or, or_false, false_or, or_self, ne_eq, Decidable.not_not, Nat.reduceEqDiff, Nat.reduceEqDiff, sa_432, sb_432, sa_455, sb_455, r39, g1, ci, n64_add]
  have pre : ev g (d + 6) mX12_costNow 0 [some (.ref (432 : Nat)), none, none, none] [] t = ev g (d + 6) mX12_costNow 8 [some (.ref (432 : Nat)), some (.long (Int64.ofNat (sumN (zMd w o false (wn w)).2.1 0))), none, some (.int (Int32.ofNat 0))] [] t' := by
    simp (disch := first | exact jm_lt0 | (apply jm_ltx; (repeat (first | exact jw_0 | apply jw_i | apply jw_r | apply jw_l)); omega) | omega | assumption | exact sa_432 | exact sa_455 | exact n32_inA sb_432 (by omega) (by omega) | exact n32_inA sb_455 (by omega) (by omega) | (refine n32_inA (by assumption) ?_ ?_ <;> omega) | exact bi01 | (rw [sa_432]; omega) | (rw [sa_455]; omega) | decide) only [sX12_costNow_0, sX12_costNow_1, sX12_costNow_4, sX12_costNow_5, sX12_costNow_6, sX12_costNow_7, sX12_costNow_9, sX12_costNow_11, sX12_costNow_14, sX12_costNow_15, sX12_costNow_16, sX12_costNow_19, sX12_costNow_20, sX12_costNow_21, sX12_costNow_22, sX12_costNow_23, sX12_costNow_26, kX12_costNow_29_AJNI, sX12_costNow_29, sX12_costNow_30, sX12_costNow_33, sX12_costNow_35, sX12_costNow_36, sX12_costNow_37, sX12_costNow_38, sX12_costNow_39, sX12_costNow_40, sX12_costNow_43, sX12_costNow_45, sX12_costNow_46, sX12_costNow_47, sX12_costNow_48, sX12_costNow_51, sX12_costNow_52, sX12_costNow_53, sX12_costNow_54, sX12_costNow_57, sX12_costNow_59, sX12_costNow_60, sX12_costNow_61, sX12_costNow_62, sX12_costNow_65, sX12_costNow_66, sX12_costNow_67, evK_n, evK_v, evK_x, gI_pI, gJ_pI, gR_pI, gI_pJ, gJ_pJ, gR_pJ, gI_pR, gJ_pR, gR_pR, n32_le, n32_lt, n32_add, n32_mul, n32_cl, if_true, if_false, not_true_eq_false, not_false_eq_true, and_true, true_and, and_false, false_and, and_self, or_true, true_or, or_false, false_or, or_self, ne_eq, Decidable.not_not, Nat.reduceEqDiff, Nat.reduceEqDiff, sa_432, sb_432, sa_455, sb_455, f1, sumN]
  rw [pre]
  refine (lp 0 (by decide)).trans ((lp 1 (by decide)).trans ((lp 2 (by decide)).trans ((lp 3 (by decide)).trans ((lp 4 (by decide)).trans ((lp 5 (by decide)).trans ?_)))))
  rw [sX12_costNow_8]
  simp (disch := first | exact jm_lt0 | (apply jm_ltx; (repeat (first | exact jw_0 | apply jw_i | apply jw_r | apply jw_l)); omega) | omega | assumption | exact sa_432 | exact sa_436 | exact n32_inA sb_432 (by omega) (by omega) | exact n32_inA sb_436 (by omega) (by omega) | (refine n32_inA (by assumption) ?_ ?_ <;> omega) | exact bi01 | (rw [sa_432]; omega) | (rw [sa_436]; omega) | decide) only [sX12_costNow_0, sX12_costNow_1, sX12_costNow_4, sX12_costNow_5, sX12_costNow_6, sX12_costNow_7, sX12_costNow_9, sX12_costNow_11, sX12_costNow_14, sX12_costNow_15, sX12_costNow_16, sX12_costNow_19, sX12_costNow_20, sX12_costNow_21, sX12_costNow_22, sX12_costNow_23, sX12_costNow_26, kX12_costNow_29_AJNI, sX12_costNow_29, sX12_costNow_30, sX12_costNow_33, sX12_costNow_35, sX12_costNow_36, sX12_costNow_37, sX12_costNow_38, sX12_costNow_39, sX12_costNow_40, sX12_costNow_43, sX12_costNow_45, sX12_costNow_46, sX12_costNow_47, sX12_costNow_48, sX12_costNow_51, sX12_costNow_52, sX12_costNow_53, sX12_costNow_54, sX12_costNow_57, sX12_costNow_59, sX12_costNow_60, sX12_costNow_61, sX12_costNow_62, sX12_costNow_65, sX12_costNow_66, sX12_costNow_67, evK_n, evK_v, evK_x, gI_pI, gJ_pI, gR_pI, gI_pJ, gJ_pJ, gR_pJ, gI_pR, gJ_pR, gR_pR, n32_le, n32_lt, n32_add, n32_mul, n32_cl, if_true, if_false, not_true_eq_false, not_false_eq_true, and_true, true_and, and_false, false_and, and_self, or_true, true_or, or_false, false_or, or_self, ne_eq, Decidable.not_not, Nat.reduceEqDiff, Nat.reduceEqDiff, sa_432, sb_432, sa_436, sb_436, show ((6 : Nat) ≤ 5 + 1) = True from eq_true (by decide), r11, p0, p1, p2, c6, c7]
  rw [n32_64 (by omega), n32_64 (by omega), n32_64 (by omega), n64_mul, n64_mul, n64_mul, n64_add, n64_add]
  unfold costS costZ
  rw [zMd_go]
theorem fct1 {w : WD} {v : Nat} {D : Nat → Nat} : fctS w v 1 D = truS D := by
  unfold fctS truS
  refine sumN_congr (fun k _ => ?_)
  unfold kis
  simp
theorem m_trueNow {g : fm_g} {d : Nat} {w : WD} {o : OPT} {t : fm_S} (hF : FX t) (hO : OMx t) (hW : MW t w) (hw : wOK w) (hP : PM t o false) (ho : oOK o) : ∃ t', ev g (d + 6) mX12_trueNow 0 [some (.ref (432 : Nat))] [] t = some (.inl (some (.long (Int64.ofNat (endS w o)))), t') ∧ FM pM qMT t t' ∧ OMx t' ∧ OPq t t' := by
  obtain ⟨t1, f1, f2, f3, f4, f5, f6⟩ := m_goesAll (g := g) (d := d) hF hO hW hw hP ho
  obtain ⟨j1, j2, j3⟩ := md_ok (bk := false) hw ho (wn w) (Nat.le_refl _)
  obtain ⟨t2, e2, hM2⟩ := m_likely (g := g) (d := d + 3) (v := 0) (what := 1) (f2.fx hF) (f3.w j1) j3 (hW.of f2.2.1) hw (by decide) (by omega)
  have hx : endS w o = fctS w 0 1 (zMd w o false (wn w)).1 := by rw [fct1, zMd_go]; rfl
  rw [← hx] at e2
  refine ⟨t2, ?_, f2.tr (hM2.mono (fun b j q => by unfold pMh at q; unfold pM; omega) (fun _ _ q => q.elim)), ?_, f5.tr (fun j h1 h2 => hM2.2.1 _ _ (by unfold pMh; omega))⟩
  · simp (disch := first | exact jm_lt0 | (apply jm_ltx; (repeat (first | exact jw_0 | apply jw_i | apply jw_r | apply jw_l)); omega) | omega | assumption | exact sa_432 | exact n32_inA sb_432 (by omega) (by omega) | (refine n32_inA (by assumption) ?_ ?_ <;> omega) | exact bi01 | (rw [sa_432]; omega) | decide) only [sX12_trueNow_0, sX12_trueNow_1, sX12_trueNow_4, sX12_trueNow_5, sX12_trueNow_6, sX12_trueNow_7, sX12_trueNow_10, evK_n, evK_v, evK_x, gI_pI, gJ_pI, gR_pI, gI_pJ, gJ_pJ, gR_pJ, gI_pR, gJ_pR, gR_pR, if_true, if_false, not_true_eq_false, not_false_eq_true, and_true, true_and, and_false, false_and, and_self, or_true, true_or, or_false, false_or, or_self, ne_eq, Decidable.not_not, Nat.reduceEqDiff, Nat.reduceEqDiff, sa_432, sb_432, f1, e2]
  · obtain ⟨l, a1, a2, a3⟩ := f3
    exact ⟨l, _, a1.of (hM2.2.1 _ _ (by unfold pMh; omega)) (fun j => hM2.2.1 _ _ (by unfold pMh; omega)) (fun j => hM2.2.2 _ _ (fun h => h)), a2.of (hM2.2.1 _ _ (by unfold pMh; omega)) (fun j => hM2.2.1 _ _ (by unfold pMh; omega)) (fun j => hM2.2.2 _ _ (fun h => h))⟩
/-- a model's row of parts by what the VESSEL holds and what the CARD says -/
theorem beh_sum {D : Nat → Nat} (hS : ∀ k, D k ≠ 0 → k < NS) (hU : UNS D) {c di ca : Nat} (h : c + di ≤ 12) (h1 : ca < 2) : behS D (pno c di * 2 + ca) = sumN (fun st => D (nm c di ca 0 st)) 25 := by
  obtain ⟨p1, p2, p3⟩ := pno_ok h
  have e : ∀ k, k < NS → (if pno (kc k) (kd k) * 2 + kcard k = pno c di * 2 + ca then D k else 0) = sumN (fun st => if k = nm c di ca 0 st then D k else 0) 25 := fun k hk => by
    obtain ⟨l1, l2, l3⟩ := k_lt hk
    have hcd := k_cd k
    by_cases c0 : D k = 0
    · rw [c0]
      simp only [ite_self]
      exact (sumN_zero (fun _ _ => rfl)).symm
    have hse := hU k c0
    by_cases cc : pno (kc k) (kd k) * 2 + kcard k = pno c di * 2 + ca
    · rw [if_pos cc]
      have q1 : pno (kc k) (kd k) = pno c di := by omega
      have q2 : kcard k = ca := by omega
      obtain ⟨-, y2, y3⟩ := pno_ok hcd
      rw [q1] at y2 y3
      have hk1 : kc k = c := by rw [← y2, p2]
      have hk2 : kd k = di := by rw [← y3, p3]
      have hkk : k = nm c di ca 0 (kst k) := by rw [← hk1, ← hk2, ← q2, ← hse, nm_k]
      have : ∀ st, st < 25 → (if k = nm c di ca 0 st then D k else 0) = if st = kst k then D k else 0 := fun st _ => by
        have : (k = nm c di ca 0 st) ↔ (st = kst k) := by
          constructor
          · intro hh
            have := (k_nm (st := st) h h1 (show 0 < 2 by decide)).2.2.2.2
            rw [← hh] at this
            exact this.symm
          · intro hh
            rw [hh]
            exact hkk
        by_cases z : st = kst k
        · rw [if_pos z, if_pos (this.mpr z)]
        · rw [if_neg z, if_neg (fun q => z (this.mp q))]
      rw [sumN_congr this]
      exact (sumN_at (f := fun _ => D k) l3).symm
    · rw [if_neg cc]
      refine (sumN_zero (fun st _ => ?_)).symm
      refine if_neg (fun hh => cc ?_)
      obtain ⟨y1, y2, y3, -⟩ := k_nm (st := st) h h1 (show 0 < 2 by decide)
      rw [← hh] at y1 y2 y3
      rw [y1, y2, y3]
  unfold behS
  rw [sumN_congr e, sumN_swap]
  exact sumN_congr (fun st hst => sumN_at (f := D) (nm_lt h h1 (by decide) hst))
theorem m_partsOf {g : fm_g} {d c di ca : Nat} {D : Nat → Nat} {t : fm_S} (hF : FX t) (hO : OM t D) (hS : ∀ k, D k ≠ 0 → k < NS) (hU : UNS D) (h : c + di ≤ 12) (h1 : ca < 2) : ev g (d + 1) mX12_partsOf 0 [some (.ref (432 : Nat)), some (.int (Int32.ofNat c)), some (.int (Int32.ofNat di)), some (.int (Int32.ofNat ca)), none, none, none] [] t = some (.inl (some (.long (Int64.ofNat (behS D (pno c di * 2 + ca))))), t) := by
  obtain ⟨l, o1, o2, o3⟩ := hO
  have r37 := hF.u 432 37 453 (by decide +kernel)
  rw [beh_sum hS hU h h1]
  have lp : ∀ m i, i + m = 25 → ev g (d + 1) mX12_partsOf 6 [some (.ref (432 : Nat)), some (.int (Int32.ofNat c)), some (.int (Int32.ofNat di)), some (.int (Int32.ofNat ca)), some (.long (Int64.ofNat (sumN (fun st => D (nm c di ca 0 st)) i))), none, some (.int (Int32.ofNat i))] [] t = some (.inl (some (.long (Int64.ofNat (sumN (fun st => D (nm c di ca 0 st)) 25)))), t) := by
    intro m
    induction m with
    | zero =>
      intro i hi
      have : i = 25 := by omega
      subst this
      rw [sX12_partsOf_6]
      simp (disch := first | exact jm_lt0 | (apply jm_ltx; (repeat (first | exact jw_0 | apply jw_i | apply jw_r | apply jw_l)); omega) | omega | assumption | exact sa_432 | exact n32_inA sb_432 (by omega) (by omega) | (refine n32_inA (by assumption) ?_ ?_ <;> omega) | exact bi01 | (rw [sa_432]; omega) | decide) only [sX12_partsOf_0, sX12_partsOf_1, sX12_partsOf_3, sX12_partsOf_4, sX12_partsOf_8, sX12_partsOf_10, sX12_partsOf_13, sX12_partsOf_15, sX12_partsOf_16, sX12_partsOf_19, sX12_partsOf_20, sX12_partsOf_21, sX12_partsOf_22, sX12_partsOf_24, sX12_partsOf_25, sX12_partsOf_28, sX12_partsOf_29, sX12_partsOf_30, sX12_partsOf_32, sX12_partsOf_35, kX12_partsOf_38_AIIIJNI, sX12_partsOf_38, sX12_partsOf_40, evK_n, evK_v, evK_x, gI_pI, gJ_pI, gR_pI, gI_pJ, gJ_pJ, gR_pJ, gI_pR, gJ_pR, gR_pR, n32_le, n32_lt, n32_add, n32_mul, n32_cl, if_true, if_false, not_true_eq_false, not_false_eq_true, and_true, true_and, and_false, false_and, and_self, or_true, true_or, or_false, false_or, or_self, ne_eq, Decidable.not_not, Nat.reduceEqDiff, Nat.reduceEqDiff, sa_432, sb_432, Nat.le_refl]
    | succ m ih =>
      intro i hi
      have g1 : ¬ 25 ≤ i := by omega
      have e1 := m_index (g := g) (d := d) (c := c) (di := di) (ca := ca) (st := i) (se := 0) (s := t)
      rw [mix_nm h h1 (by decide)] at e1
      have hk := nm_lt (st := i) h h1 (show 0 < 2 by decide) (by omega)
      have hmx := mix_lt hk
      have hJ := o1.2.2.2.2.1 _ hmx
      rw [pq_mix hk] at hJ
      have hi2 := ih (i + 1) (by omega)
      rw [show sumN (fun st => D (nm c di ca 0 st)) (i + 1) = sumN (fun st => D (nm c di ca 0 st)) i + D (nm c di ca 0 i) from rfl, ← n64_add] at hi2
      rw [sX12_partsOf_6]
      simp (disch := first | exact jm_lt0 | (apply jm_ltx; (repeat (first | exact jw_0 | apply jw_i | apply jw_r | apply jw_l)); omega) | omega | assumption | exact sa_432 | exact sa_453 | exact n32_inA sb_432 (by omega) (by omega) | exact n32_inA sb_453 (by omega) (by omega) | (refine n32_inA (by assumption) ?_ ?_ <;> omega) | exact bi01 | (rw [sa_432]; omega) | (rw [sa_453]; omega) | decide) only [sX12_partsOf_0, sX12_partsOf_1, sX12_partsOf_3, sX12_partsOf_4, sX12_partsOf_8, sX12_partsOf_10, sX12_partsOf_13, sX12_partsOf_15, sX12_partsOf_16, sX12_partsOf_19, sX12_partsOf_20, sX12_partsOf_21, sX12_partsOf_22, sX12_partsOf_24, sX12_partsOf_25, sX12_partsOf_28, sX12_partsOf_29, sX12_partsOf_30, sX12_partsOf_32, sX12_partsOf_35, kX12_partsOf_38_AIIIJNI, sX12_partsOf_38, sX12_partsOf_40, evK_n, evK_v, evK_x, gI_pI, gJ_pI, gR_pI, gI_pJ, gJ_pJ, gR_pJ, gI_pR, gJ_pR, gR_pR, n32_le, n32_lt, n32_add, n32_mul, n32_cl, if_true, if_false, not_true_eq_false, not_false_eq_true, and_true, true_and, and_false, false_and, and_self, or_true, true_or, or_false, false_or, or_self, ne_eq, Decidable.not_not, Nat.reduceEqDiff, Nat.reduceEqDiff, sa_432, sb_432, sa_453, sb_453, g1, r37, e1, hJ]
      exact hi2
  rw [sX12_partsOf_0, sX12_partsOf_1, sX12_partsOf_3, sX12_partsOf_4]
  exact lp 25 0 (by omega)
