/-! the class: a PERSON does his STEPS -/
/-- what is planned -/
def PL (s : fm_S) (o : OPT) : Prop := gI s 307 10 = Int32.ofNat o.1 ∧ gI s 307 11 = Int32.ofNat o.2.1 ∧ gI s 307 12 = (if o.2.2.1 = 0 then -1 else Int32.ofNat o.2.2.1) ∧ gI s 307 13 = (if o.2.2.2.1 = 99 then -1 else Int32.ofNat o.2.2.2.1) ∧ ∀ p, p < 6 → gR s 315 p = hcl (o.2.2.2.2 p)
def oOK (o : OPT) : Prop := o.1 ≤ 16 ∧ o.2.1 ≤ 16 ∧ o.2.2.1 ≤ 12 ∧ (o.2.2.2.1 < 6 ∨ o.2.2.2.1 = 99) ∧ ∀ p, p < 6 → o.2.2.2.2 p < 7
theorem PL.rm {s s' : fm_S} {o : OPT} (h : PL s o) (x : RM pN qO rsw s s') : PL s' o := by
  obtain ⟨h1, h2, h3, h4, h5⟩ := h
  refine ⟨?_, ?_, ?_, ?_, fun p hp => ?_⟩
  · rw [x.2.1 _ _ (by unfold pN pO pE HSK; omega), h1]
  · rw [x.2.1 _ _ (by unfold pN pO pE HSK; omega), h2]
  · rw [x.2.1 _ _ (by unfold pN pO pE HSK; omega), h3]
  · rw [x.2.1 _ _ (by unfold pN pO pE HSK; omega), h4]
  · rw [x.2.2.2 _ _ (by unfold rsw; omega), h5 p hp]
theorem RM.N {s s' : fm_S} (x : RM pO qO rsw s s') : RM pN qO rsw s s' := x.mono (fun _ _ h => Or.inl h) (fun _ _ h => h) (fun _ _ h => h)
theorem pN_TC {b j : Nat} (h : pN b j) : TC b j := by
  rcases h with h | h
  · exact pO_TC h
  · unfold pE at h; unfold TC; omega
theorem TB.N {s s' : fm_S} (h : TB s) (x : RM pN qO rsw s s') : TB s' := h.of (fun j => ⟨x.2.1 _ _ (by unfold pN pO pE HSK; omega), x.2.1 _ _ (by unfold pN pO pE HSK; omega)⟩)
theorem CW.N {s s' : fm_S} {w : WD} (h : CW s w) (hw : wOK w) (x : RM pN qO rsw s s') : CW s' w := h.of hw (fun b j hb => x.2.1 b j (fun q => hb (pN_TC q)))
/-- the class holds these parts and counts -/
def ZS (s : fm_S) (Z : ZZ) : Prop := OS s Z.1 ∧ CT3 s Z.2.1 Z.2.2.1 Z.2.2.2
theorem hcl_pos {p : Nat} : hcl p ≠ 0 := by unfold hcl; split <;> omega
theorem c7_actLoop {g : fm_g} {d v h p see : Nat} {w : WD} {Z : ZZ} {s0 : fm_S} (hF : FX s0) (hB : TB s0) (hE : HE s0 310 w v) (hCW : CW s0 w) (hw : wOK w) (hv : v < 24) (hh : h < 7) (hp : p < 6) (h11 : gI s0 307 11 = Int32.ofNat see) (hs : see ≤ 16) (hS : SUP (v + 1) Z.1) (hU : UNS Z.1) (hD : sumN Z.1 NS ≤ ONE) : ∀ (m i : Nat) (s : fm_S), i + m = hbm (wH w h) → RM pO qO rsw s0 s → ZS s (zSts w v h p see Z i) → ∃ s', ev g (d + 4) mX7_act 32 [some (.ref (307 : Nat)), some (.int (Int32.ofNat p)), some (.ref (hcl h)), some (.int (bi (lkb (wH w h) i = true))), some (.int (Int32.ofNat i))] [] s = ev g (d + 4) mX7_act 75 [some (.ref (307 : Nat)), none, none, some (.int (bi (lkb (wH w h) (hbm (wH w h)) = true))), none] [] s' ∧ RM pO qO rsw s0 s' ∧ ZS s' (zSts w v h p see Z (hbm (wH w h))) := by
  have hhL := hcl_in hh
  have sH : (shp (hcl h)).1 = 5 := (hS_of hhL).1
  have hOK1 := hw.2.2.2.2.1 h hh
  obtain ⟨q1, q2, q3, q4⟩ := id hOK1
  intro m
  induction m with
  | zero =>
    intro i s hi hM hZ
    have hii : i = hbm (wH w h) := by omega
    subst hii
    have hC := (hCW.of hw (fun b j hb => hM.2.1 b j (fun q => hb (pO_TC q)))).2.2.2.1 h hh
    have e0 := hC.1
    refine ⟨s, ?_, hM, hZ⟩
    rw [sX7_act_32]
    simp (disch := first | exact jm_lt0 | (apply jm_ltx; (repeat (first | exact jw_0 | apply jw_i | apply jw_r | apply jw_l)); omega) | omega | assumption | exact sa_307 | exact n32_inA sb_307 (by omega) (by omega) | (refine n32_inA (by assumption) ?_ ?_ <;> omega) | exact bi01 | (rw [sa_307]; omega) | decide) only [sX7_act_0, sX7_act_1, sX7_act_4, sX7_act_5, sX7_act_7, sX7_act_10, sX7_act_11, sX7_act_14, sX7_act_15, sX7_act_16, kX7_act_19_AINNN, sX7_act_19, sX7_act_20, sX7_act_21, sX7_act_24, sX7_act_25, sX7_act_26, sX7_act_27, sX7_act_28, sX7_act_29, sX7_act_30, sX7_act_34, sX7_act_35, sX7_act_38, sX7_act_41, sX7_act_42, sX7_act_43, sX7_act_45, sX7_act_46, sX7_act_49, sX7_act_50, sX7_act_53, sX7_act_54, sX7_act_56, sX7_act_59, sX7_act_60, kX7_act_63_AIAII, sX7_act_63, sX7_act_64, kX7_act_67_AIAII, sX7_act_67, sX7_act_68, sX7_act_69, sX7_act_72, kX7_act_75_AIAII, sX7_act_76, sX7_act_79, sX7_act_80, kX7_act_83_ANNIN, sX7_act_83, sX7_act_84, sX7_act_87, sX7_act_88, sX7_act_91, sX7_act_92, kX7_act_95_ANNNN, sX7_act_95, evK_n, evK_v, evK_x, gI_pI, gJ_pI, gR_pI, gI_pJ, gJ_pJ, gR_pJ, gI_pR, gJ_pR, gR_pR, n32_le, n32_lt, n32_add, n32_mul, n32_cl, if_true, if_false, not_true_eq_false, not_false_eq_true, and_true, true_and, and_false, false_and, and_self, or_true, true_or, or_false, false_or, or_self, ne_eq, Decidable.not_not, Nat.reduceEqDiff, Nat.reduceEqDiff, sa_307, sb_307, e0]
    rw [if_pos (by omega)]
  | succ m ih =>
    intro i s hi hM hZ
    have hFs := hM.fxs hF
    have hCWs := hCW.of hw (fun b j hb => hM.2.1 b j (fun q => hb (pO_TC q)))
    have hC := hCWs.2.2.2.1 h hh
    have e0 := hC.1
    obtain ⟨z1, z2, z3⟩ := zSts_ok (p := p) (see := see) hw hh hs hv hS hU i (by omega)
    obtain ⟨hO, hT⟩ := hZ
    have g1 : ¬ hbm (wH w h) ≤ i := by omega
    obtain ⟨s1, e1, hM1, hO1, hT1⟩ := c7_doStep (g := g) (d := d) (i := i) (p := p) hFs (hB.ofO hM.2.1) hO (by rw [z3]; exact hD) (hE.of hM.2.1) hCWs hw hv hh (by omega) hp (by rw [hM.2.1 _ _ (by unfold pO HSK; omega), h11]) hs (fun k _ hk0 => (z1 k hk0).2) hT
    have hC1 := (hCWs.of hw (fun b j hb => hM1.2.1 b j (fun q => hb (pO_TC q)))).2.2.2.1 h hh
    have e2 := c5_actOf (g := g) (d := d + 3) (hM1.fxs hFs) hhL hOK1 hC1 (show i < hbm (wH w h) by omega)
    obtain ⟨p1, -⟩ := q4 i (by omega)
    obtain ⟨s', f1, f2, f3⟩ := ih (i + 1) s1 (by omega) (hM.tr hM1) ⟨hO1, hT1⟩
    refine ⟨s', ?_, f2, f3⟩
    rw [sX7_act_32]
    have hl : lkb (wH w h) (i + 1) = (lkb (wH w h) i || decide (hbA (wH w h) i = 2)) := rfl
    rw [hl] at f1
    cases c : lkb (wH w h) i with
    | true =>
      rw [c, Bool.true_or, bi_t rfl] at f1
      rw [bi_t rfl]
      simp (disch := first | exact jm_lt0 | (apply jm_ltx; (repeat (first | exact jw_0 | apply jw_i | apply jw_r | apply jw_l)); omega) | omega | assumption | exact sa_307 | exact n32_inA sb_307 (by omega) (by omega) | (refine n32_inA (by assumption) ?_ ?_ <;> omega) | exact bi01 | (rw [sa_307]; omega) | decide) only [sX7_act_0, sX7_act_1, sX7_act_4, sX7_act_5, sX7_act_7, sX7_act_10, sX7_act_11, sX7_act_14, sX7_act_15, sX7_act_16, kX7_act_19_AINNN, sX7_act_19, sX7_act_20, sX7_act_21, sX7_act_24, sX7_act_25, sX7_act_26, sX7_act_27, sX7_act_28, sX7_act_29, sX7_act_30, sX7_act_34, sX7_act_35, sX7_act_38, sX7_act_41, sX7_act_42, sX7_act_43, sX7_act_45, sX7_act_46, sX7_act_49, sX7_act_50, sX7_act_53, sX7_act_54, sX7_act_56, sX7_act_59, sX7_act_60, kX7_act_63_AIAII, sX7_act_63, sX7_act_64, kX7_act_67_AIAII, sX7_act_67, sX7_act_68, sX7_act_69, sX7_act_72, kX7_act_75_AIAII, sX7_act_76, sX7_act_79, sX7_act_80, kX7_act_83_ANNIN, sX7_act_83, sX7_act_84, sX7_act_87, sX7_act_88, sX7_act_91, sX7_act_92, kX7_act_95_ANNNN, sX7_act_95, evK_n, evK_v, evK_x, gI_pI, gJ_pI, gR_pI, gI_pJ, gJ_pJ, gR_pJ, gI_pR, gJ_pR, gR_pR, n32_le, n32_lt, n32_add, n32_mul, n32_cl, if_true, if_false, not_true_eq_false, not_false_eq_true, and_true, true_and, and_false, false_and, and_self, or_true, true_or, or_false, false_or, or_self, ne_eq, Decidable.not_not, Nat.reduceEqDiff, Nat.reduceEqDiff, sa_307, sb_307, e0, g1, e1, show ¬ (Int32.ofNat 1 = 0) by decide]
      exact f1
    | false =>
      rw [c, Bool.false_or] at f1
      rw [bi_f (by decide)]
      by_cases c2 : hbA (wH w h) i = 2
      · rw [bi_t (by rw [c2]; decide)] at f1
        simp (disch := first | exact jm_lt0 | (apply jm_ltx; (repeat (first | exact jw_0 | apply jw_i | apply jw_r | apply jw_l)); omega) | omega | assumption | exact sa_307 | exact n32_inA sb_307 (by omega) (by omega) | (refine n32_inA (by assumption) ?_ ?_ <;> omega) | exact bi01 | (rw [sa_307]; omega) | decide) only [sX7_act_0, sX7_act_1, sX7_act_4, sX7_act_5, sX7_act_7, sX7_act_10, sX7_act_11, sX7_act_14, sX7_act_15, sX7_act_16, kX7_act_19_AINNN, sX7_act_19, sX7_act_20, sX7_act_21, sX7_act_24, sX7_act_25, sX7_act_26, sX7_act_27, sX7_act_28, sX7_act_29, sX7_act_30, sX7_act_34, sX7_act_35, sX7_act_38, sX7_act_41, sX7_act_42, sX7_act_43, sX7_act_45, sX7_act_46, sX7_act_49, sX7_act_50, sX7_act_53, sX7_act_54, sX7_act_56, sX7_act_59, sX7_act_60, kX7_act_63_AIAII, sX7_act_63, sX7_act_64, kX7_act_67_AIAII, sX7_act_67, sX7_act_68, sX7_act_69, sX7_act_72, kX7_act_75_AIAII, sX7_act_76, sX7_act_79, sX7_act_80, kX7_act_83_ANNIN, sX7_act_83, sX7_act_84, sX7_act_87, sX7_act_88, sX7_act_91, sX7_act_92, kX7_act_95_ANNNN, sX7_act_95, evK_n, evK_v, evK_x, gI_pI, gJ_pI, gR_pI, gI_pJ, gJ_pJ, gR_pJ, gI_pR, gJ_pR, gR_pR, n32_le, n32_lt, n32_add, n32_mul, n32_cl, if_true, if_false, not_true_eq_false, not_false_eq_true, and_true, true_and, and_false, false_and, and_self, or_true, true_or, or_false, false_or, or_self, ne_eq, Decidable.not_not, Nat.reduceEqDiff, Nat.reduceEqDiff, sa_307, sb_307, e0, g1, e1, z32, e2, n32_eq, c2]
        exact f1
      · rw [bi_f (by rw [decide_eq_true_eq]; exact c2)] at f1
        simp (disch := first | exact jm_lt0 | (apply jm_ltx; (repeat (first | exact jw_0 | apply jw_i | apply jw_r | apply jw_l)); omega) | omega | assumption | exact sa_307 | exact n32_inA sb_307 (by omega) (by omega) | (refine n32_inA (by assumption) ?_ ?_ <;> omega) | exact bi01 | (rw [sa_307]; omega) | decide) only [sX7_act_0, sX7_act_1, sX7_act_4, sX7_act_5, sX7_act_7, sX7_act_10, sX7_act_11, sX7_act_14, sX7_act_15, sX7_act_16, kX7_act_19_AINNN, sX7_act_19, sX7_act_20, sX7_act_21, sX7_act_24, sX7_act_25, sX7_act_26, sX7_act_27, sX7_act_28, sX7_act_29, sX7_act_30, sX7_act_34, sX7_act_35, sX7_act_38, sX7_act_41, sX7_act_42, sX7_act_43, sX7_act_45, sX7_act_46, sX7_act_49, sX7_act_50, sX7_act_53, sX7_act_54, sX7_act_56, sX7_act_59, sX7_act_60, kX7_act_63_AIAII, sX7_act_63, sX7_act_64, kX7_act_67_AIAII, sX7_act_67, sX7_act_68, sX7_act_69, sX7_act_72, kX7_act_75_AIAII, sX7_act_76, sX7_act_79, sX7_act_80, kX7_act_83_ANNIN, sX7_act_83, sX7_act_84, sX7_act_87, sX7_act_88, sX7_act_91, sX7_act_92, kX7_act_95_ANNNN, sX7_act_95, evK_n, evK_v, evK_x, gI_pI, gJ_pI, gR_pI, gI_pJ, gJ_pJ, gR_pJ, gI_pR, gJ_pR, gR_pR, n32_le, n32_lt, n32_add, n32_mul, n32_cl, if_true, if_false, not_true_eq_false, not_false_eq_true, and_true, true_and, and_false, false_and, and_self, or_true, true_or, or_false, false_or, or_self, ne_eq, Decidable.not_not, Nat.reduceEqDiff, Nat.reduceEqDiff, sa_307, sb_307, e0, g1, e1, z32, e2, n32_eq, c2]
        exact f1
theorem c7_act {g : fm_g} {d v p : Nat} {w : WD} {o : OPT} {Z : ZZ} {s : fm_S} (hF : FX s) (hB : TB s) (hE : HE s 310 w v) (hCW : CW s w) (hw : wOK w) (hv : v < 24) (hp : p < 6) (hP : PL s o) (ho : oOK o) (hS : SUP (v + 1) Z.1) (hU : UNS Z.1) (hD : sumN Z.1 NS ≤ ONE) (hZ : ZS s Z) : ∃ s', ev g (d + 4) mX7_act 0 [some (.ref (307 : Nat)), some (.int (Int32.ofNat p)), none, none, none] [] s = some (.inl none, s') ∧ RM pO qO rsw s s' ∧ ZS s' (zAct w o v p Z) := by
  obtain ⟨o1, o2, o3, o4, o5⟩ := ho
  obtain ⟨h1, h2, h3, h4, h5⟩ := id hP
  have hh := o5 p hp
  have sH : (shp (hcl (o.2.2.2.2 p))).1 = 5 := (hS_of (hcl_in hh)).1
  have r5 := hF.u 307 5 315 (by decide +kernel)
  have r6 := h5 p hp
  have hne : gR s 315 p ≠ 0 := by rw [r6]; exact hcl_pos
  have n6 : ¬ 6 ≤ p := by omega
  have hne' : gR s 315 (Int32.ofNat p).toNatClampNeg ≠ 0 := by rw [n32_cl (by omega)]; exact hne
  obtain ⟨s1, e1, hM1, hZ1⟩ := c7_actLoop (g := g) (d := d) (p := p) hF hB hE hCW hw hv hh hp h2 o2 hS hU hD (hbm (wH w (o.2.2.2.2 p))) 0 s (by omega) RM.rf hZ
  obtain ⟨z1, z2, z3⟩ := zSts_ok (p := p) (see := o.2.1) hw hh o2 hv hS hU _ (Nat.le_refl _)
  generalize hZn : zSts w v (o.2.2.2.2 p) p o.2.1 Z (hbm (wH w (o.2.2.2.2 p))) = Zn at *
  have hzA : zAct w o v p Z = zEnd o.2.2.1 v Zn := by unfold zAct; rw [hZn]
  rw [hzA]
  have hF1 := hM1.fxs hF
  have hB1 := hB.ofO hM1.2.1
  have hE1 := hE.of hM1.2.1
  -- what was seen is forgotten
  have stepF : ∃ s2, ev g (d + 4) mX7_act 75 [some (.ref (307 : Nat)), none, none, some (.int (bi (lkb (wH w (o.2.2.2.2 p)) (hbm (wH w (o.2.2.2.2 p))) = true))), none] [] s1 = ev g (d + 4) mX7_act 83 [some (.ref (307 : Nat)), none, none, none, none] [] s2 ∧ RM pO qO rsw s1 s2 ∧ OS s2 (mapD fFg Zn.1) ∧ CN s1 s2 := by
    cases c : lkb (wH w (o.2.2.2.2 p)) (hbm (wH w (o.2.2.2.2 p))) with
    | true =>
      obtain ⟨s2, f1, f2, f3, f4⟩ := c7_forget (g := g) (d := d) hF1 hB1 hZ1.1 (by rw [z3]; exact hD)
      refine ⟨s2, ?_, f2, f3, f4⟩
      rw [bi_t rfl]
      simp (disch := first | exact jm_lt0 | (apply jm_ltx; (repeat (first | exact jw_0 | apply jw_i | apply jw_r | apply jw_l)); omega) | omega | assumption | exact sa_307 | exact n32_inA sb_307 (by omega) (by omega) | (refine n32_inA (by assumption) ?_ ?_ <;> omega) | exact bi01 | (rw [sa_307]; omega) | decide) only [sX7_act_0, sX7_act_1, sX7_act_4, sX7_act_5, sX7_act_7, sX7_act_10, sX7_act_11, sX7_act_14, sX7_act_15, sX7_act_16, kX7_act_19_AINNN, sX7_act_19, sX7_act_20, sX7_act_21, sX7_act_24, sX7_act_25, sX7_act_26, sX7_act_27, sX7_act_28, sX7_act_29, sX7_act_30, sX7_act_34, sX7_act_35, sX7_act_38, sX7_act_41, sX7_act_42, sX7_act_43, sX7_act_45, sX7_act_46, sX7_act_49, sX7_act_50, sX7_act_53, sX7_act_54, sX7_act_56, sX7_act_59, sX7_act_60, kX7_act_63_AIAII, sX7_act_63, sX7_act_64, kX7_act_67_AIAII, sX7_act_67, sX7_act_68, sX7_act_69, sX7_act_72, kX7_act_75_AIAII, sX7_act_75, sX7_act_76, sX7_act_79, sX7_act_80, kX7_act_83_ANNIN, sX7_act_84, sX7_act_87, sX7_act_88, sX7_act_91, sX7_act_92, kX7_act_95_ANNNN, sX7_act_95, evK_n, evK_v, evK_x, gI_pI, gJ_pI, gR_pI, gI_pJ, gJ_pJ, gR_pJ, gI_pR, gJ_pR, gR_pR, n32_le, n32_lt, n32_add, n32_mul, n32_cl, if_true, if_false, not_true_eq_false, not_false_eq_true, and_true, true_and, and_false, false_and, and_self, or_true, true_or, or_false, false_or, or_self, ne_eq, Decidable.not_not, Nat.reduceEqDiff, Nat.reduceEqDiff, sa_307, sb_307, show ¬ (Int32.ofNat 1 = 0) by decide, f1]
    | false =>
      refine ⟨s1, ?_, RM.rf, by rw [mapD_fFg z1 (z2 c)]; exact hZ1.1, CN.rf⟩
      rw [bi_f (by decide)]
      simp (disch := first | exact jm_lt0 | (apply jm_ltx; (repeat (first | exact jw_0 | apply jw_i | apply jw_r | apply jw_l)); omega) | omega | assumption | exact sa_307 | exact n32_inA sb_307 (by omega) (by omega) | (refine n32_inA (by assumption) ?_ ?_ <;> omega) | exact bi01 | (rw [sa_307]; omega) | decide) only [sX7_act_0, sX7_act_1, sX7_act_4, sX7_act_5, sX7_act_7, sX7_act_10, sX7_act_11, sX7_act_14, sX7_act_15, sX7_act_16, kX7_act_19_AINNN, sX7_act_19, sX7_act_20, sX7_act_21, sX7_act_24, sX7_act_25, sX7_act_26, sX7_act_27, sX7_act_28, sX7_act_29, sX7_act_30, sX7_act_34, sX7_act_35, sX7_act_38, sX7_act_41, sX7_act_42, sX7_act_43, sX7_act_45, sX7_act_46, sX7_act_49, sX7_act_50, sX7_act_53, sX7_act_54, sX7_act_56, sX7_act_59, sX7_act_60, kX7_act_63_AIAII, sX7_act_63, sX7_act_64, kX7_act_67_AIAII, sX7_act_67, sX7_act_68, sX7_act_69, sX7_act_72, kX7_act_75_AIAII, sX7_act_75, sX7_act_76, sX7_act_79, sX7_act_80, kX7_act_83_ANNIN, sX7_act_84, sX7_act_87, sX7_act_88, sX7_act_91, sX7_act_92, kX7_act_95_ANNNN, sX7_act_95, evK_n, evK_v, evK_x, gI_pI, gJ_pI, gR_pI, gI_pJ, gJ_pJ, gR_pJ, gI_pR, gJ_pR, gR_pR, n32_le, n32_lt, n32_add, n32_mul, n32_cl, if_true, if_false, not_true_eq_false, not_false_eq_true, and_true, true_and, and_false, false_and, and_self, or_true, true_or, or_false, false_or, or_self, ne_eq, Decidable.not_not, Nat.reduceEqDiff, Nat.reduceEqDiff, sa_307, sb_307, z32]
  obtain ⟨s2, e2, hM2, hO2, hN2⟩ := stepF
  have hM12 := hM1.tr hM2
  have hF2 := hM12.fxs hF
  have h12 : gI s2 307 12 = (if o.2.2.1 = 0 then -1 else Int32.ofNat o.2.2.1) := by rw [hM12.2.1 _ _ (by unfold pO HSK; omega), h3]
  have hT2 : CT3 s2 Zn.2.1 Zn.2.2.1 Zn.2.2.2 := hZ1.2.cn hN2
  have pre : ev g (d + 4) mX7_act 0 [some (.ref (307 : Nat)), some (.int (Int32.ofNat p)), none, none, none] [] s = ev g (d + 4) mX7_act 83 [some (.ref (307 : Nat)), none, none, none, none] [] s2 := by
    have b0 : bi (lkb (wH w (o.2.2.2.2 p)) 0 = true) = Int32.ofNat 0 := bi_f (by simp [lkb])
    rw [b0] at e1
    rw [← e2, ← e1]
    simp (disch := first | exact jm_lt0 | (apply jm_ltx; (repeat (first | exact jw_0 | apply jw_i | apply jw_r | apply jw_l)); omega) | omega | assumption | exact sa_307 | exact sa_315 | exact n32_inA sb_307 (by omega) (by omega) | exact n32_inA sb_315 (by omega) (by omega) | (refine n32_inA (by assumption) ?_ ?_ <;> omega) | exact bi01 | (rw [sa_307]; omega) | (rw [sa_315]; omega) | decide) only [sX7_act_0, sX7_act_1, sX7_act_4, sX7_act_5, sX7_act_7, sX7_act_10, sX7_act_11, sX7_act_14, sX7_act_15, sX7_act_16, kX7_act_19_AINNN, sX7_act_19, sX7_act_20, sX7_act_21, sX7_act_24, sX7_act_25, sX7_act_26, sX7_act_27, sX7_act_28, sX7_act_29, sX7_act_30, sX7_act_34, sX7_act_35, sX7_act_38, sX7_act_41, sX7_act_42, sX7_act_43, sX7_act_45, sX7_act_46, sX7_act_49, sX7_act_50, sX7_act_53, sX7_act_54, sX7_act_56, sX7_act_59, sX7_act_60, kX7_act_63_AIAII, sX7_act_63, sX7_act_64, kX7_act_67_AIAII, sX7_act_67, sX7_act_68, sX7_act_69, sX7_act_72, kX7_act_75_AIAII, sX7_act_76, sX7_act_79, sX7_act_80, kX7_act_83_ANNIN, sX7_act_83, sX7_act_84, sX7_act_87, sX7_act_88, sX7_act_91, sX7_act_92, kX7_act_95_ANNNN, sX7_act_95, evK_n, evK_v, evK_x, gI_pI, gJ_pI, gR_pI, gI_pJ, gJ_pJ, gR_pJ, gI_pR, gJ_pR, gR_pR, n32_le, n32_lt, n32_add, n32_mul, n32_cl, if_true, if_false, not_true_eq_false, not_false_eq_true, and_true, true_and, and_false, false_and, and_self, or_true, true_or, or_false, false_or, or_self, ne_eq, Decidable.not_not, Nat.reduceEqDiff, Nat.reduceEqDiff, sa_307, sb_307, sa_315, sb_315, n32_lt0, n6, r5, hne, r6, hcl_pos]
  by_cases c0 : o.2.2.1 = 0
  · refine ⟨s2, ?_, hM12, ?_, ?_⟩
    · rw [pre]
      rw [if_pos c0] at h12
      simp (disch := first | exact jm_lt0 | (apply jm_ltx; (repeat (first | exact jw_0 | apply jw_i | apply jw_r | apply jw_l)); omega) | omega | assumption | exact sa_307 | exact n32_inA sb_307 (by omega) (by omega) | (refine n32_inA (by assumption) ?_ ?_ <;> omega) | exact bi01 | (rw [sa_307]; omega) | decide) only [sX7_act_0, sX7_act_1, sX7_act_4, sX7_act_5, sX7_act_7, sX7_act_10, sX7_act_11, sX7_act_14, sX7_act_15, sX7_act_16, kX7_act_19_AINNN, sX7_act_19, sX7_act_20, sX7_act_21, sX7_act_24, sX7_act_25, sX7_act_26, sX7_act_27, sX7_act_28, sX7_act_29, sX7_act_30, sX7_act_34, sX7_act_35, sX7_act_38, sX7_act_41, sX7_act_42, sX7_act_43, sX7_act_45, sX7_act_46, sX7_act_49, sX7_act_50, sX7_act_53, sX7_act_54, sX7_act_56, sX7_act_59, sX7_act_60, kX7_act_63_AIAII, sX7_act_63, sX7_act_64, kX7_act_67_AIAII, sX7_act_67, sX7_act_68, sX7_act_69, sX7_act_72, kX7_act_75_AIAII, sX7_act_75, sX7_act_76, sX7_act_79, sX7_act_80, kX7_act_83_ANNIN, sX7_act_83, sX7_act_84, sX7_act_87, sX7_act_88, sX7_act_91, sX7_act_92, kX7_act_95_ANNNN, sX7_act_95, evK_n, evK_v, evK_x, gI_pI, gJ_pI, gR_pI, gI_pJ, gJ_pJ, gR_pJ, gI_pR, gJ_pR, gR_pR, n32_le, n32_lt, n32_add, n32_mul, n32_cl, if_true, if_false, not_true_eq_false, not_false_eq_true, and_true, true_and, and_false, false_and, and_self, or_true, true_or, or_false, false_or, or_self, ne_eq, Decidable.not_not, Nat.reduceEqDiff, Nat.reduceEqDiff, sa_307, sb_307, h12]
    · have : (zEnd o.2.2.1 v Zn).1 = mapD fFg Zn.1 := by
        rw [c0]
        exact mapD_congr (fun k _ => fEnd_0)
      rw [this]
      exact hO2
    · have : sumN (fun k => (if 0 < o.2.2.1 ∧ o.2.2.1 ≤ kc k + kd k then kc k else 0) * Zn.1 k) NS = 0 := sumN_zero (fun k _ => by rw [if_neg (by omega), Nat.zero_mul])
      show CT3 s2 Zn.2.1 (Zn.2.2.1 + sumN (fun k => (if 0 < o.2.2.1 ∧ o.2.2.1 ≤ kc k + kd k then kc k else 0) * Zn.1 k) NS) Zn.2.2.2
      rw [this]
      exact hT2
  · rw [if_neg c0] at h12
    have hf1 : 1 ≤ o.2.2.1 := by omega
    obtain ⟨s3, f1, f2, f3, f4⟩ := c7_startFull (g := g) (d := d) (w := w) hF2 (hB1.ofO hM2.2.1) hO2 (by rw [mapD_total (fun k hk => (fFg_ok hk).1), z3]; exact hD) (hE1.of hM2.2.1) ⟨hf1, o3⟩ hv h12 hT2
    refine ⟨s3, ?_, hM12.tr f2, ?_, ?_⟩
    · rw [pre]
      simp (disch := first | exact jm_lt0 | (apply jm_ltx; (repeat (first | exact jw_0 | apply jw_i | apply jw_r | apply jw_l)); omega) | omega | assumption | exact sa_307 | exact n32_inA sb_307 (by omega) (by omega) | (refine n32_inA (by assumption) ?_ ?_ <;> omega) | exact bi01 | (rw [sa_307]; omega) | decide) only [sX7_act_0, sX7_act_1, sX7_act_4, sX7_act_5, sX7_act_7, sX7_act_10, sX7_act_11, sX7_act_14, sX7_act_15, sX7_act_16, kX7_act_19_AINNN, sX7_act_19, sX7_act_20, sX7_act_21, sX7_act_24, sX7_act_25, sX7_act_26, sX7_act_27, sX7_act_28, sX7_act_29, sX7_act_30, sX7_act_34, sX7_act_35, sX7_act_38, sX7_act_41, sX7_act_42, sX7_act_43, sX7_act_45, sX7_act_46, sX7_act_49, sX7_act_50, sX7_act_53, sX7_act_54, sX7_act_56, sX7_act_59, sX7_act_60, kX7_act_63_AIAII, sX7_act_63, sX7_act_64, kX7_act_67_AIAII, sX7_act_67, sX7_act_68, sX7_act_69, sX7_act_72, kX7_act_75_AIAII, sX7_act_75, sX7_act_76, sX7_act_79, sX7_act_80, kX7_act_83_ANNIN, sX7_act_83, sX7_act_84, sX7_act_87, sX7_act_88, sX7_act_91, sX7_act_92, kX7_act_95_ANNNN, sX7_act_95, evK_n, evK_v, evK_x, gI_pI, gJ_pI, gR_pI, gI_pJ, gJ_pJ, gR_pJ, gI_pR, gJ_pR, gR_pR, n32_le, n32_lt, n32_add, n32_mul, n32_cl, if_true, if_false, not_true_eq_false, not_false_eq_true, and_true, true_and, and_false, false_and, and_self, or_true, true_or, or_false, false_or, or_self, ne_eq, Decidable.not_not, Nat.reduceEqDiff, Nat.reduceEqDiff, sa_307, sb_307, h12, n32_neg, f1]
    · rw [end_2 hf1] at f3
      exact f3
    · rw [end_w (v := v) hf1] at f4
      exact f4
