/-! the class: a STEP; what was seen is forgotten; a starter starts -/
section EN
variable {s0 : fm_S} {A A' : Nat} {l : List Nat} {D : Nat → Nat}
theorem c7_doStep {g : fm_g} {d v h i p see : Nat} {w : WD} {dr : Nat → Nat} {wa lo : Nat} {s : fm_S} (hF : FX s) (hB : TB s) (hO : OS s D) (hD : sumN D NS ≤ ONE) (hE : HE s 310 w v) (hCW : CW s w) (hw : wOK w) (hv : v < 24) (hh : h < 7) (hi : i < hbm (wH w h)) (hp : p < 6) (h11 : gI s 307 11 = Int32.ofNat see) (hs : see ≤ 16) (hsup : ∀ k, k < NS → D k ≠ 0 → kst k ≤ v + 1) (hT : CT3 s dr wa lo) : ∃ s', ev g (d + 3) mX7_doStep 0 [some (.ref (307 : Nat)), some (.ref (hcl h)), some (.int (Int32.ofNat i)), some (.int (Int32.ofNat p)), none, none, none, none, none, none, none] [] s = some (.inl none, s') ∧ RM pO qO rsw s s' ∧ OS s' (pas (cStep (soB w v h i) (wT w 0) see (hbA (wH w h) i) (hbQ (wH w h) i) v) D) ∧ CT3 s' (addP dr p (sumN (gD (soB w v h i) (hbA (wH w h) i) (hbQ (wH w h) i) D) NS)) (wa + sumN (gW (soB w v h i) (hbA (wH w h) i) (hbQ (wH w h) i) D) NS) (lo + sumN (gL (soB w v h i) (hbA (wH w h) i) (hbQ (wH w h) i) D) NS) := by
  obtain ⟨A, A', l, o1, o2, o3⟩ := hO
  obtain ⟨a1, a2, a3⟩ := od_A o1
  have hhL := hcl_in hh
  have sH : (shp (hcl h)).1 = 5 := (hS_of hhL).1
  have hOK1 := hw.2.2.2.2.1 h hh
  obtain ⟨q1, q2, q3, q4⟩ := id hOK1
  obtain ⟨p1, p2, p3, p4, p5⟩ := q4 i hi
  have hC := hCW.2.2.2.1 h hh
  have e1 := c5_hasC (g := g) (d := d + 2) hF hhL hOK1 hC hi
  have e2 := c5_oddsOf (g := g) (d := d + 2) hF hhL hOK1 hC hi
  have hz16 : Int32.ofNat (if hbQ (wH w h) i = 0 then 16 else hbQ (wH w h) i) = if hbQ (wH w h) i = 0 then Int32.ofNat 16 else Int32.ofNat (hbQ (wH w h) i) := by split <;> rfl
  by_cases c : hbF (wH w h) i < hbZ (wH w h) i
  · rw [bi_t c] at e1
    obtain ⟨s1, e3, hM1, hz⟩ := c7_clearMemo (g := g) (d := d + 2) hF 104 0 s (by omega) FM.rf (fun j hj => by omega)
    have hW : WB s1 A A' l D := ⟨hM1.fx hF, o1.fm hM1, hB.of (fun j => ⟨hM1.2.1 _ _ (by omega), hM1.2.1 _ _ (by omega)⟩), o2.of (hM1.2.1 _ _ (by omega)) (fun j => hM1.2.1 _ _ (by omega)) (fun j => hM1.2.2 _ _ (fun h => h)), o3.of (hM1.2.1 _ _ (by omega)) (fun j => hM1.2.1 _ _ (by omega)) (fun j => hM1.2.2 _ _ (fun h => h)), hD⟩
    have hMO : ∀ b j, ¬ pO b j → gI s1 b j = gI s b j := fun b j hb => hM1.2.1 _ _ (fun q => hb (Or.inr (Or.inr (Or.inl q))))
    obtain ⟨s', f1, f2, f3, f4⟩ := c7_stepLoop (g := g) (d := d) (i := i) (h := h) (p := p) (asks := 1) (dr := dr) (wa := wa) (lo := lo) hW (hE.of hMO) (hCW.of hw (fun b j hb => hMO b j (fun q => hb (pO_TC q)))) hw hv hh hi hp (by rw [hM1.2.1 _ _ (by omega), h11]) hs hsup (Or.inr rfl) l.length 0 s1 (by omega) hW.ps (by
      simp only [List.take_zero, sumL, Nat.add_zero, addP_0]
      exact hT.cn (CN.h hM1)) (fun _ k hk => Or.inl (hz _ (mky_lt hk)))
    refine ⟨s', ?_, (hM1.rm.mono (fun b j q => Or.inr (Or.inr (Or.inl q))) (fun _ _ q => q.elim) (fun _ _ q => q)).tr f2, f3, f4⟩
    rw [hz16] at f1
    by_cases cq : hbQ (wH w h) i = 0
    · rw [if_pos cq] at f1
      simp (disch := first | exact jm_lt0 | (apply jm_ltx; (repeat (first | exact jw_0 | apply jw_i | apply jw_r | apply jw_l)); omega) | omega | assumption | exact sa_307 | exact n32_inA sb_307 (by omega) (by omega) | (refine n32_inA (by assumption) ?_ ?_ <;> omega) | exact bi01 | (rw [sa_307]; omega) | decide) only [sX7_doStep_0, sX7_doStep_1, sX7_doStep_2, sX7_doStep_5, sX7_doStep_7, sX7_doStep_8, sX7_doStep_9, sX7_doStep_12, sX7_doStep_15, sX7_doStep_17, sX7_doStep_20, sX7_doStep_21, sX7_doStep_22, sX7_doStep_25, sX7_doStep_27, sX7_doStep_29, sX7_doStep_32, sX7_doStep_33, sX7_doStep_36, sX7_doStep_37, sX7_doStep_41, sX7_doStep_42, sX7_doStep_45, sX7_doStep_48, sX7_doStep_51, sX7_doStep_52, sX7_doStep_54, sX7_doStep_57, sX7_doStep_59, sX7_doStep_61, sX7_doStep_64, sX7_doStep_65, sX7_doStep_66, sX7_doStep_67, sX7_doStep_70, sX7_doStep_73, sX7_doStep_75, sX7_doStep_77, sX7_doStep_78, sX7_doStep_79, sX7_doStep_82, sX7_doStep_83, sX7_doStep_86, sX7_doStep_87, sX7_doStep_89, sX7_doStep_90, sX7_doStep_93, sX7_doStep_94, sX7_doStep_97, sX7_doStep_99, sX7_doStep_102, sX7_doStep_104, sX7_doStep_106, sX7_doStep_107, sX7_doStep_110, sX7_doStep_112, sX7_doStep_113, sX7_doStep_114, sX7_doStep_117, sX7_doStep_118, sX7_doStep_119, sX7_doStep_120, sX7_doStep_123, sX7_doStep_124, sX7_doStep_126, kX7_doStep_129_AAIIIIIJNJN, sX7_doStep_129, sX7_doStep_132, kX7_doStep_135_AAIIIIINNNN, sX7_doStep_135, sX7_doStep_136, sX7_doStep_139, sX7_clearMemo_0, sX7_clearMemo_1, sX7_clearMemo_3, sX7_clearMemo_5, sX7_clearMemo_8, sX7_clearMemo_9, sX7_clearMemo_12, sX7_clearMemo_13, sX7_clearMemo_14, sX7_clearMemo_15, sX7_clearMemo_18, kX7_clearMemo_21_AI, sX7_clearMemo_21, evK_n, evK_v, evK_x, gI_pI, gJ_pI, gR_pI, gI_pJ, gJ_pJ, gR_pJ, gI_pR, gJ_pR, gR_pR, n32_le, n32_lt, n32_add, n32_mul, n32_cl, if_true, if_false, not_true_eq_false, not_false_eq_true, and_true, true_and, and_false, false_and, and_self, or_true, true_or, or_false, false_or, or_self, ne_eq, Decidable.not_not, Nat.reduceEqDiff, Nat.reduceEqDiff, sa_307, sb_307, e1, e2, cq, z32, e3, show ¬ (Int32.ofNat 1 = 0) by decide, f1, ne_eq]
    · rw [if_neg cq] at f1
      have cq' : ¬ Int32.ofNat (hbQ (wH w h) i) = 0 := by rw [n32_eq0 (by omega)]; exact cq
      simp (disch := first | exact jm_lt0 | (apply jm_ltx; (repeat (first | exact jw_0 | apply jw_i | apply jw_r | apply jw_l)); omega) | omega | assumption | exact sa_307 | exact n32_inA sb_307 (by omega) (by omega) | (refine n32_inA (by assumption) ?_ ?_ <;> omega) | exact bi01 | (rw [sa_307]; omega) | decide) only [sX7_doStep_0, sX7_doStep_1, sX7_doStep_2, sX7_doStep_5, sX7_doStep_7, sX7_doStep_8, sX7_doStep_9, sX7_doStep_12, sX7_doStep_15, sX7_doStep_17, sX7_doStep_20, sX7_doStep_21, sX7_doStep_22, sX7_doStep_25, sX7_doStep_27, sX7_doStep_29, sX7_doStep_32, sX7_doStep_33, sX7_doStep_36, sX7_doStep_37, sX7_doStep_41, sX7_doStep_42, sX7_doStep_45, sX7_doStep_48, sX7_doStep_51, sX7_doStep_52, sX7_doStep_54, sX7_doStep_57, sX7_doStep_59, sX7_doStep_61, sX7_doStep_64, sX7_doStep_65, sX7_doStep_66, sX7_doStep_67, sX7_doStep_70, sX7_doStep_73, sX7_doStep_75, sX7_doStep_77, sX7_doStep_78, sX7_doStep_79, sX7_doStep_82, sX7_doStep_83, sX7_doStep_86, sX7_doStep_87, sX7_doStep_89, sX7_doStep_90, sX7_doStep_93, sX7_doStep_94, sX7_doStep_97, sX7_doStep_99, sX7_doStep_102, sX7_doStep_104, sX7_doStep_106, sX7_doStep_107, sX7_doStep_110, sX7_doStep_112, sX7_doStep_113, sX7_doStep_114, sX7_doStep_117, sX7_doStep_118, sX7_doStep_119, sX7_doStep_120, sX7_doStep_123, sX7_doStep_124, sX7_doStep_126, kX7_doStep_129_AAIIIIIJNJN, sX7_doStep_129, sX7_doStep_132, kX7_doStep_135_AAIIIIINNNN, sX7_doStep_135, sX7_doStep_136, sX7_doStep_139, sX7_clearMemo_0, sX7_clearMemo_1, sX7_clearMemo_3, sX7_clearMemo_5, sX7_clearMemo_8, sX7_clearMemo_9, sX7_clearMemo_12, sX7_clearMemo_13, sX7_clearMemo_14, sX7_clearMemo_15, sX7_clearMemo_18, kX7_clearMemo_21_AI, sX7_clearMemo_21, evK_n, evK_v, evK_x, gI_pI, gJ_pI, gR_pI, gI_pJ, gJ_pJ, gR_pJ, gI_pR, gJ_pR, gR_pR, n32_le, n32_lt, n32_add, n32_mul, n32_cl, if_true, if_false, not_true_eq_false, not_false_eq_true, and_true, true_and, and_false, false_and, and_self, or_true, true_or, or_false, false_or, or_self, ne_eq, Decidable.not_not, Nat.reduceEqDiff, Nat.reduceEqDiff, sa_307, sb_307, e1, e2, cq', z32, e3, show ¬ (Int32.ofNat 1 = 0) by decide, f1, ne_eq]
  · rw [bi_f c] at e1
    have hW : WB s A A' l D := ⟨hF, o1, hB, o2, o3, hD⟩
    obtain ⟨s', f1, f2, f3, f4⟩ := c7_stepLoop (g := g) (d := d) (i := i) (h := h) (p := p) (asks := 0) (dr := dr) (wa := wa) (lo := lo) hW hE hCW hw hv hh hi hp h11 hs hsup (Or.inl ⟨rfl, by omega⟩) l.length 0 s (by omega) hW.ps (by
      simp only [List.take_zero, sumL, Nat.add_zero, addP_0]
      exact hT) (fun h => absurd h (by decide))
    refine ⟨s', ?_, f2, f3, f4⟩
    rw [hz16] at f1
    by_cases cq : hbQ (wH w h) i = 0
    · rw [if_pos cq] at f1
      simp (disch := first | exact jm_lt0 | (apply jm_ltx; (repeat (first | exact jw_0 | apply jw_i | apply jw_r | apply jw_l)); omega) | omega | assumption | exact sa_307 | exact n32_inA sb_307 (by omega) (by omega) | (refine n32_inA (by assumption) ?_ ?_ <;> omega) | exact bi01 | (rw [sa_307]; omega) | decide) only [sX7_doStep_0, sX7_doStep_1, sX7_doStep_2, sX7_doStep_5, sX7_doStep_7, sX7_doStep_8, sX7_doStep_9, sX7_doStep_12, sX7_doStep_15, sX7_doStep_17, sX7_doStep_20, sX7_doStep_21, sX7_doStep_22, sX7_doStep_25, sX7_doStep_27, sX7_doStep_29, sX7_doStep_32, sX7_doStep_33, sX7_doStep_36, sX7_doStep_37, sX7_doStep_41, sX7_doStep_42, sX7_doStep_45, sX7_doStep_48, sX7_doStep_51, sX7_doStep_52, sX7_doStep_54, sX7_doStep_57, sX7_doStep_59, sX7_doStep_61, sX7_doStep_64, sX7_doStep_65, sX7_doStep_66, sX7_doStep_67, sX7_doStep_70, sX7_doStep_73, sX7_doStep_75, sX7_doStep_77, sX7_doStep_78, sX7_doStep_79, sX7_doStep_82, sX7_doStep_83, sX7_doStep_86, sX7_doStep_87, sX7_doStep_89, sX7_doStep_90, sX7_doStep_93, sX7_doStep_94, sX7_doStep_97, sX7_doStep_99, sX7_doStep_102, sX7_doStep_104, sX7_doStep_106, sX7_doStep_107, sX7_doStep_110, sX7_doStep_112, sX7_doStep_113, sX7_doStep_114, sX7_doStep_117, sX7_doStep_118, sX7_doStep_119, sX7_doStep_120, sX7_doStep_123, sX7_doStep_124, sX7_doStep_126, kX7_doStep_129_AAIIIIIJNJN, sX7_doStep_129, sX7_doStep_132, kX7_doStep_135_AAIIIIINNNN, sX7_doStep_135, sX7_doStep_136, sX7_doStep_139, evK_n, evK_v, evK_x, gI_pI, gJ_pI, gR_pI, gI_pJ, gJ_pJ, gR_pJ, gI_pR, gJ_pR, gR_pR, n32_le, n32_lt, n32_add, n32_mul, n32_cl, if_true, if_false, not_true_eq_false, not_false_eq_true, and_true, true_and, and_false, false_and, and_self, or_true, true_or, or_false, false_or, or_self, ne_eq, Decidable.not_not, Nat.reduceEqDiff, Nat.reduceEqDiff, sa_307, sb_307, e1, e2, cq, z32, f1, ne_eq]
    · rw [if_neg cq] at f1
      have cq' : ¬ Int32.ofNat (hbQ (wH w h) i) = 0 := by rw [n32_eq0 (by omega)]; exact cq
      simp (disch := first | exact jm_lt0 | (apply jm_ltx; (repeat (first | exact jw_0 | apply jw_i | apply jw_r | apply jw_l)); omega) | omega | assumption | exact sa_307 | exact n32_inA sb_307 (by omega) (by omega) | (refine n32_inA (by assumption) ?_ ?_ <;> omega) | exact bi01 | (rw [sa_307]; omega) | decide) only [sX7_doStep_0, sX7_doStep_1, sX7_doStep_2, sX7_doStep_5, sX7_doStep_7, sX7_doStep_8, sX7_doStep_9, sX7_doStep_12, sX7_doStep_15, sX7_doStep_17, sX7_doStep_20, sX7_doStep_21, sX7_doStep_22, sX7_doStep_25, sX7_doStep_27, sX7_doStep_29, sX7_doStep_32, sX7_doStep_33, sX7_doStep_36, sX7_doStep_37, sX7_doStep_41, sX7_doStep_42, sX7_doStep_45, sX7_doStep_48, sX7_doStep_51, sX7_doStep_52, sX7_doStep_54, sX7_doStep_57, sX7_doStep_59, sX7_doStep_61, sX7_doStep_64, sX7_doStep_65, sX7_doStep_66, sX7_doStep_67, sX7_doStep_70, sX7_doStep_73, sX7_doStep_75, sX7_doStep_77, sX7_doStep_78, sX7_doStep_79, sX7_doStep_82, sX7_doStep_83, sX7_doStep_86, sX7_doStep_87, sX7_doStep_89, sX7_doStep_90, sX7_doStep_93, sX7_doStep_94, sX7_doStep_97, sX7_doStep_99, sX7_doStep_102, sX7_doStep_104, sX7_doStep_106, sX7_doStep_107, sX7_doStep_110, sX7_doStep_112, sX7_doStep_113, sX7_doStep_114, sX7_doStep_117, sX7_doStep_118, sX7_doStep_119, sX7_doStep_120, sX7_doStep_123, sX7_doStep_124, sX7_doStep_126, kX7_doStep_129_AAIIIIIJNJN, sX7_doStep_129, sX7_doStep_132, kX7_doStep_135_AAIIIIINNNN, sX7_doStep_135, sX7_doStep_136, sX7_doStep_139, evK_n, evK_v, evK_x, gI_pI, gJ_pI, gR_pI, gI_pJ, gJ_pJ, gR_pJ, gI_pR, gJ_pR, gR_pR, n32_le, n32_lt, n32_add, n32_mul, n32_cl, if_true, if_false, not_true_eq_false, not_false_eq_true, and_true, true_and, and_false, false_and, and_self, or_true, true_or, or_false, false_or, or_self, ne_eq, Decidable.not_not, Nat.reduceEqDiff, Nat.reduceEqDiff, sa_307, sb_307, e1, e2, cq', z32, f1, ne_eq]
def fFg (k : Nat) : Nat := nm (kc k) (kd k) (kcard k) 0 (kst k)
def fSt (f v k : Nat) : Nat := if f ≤ kc k + kd k then nm (kc k + kd k) 0 (kcard k) (kseen k) (v + 1) else k
theorem amt_1 {k p : Nat} : amt [(k, p)] = p := by simp [amt, sumL]
theorem c7_fgLoop {g : fm_g} {d : Nat} (hW : WB s0 A A' l D) : ∀ (m i : Nat) (s : fm_S), i + m = l.length → PS s0 s A A' l D (prt (fun k p => [(fFg k, p)]) D l i) → CN s0 s → ∃ s', ev g (d + 3) mX7_forgetSeen 2 [some (.ref (307 : Nat)), some (.int (Int32.ofNat i)), none, none] [] s = some (.inl none, s') ∧ RM pO qO rsw s0 s' ∧ OS s' (mapD fFg D) ∧ CN s0 s' := by
  obtain ⟨hF, hO, hB, hC, hC', hS⟩ := id hW
  obtain ⟨a1, a2, a3⟩ := od_A hO
  have sA : (shp A).1 = 1 := (clS hO.2.2.1).1
  have sA' : (shp A').1 = 1 := (clS hO.2.2.2.1).1
  have hB2 : BIG = 4611686018427387904 := rfl
  have hO2 : ONE = 1099511627776 := rfl
  have hlen := hC.len
  have hamt : ∀ k, k < NS → amt [(fFg k, D k)] ≤ D k := fun k hk => Nat.le_of_eq amt_1
  intro m
  induction m with
  | zero =>
    intro i s hi hP hN
    have hil : i = l.length := by omega
    subst hil
    obtain ⟨x1, x2, x3, x4, x5⟩ := hP.refs hF hO
    obtain ⟨s', f1, f2, f3, f4, f5⟩ := hP.goOn (g := g) (d := d + 1) hF hO
    refine ⟨s', ?_, f2, by unfold mapD; rw [← hW.fin (fun k _ => amt_1)]; exact f3, hN.tr ⟨f4, f5⟩⟩
    rw [sX7_forgetSeen_2]
    simp (disch := first | exact jm_lt0 | (apply jm_ltx; (repeat (first | exact jw_0 | apply jw_i | apply jw_r | apply jw_l)); omega) | omega | assumption | exact sa_307 | exact n32_inA sb_307 (by omega) (by omega) | (refine n32_inA (by assumption) ?_ ?_ <;> omega) | exact bi01 | (rw [sa_307]; omega) | decide) only [sX7_forgetSeen_0, sX7_forgetSeen_1, kX7_forgetSeen_2_AIJN, sX7_forgetSeen_3, sX7_forgetSeen_4, sX7_forgetSeen_7, sX7_forgetSeen_10, sX7_forgetSeen_13, sX7_forgetSeen_14, sX7_forgetSeen_15, sX7_forgetSeen_18, sX7_forgetSeen_19, sX7_forgetSeen_20, sX7_forgetSeen_23, sX7_forgetSeen_24, sX7_forgetSeen_27, sX7_forgetSeen_28, sX7_forgetSeen_31, sX7_forgetSeen_32, sX7_forgetSeen_35, sX7_forgetSeen_38, sX7_forgetSeen_39, sX7_forgetSeen_42, sX7_forgetSeen_45, kX7_forgetSeen_48_AINN, sX7_forgetSeen_48, sX7_forgetSeen_49, sX7_forgetSeen_52, evK_n, evK_v, evK_x, gI_pI, gJ_pI, gR_pI, gI_pJ, gJ_pJ, gR_pJ, gI_pR, gJ_pR, gR_pR, n32_le, n32_lt, n32_add, n32_mul, n32_cl, if_true, if_false, not_true_eq_false, not_false_eq_true, and_true, true_and, and_false, false_and, and_self, or_true, true_or, or_false, false_or, or_self, ne_eq, Decidable.not_not, Nat.reduceEqDiff, Nat.reduceEqDiff, sa_307, sb_307, x2, x5]
    rw [if_pos (by omega), f1, evK_n, sX7_forgetSeen_52]
  | succ m ih =>
    intro i s hi hP hN
    have hil : i < l.length := by omega
    have hik : l[i]? = some l[i] := List.getElem?_eq_getElem hil
    generalize l[i] = k at hik
    obtain ⟨hk, hDk⟩ := hW.it hik
    obtain ⟨x1, x2, x3, x4, x5⟩ := hP.refs hF hO
    have hpl := hW.pr (con := fun k p => [(fFg k, p)]) hamt i
    obtain ⟨kl1, kl2, kl3⟩ := k_lt hk
    have hkcd := k_cd k
    obtain ⟨s1, e1, hP1, hN1, hM1⟩ := hP.load (g := g) (d := d) hF hO hB hik
    have hP2 := hP1.hand hO (j := 3) (v := Int32.ofNat 0) (by decide)
    obtain ⟨z1, z2, z3, z4, z5⟩ := hP2.refs hF hO
    obtain ⟨y1, y2, y3, y4, y5⟩ := hP1.refs hF hO
    have h5 : HN5 (pI s1 310 3 (Int32.ofNat 0)) 310 (kc k) (kd k) (kcard k) 0 (kst k) := ⟨by simp [gI_pI, hN1.1], by simp [gI_pI, hN1.2.1], by simp [gI_pI, hN1.2.2.1], by simp [gI_pI], by simp [gI_pI, hN1.2.2.2.2]⟩
    have e4 := c1_numberOf (g := g) (d := d + 2) (by decide) h5 hkcd
    obtain ⟨s4, e5, hP4, hM4⟩ := hP2.add (g := g) (d := d + 2) (k := fFg k) (m := D k) hF hO (nm_lt hkcd kl1 (by omega) kl3) (by have := hpl (fFg k); omega)
    rw [upd_1] at hP4
    have hnext : addF (prt (fun k p => [(fFg k, p)]) D l i) [(fFg k, D k)] = prt (fun k p => [(fFg k, p)]) D l (i + 1) := (prt_succ hik).symm
    rw [hnext] at hP4
    obtain ⟨s', f1, f2, f3, f4⟩ := ih (i + 1) s4 (by omega) hP4 (((hN.tr (CN.h hM1)).tr CN.pI).tr (CN.cl hM4 a2))
    refine ⟨s', ?_, f2, f3, f4⟩
    have g1 : ¬ l.length ≤ i := by omega
    have e4' : ev g (d + 2) mX1_numberOf 0 [some (.ref (310 : Nat)), none, none] [] (pI s1 310 3 (Int32.ofNat 0)) = some (.inl (some (.int (Int32.ofNat (fFg k)))), pI s1 310 3 (Int32.ofNat 0)) := e4
    rw [sX7_forgetSeen_2]
    simp (disch := first | exact jm_lt0 | (apply jm_ltx; (repeat (first | exact jw_0 | apply jw_i | apply jw_r | apply jw_l)); omega) | omega | assumption | exact sa_307 | exact sa_310 | exact n32_inA sb_307 (by omega) (by omega) | exact n32_inA sb_310 (by omega) (by omega) | (refine n32_inA (by assumption) ?_ ?_ <;> omega) | exact bi01 | (rw [sa_307]; omega) | (rw [sa_310]; omega) | decide) only [sX7_forgetSeen_0, sX7_forgetSeen_1, kX7_forgetSeen_2_AIJN, sX7_forgetSeen_3, sX7_forgetSeen_4, sX7_forgetSeen_7, sX7_forgetSeen_10, sX7_forgetSeen_13, sX7_forgetSeen_14, sX7_forgetSeen_15, sX7_forgetSeen_18, sX7_forgetSeen_19, sX7_forgetSeen_20, sX7_forgetSeen_23, sX7_forgetSeen_24, sX7_forgetSeen_27, sX7_forgetSeen_28, sX7_forgetSeen_31, sX7_forgetSeen_32, sX7_forgetSeen_35, sX7_forgetSeen_38, sX7_forgetSeen_39, sX7_forgetSeen_42, sX7_forgetSeen_45, kX7_forgetSeen_48_AINN, sX7_forgetSeen_48, sX7_forgetSeen_49, sX7_forgetSeen_52, evK_n, evK_v, evK_x, gI_pI, gJ_pI, gR_pI, gI_pJ, gJ_pJ, gR_pJ, gI_pR, gJ_pR, gR_pR, n32_le, n32_lt, n32_add, n32_mul, n32_cl, if_true, if_false, not_true_eq_false, not_false_eq_true, and_true, true_and, and_false, false_and, and_self, or_true, true_or, or_false, false_or, or_self, ne_eq, Decidable.not_not, Nat.reduceEqDiff, Nat.reduceEqDiff, sa_307, sb_307, sa_310, sb_310, x2, x5, g1, e1, y4, z3, z4, e4', e5, f1]
theorem c7_forget {g : fm_g} {d : Nat} {s : fm_S} (hF : FX s) (hB : TB s) (hO : OS s D) (hD : sumN D NS ≤ ONE) : ∃ s', ev g (d + 3) mX7_forgetSeen 0 [some (.ref (307 : Nat)), none, none, none] [] s = some (.inl none, s') ∧ RM pO qO rsw s s' ∧ OS s' (mapD fFg D) ∧ CN s s' := by
  obtain ⟨A, A', l, o1, o2, o3⟩ := hO
  have hW : WB s A A' l D := ⟨hF, o1, hB, o2, o3, hD⟩
  obtain ⟨s', f1, f2⟩ := c7_fgLoop (g := g) (d := d) hW l.length 0 s (by omega) hW.ps CN.rf
  refine ⟨s', ?_, f2⟩
  rw [sX7_forgetSeen_0, sX7_forgetSeen_1]
  exact f1
theorem c7_stLoop {g : fm_g} {d f v : Nat} {w : WD} {dr : Nat → Nat} {wa lo : Nat} (hW : WB s0 A A' l D) (hE : HE s0 310 w v) (hf : 1 ≤ f ∧ f ≤ 12) (hv : v < 24) (h12 : gI s0 307 12 = Int32.ofNat f) : ∀ (m i : Nat) (s : fm_S), i + m = l.length → PS s0 s A A' l D (prt (fun k p => [(fSt f v k, p)]) D l i) → CT3 s dr (wa + sumL (fun k => (if f ≤ kc k + kd k then kc k else 0) * D k) (l.take i)) lo → ∃ s', ev g (d + 3) mX7_startFull 2 [some (.ref (307 : Nat)), some (.int (Int32.ofNat i)), none, none] [] s = some (.inl none, s') ∧ RM pO qO rsw s0 s' ∧ OS s' (mapD (fSt f v) D) ∧ CT3 s' dr (wa + sumN (fun k => (if f ≤ kc k + kd k then kc k else 0) * D k) NS) lo := by
  obtain ⟨hF, hO, hB, hC, hC', hS⟩ := id hW
  obtain ⟨a1, a2, a3⟩ := od_A hO
  have sA : (shp A).1 = 1 := (clS hO.2.2.1).1
  have sA' : (shp A').1 = 1 := (clS hO.2.2.2.1).1
  have hB2 : BIG = 4611686018427387904 := rfl
  have hO2 : ONE = 1099511627776 := rfl
  have hlen := hC.len
  have hamt : ∀ k, k < NS → amt [(fSt f v k, D k)] ≤ D k := fun k hk => Nat.le_of_eq amt_1
  intro m
  induction m with
  | zero =>
    intro i s hi hP hT
    have hil : i = l.length := by omega
    subst hil
    obtain ⟨x1, x2, x3, x4, x5⟩ := hP.refs hF hO
    obtain ⟨s', f1, f2, f3, f4, f5⟩ := hP.goOn (g := g) (d := d + 1) hF hO
    refine ⟨s', ?_, f2, by unfold mapD; rw [← hW.fin (fun k _ => amt_1)]; exact f3, ?_⟩
    · rw [sX7_startFull_2]
      simp (disch := first | exact jm_lt0 | (apply jm_ltx; (repeat (first | exact jw_0 | apply jw_i | apply jw_r | apply jw_l)); omega) | omega | assumption | exact sa_307 | exact n32_inA sb_307 (by omega) (by omega) | (refine n32_inA (by assumption) ?_ ?_ <;> omega) | exact bi01 | (rw [sa_307]; omega) | decide) only [sX7_startFull_0, sX7_startFull_1, kX7_startFull_2_AIJN, sX7_startFull_3, sX7_startFull_4, sX7_startFull_7, sX7_startFull_10, sX7_startFull_13, sX7_startFull_14, sX7_startFull_15, sX7_startFull_18, sX7_startFull_19, sX7_startFull_20, sX7_startFull_23, sX7_startFull_26, sX7_startFull_27, sX7_startFull_30, sX7_startFull_33, sX7_startFull_34, sX7_startFull_35, sX7_startFull_38, sX7_startFull_41, sX7_startFull_42, sX7_startFull_43, sX7_startFull_46, sX7_startFull_47, sX7_startFull_50, sX7_startFull_51, sX7_startFull_54, sX7_startFull_57, sX7_startFull_58, sX7_startFull_61, sX7_startFull_64, kX7_startFull_67_AINN, sX7_startFull_67, sX7_startFull_68, sX7_startFull_71, evK_n, evK_v, evK_x, gI_pI, gJ_pI, gR_pI, gI_pJ, gJ_pJ, gR_pJ, gI_pR, gJ_pR, gR_pR, n32_le, n32_lt, n32_add, n32_mul, n32_cl, if_true, if_false, not_true_eq_false, not_false_eq_true, and_true, true_and, and_false, false_and, and_self, or_true, true_or, or_false, false_or, or_self, ne_eq, Decidable.not_not, Nat.reduceEqDiff, Nat.reduceEqDiff, sa_307, sb_307, x2, x5]
      rw [if_pos (by omega), f1, evK_n, sX7_startFull_71]
    · rw [List.take_length, sum_all hW (fun k hk => by rw [hk, Nat.mul_zero])] at hT
      exact hT.cn ⟨f4, f5⟩
  | succ m ih =>
    intro i s hi hP hT
    have hil : i < l.length := by omega
    have hik : l[i]? = some l[i] := List.getElem?_eq_getElem hil
    generalize l[i] = k at hik
    obtain ⟨hk, hDk⟩ := hW.it hik
    obtain ⟨x1, x2, x3, x4, x5⟩ := hP.refs hF hO
    have hpl := hW.pr (con := fun k p => [(fSt f v k, p)]) hamt i
    obtain ⟨kl1, kl2, kl3⟩ := k_lt hk
    have hkcd := k_cd k
    obtain ⟨s1, e1, hP1, hN1, hM1⟩ := hP.load (g := g) (d := d) hF hO hB hik
    have hT1 := hT.cn (CN.h hM1)
    obtain ⟨y1, y2, y3, y4, y5⟩ := hP1.refs hF hO
    have y6 : gI s1 307 12 = Int32.ofNat f := by rw [hP1.1.2.1 _ _ (by unfold pO HSK; omega), h12]
    have hE1 : HE s1 310 w v := hE.of hP1.1.2.1
    have h5 : HN5 s1 310 (kc k) (kd k) (kcard k) (kseen k) (kst k) := hN1
    have ks := c7_start (g := g) (d := d + 2) (p := D k) y1 h5 hE1 hkcd
    have hnext : addF (prt (fun k p => [(fSt f v k, p)]) D l i) [(fSt f v k, D k)] = prt (fun k p => [(fSt f v k, p)]) D l (i + 1) := (prt_succ hik).symm
    have g1 : ¬ l.length ≤ i := by omega
    by_cases c : f ≤ kc k + kd k
    · rw [if_pos (by omega)] at ks
      have hfs : fSt f v k = nm (kc k + kd k) 0 (kcard k) (kseen k) (v + 1) := by unfold fSt; rw [if_pos c]
      have q3 : gJ s1 307 6 + Int64.ofNat (D k * kc k) = Int64.ofNat ((wa + sumL (fun k => (if f ≤ kc k + kd k then kc k else 0) * D k) (l.take i)) + D k * kc k) := by rw [hT1.2.1, n64_add]
      rw [q3] at ks
      have hP2 := (((hP1.long hO (a := 307) (j := 6) (v := Int64.ofNat ((wa + sumL (fun k => (if f ≤ kc k + kd k then kc k else 0) * D k) (l.take i)) + D k * kc k)) (Or.inr ⟨rfl, Or.inl rfl⟩)).hand hO (j := 0) (v := Int32.ofNat (kc k + kd k)) (by decide)).hand hO (j := 1) (v := Int32.ofNat 0) (by decide)).hand hO (j := 4) (v := Int32.ofNat v) (by decide)
      have hT2 : CT3 (pI (pI (pI (pJ s1 307 6 (Int64.ofNat ((wa + sumL (fun k => (if f ≤ kc k + kd k then kc k else 0) * D k) (l.take i)) + D k * kc k))) 310 0 (Int32.ofNat (kc k + kd k))) 310 1 (Int32.ofNat 0)) 310 4 (Int32.ofNat v)) dr (wa + sumL (fun k => (if f ≤ kc k + kd k then kc k else 0) * D k) (l.take (i + 1))) lo := by
        rw [sumL_tk hik, if_pos c, Nat.mul_comm (kc k) (D k), ← Nat.add_assoc]
        refine CT3.cn (s := pJ s1 307 6 (Int64.ofNat ((wa + sumL (fun k => (if f ≤ kc k + kd k then kc k else 0) * D k) (l.take i)) + D k * kc k))) ⟨fun p hp => by rw [gJ_pJ, if_neg (by omega), hT1.1 p hp], by rw [gJ_pJ, if_pos ⟨rfl, rfl⟩], by rw [gJ_pJ, if_neg (by omega), hT1.2.2]⟩ ((CN.pI.tr CN.pI).tr CN.pI)
      have h6 : HN5 (pI (pI (pI (pJ s1 307 6 (Int64.ofNat ((wa + sumL (fun k => (if f ≤ kc k + kd k then kc k else 0) * D k) (l.take i)) + D k * kc k))) 310 0 (Int32.ofNat (kc k + kd k))) 310 1 (Int32.ofNat 0)) 310 4 (Int32.ofNat v)) 310 (kc k + kd k) 0 (kcard k) (kseen k) (v + 1) := ⟨by simp [gI_pI], by simp [gI_pI], by simp [gI_pI, gI_pJ, h5.2.2.1], by simp [gI_pI, gI_pJ, h5.2.2.2.1], by simp [gI_pI, stI_s]⟩
      have e4 := c1_numberOf (g := g) (d := d + 2) (by decide) h6 (by omega)
      obtain ⟨z1, z2, z3, z4, z5⟩ := hP2.refs hF hO
      obtain ⟨s4, e5, hP4, hM4⟩ := hP2.add (g := g) (d := d + 2) (k := nm (kc k + kd k) 0 (kcard k) (kseen k) (v + 1)) (m := D k) hF hO (nm_lt (by omega) kl1 kl2 (by omega)) (by have := hpl (nm (kc k + kd k) 0 (kcard k) (kseen k) (v + 1)); omega)
      rw [upd_1, ← hfs, hnext] at hP4
      obtain ⟨s', f1, f2, f3, f4⟩ := ih (i + 1) s4 (by omega) hP4 (hT2.cn (CN.cl hM4 a2))
      refine ⟨s', ?_, f2, f3, f4⟩
      have c' : ¬ kc k + kd k < f := by omega
      rw [sX7_startFull_2]
      simp (disch := first | exact jm_lt0 | (apply jm_ltx; (repeat (first | exact jw_0 | apply jw_i | apply jw_r | apply jw_l)); omega) | omega | assumption | exact sa_307 | exact sa_310 | exact n32_inA sb_307 (by omega) (by omega) | exact n32_inA sb_310 (by omega) (by omega) | (refine n32_inA (by assumption) ?_ ?_ <;> omega) | exact bi01 | (rw [sa_307]; omega) | (rw [sa_310]; omega) | decide) only [sX7_startFull_0, sX7_startFull_1, kX7_startFull_2_AIJN, sX7_startFull_3, sX7_startFull_4, sX7_startFull_7, sX7_startFull_10, sX7_startFull_13, sX7_startFull_14, sX7_startFull_15, sX7_startFull_18, sX7_startFull_19, sX7_startFull_20, sX7_startFull_23, sX7_startFull_26, sX7_startFull_27, sX7_startFull_30, sX7_startFull_33, sX7_startFull_34, sX7_startFull_35, sX7_startFull_38, sX7_startFull_41, sX7_startFull_42, sX7_startFull_43, sX7_startFull_46, sX7_startFull_47, sX7_startFull_50, sX7_startFull_51, sX7_startFull_54, sX7_startFull_57, sX7_startFull_58, sX7_startFull_61, sX7_startFull_64, kX7_startFull_67_AINN, sX7_startFull_67, sX7_startFull_68, sX7_startFull_71, evK_n, evK_v, evK_x, gI_pI, gJ_pI, gR_pI, gI_pJ, gJ_pJ, gR_pJ, gI_pR, gJ_pR, gR_pR, n32_le, n32_lt, n32_add, n32_mul, n32_cl, if_true, if_false, not_true_eq_false, not_false_eq_true, and_true, true_and, and_false, false_and, and_self, or_true, true_or, or_false, false_or, or_self, ne_eq, Decidable.not_not, Nat.reduceEqDiff, Nat.reduceEqDiff, sa_307, sb_307, sa_310, sb_310, x2, x5, g1, e1, y4, y6, h5.1, h5.2.1, c', ks]
      simp (disch := first | exact jm_lt0 | (apply jm_ltx; (repeat (first | exact jw_0 | apply jw_i | apply jw_r | apply jw_l)); omega) | omega | assumption | exact sa_307 | exact sa_310 | exact n32_inA sb_307 (by omega) (by omega) | exact n32_inA sb_310 (by omega) (by omega) | (refine n32_inA (by assumption) ?_ ?_ <;> omega) | exact bi01 | (rw [sa_307]; omega) | (rw [sa_310]; omega) | decide) only [sX7_startFull_0, sX7_startFull_1, kX7_startFull_2_AIJN, sX7_startFull_3, sX7_startFull_4, sX7_startFull_7, sX7_startFull_10, sX7_startFull_13, sX7_startFull_14, sX7_startFull_15, sX7_startFull_18, sX7_startFull_19, sX7_startFull_20, sX7_startFull_23, sX7_startFull_26, sX7_startFull_27, sX7_startFull_30, sX7_startFull_33, sX7_startFull_34, sX7_startFull_35, sX7_startFull_38, sX7_startFull_41, sX7_startFull_42, sX7_startFull_43, sX7_startFull_46, sX7_startFull_47, sX7_startFull_50, sX7_startFull_51, sX7_startFull_54, sX7_startFull_57, sX7_startFull_58, sX7_startFull_61, sX7_startFull_64, kX7_startFull_67_AINN, sX7_startFull_67, sX7_startFull_68, sX7_startFull_71, evK_n, evK_v, evK_x, gI_pI, gJ_pI, gR_pI, gI_pJ, gJ_pJ, gR_pJ, gI_pR, gJ_pR, gR_pR, n32_le, n32_lt, n32_add, n32_mul, n32_cl, if_true, if_false, not_true_eq_false, not_false_eq_true, and_true, true_and, and_false, false_and, and_self, or_true, true_or, or_false, false_or, or_self, ne_eq, Decidable.not_not, Nat.reduceEqDiff, Nat.reduceEqDiff, sa_307, sb_307, sa_310, sb_310, y3, y4, z3, z4, e4, e5, f1]
    · have hfs : fSt f v k = k := by unfold fSt; rw [if_neg c]
      have e4 := c1_numberOf (g := g) (d := d + 2) (by decide) h5 hkcd
      rw [nm_k] at e4
      obtain ⟨s4, e5, hP4, hM4⟩ := hP1.add (g := g) (d := d + 2) (k := k) (m := D k) hF hO hk (by have := hpl k; omega)
      rw [hfs] at hnext
      rw [upd_1, hnext] at hP4
      obtain ⟨s', f1, f2, f3, f4⟩ := ih (i + 1) s4 (by omega) hP4 (by
        rw [sumL_tk hik, if_neg c, Nat.zero_mul, Nat.add_zero]
        exact hT1.cn (CN.cl hM4 a2))
      refine ⟨s', ?_, f2, f3, f4⟩
      have c' : kc k + kd k < f := by omega
      rw [sX7_startFull_2]
      simp (disch := first | exact jm_lt0 | (apply jm_ltx; (repeat (first | exact jw_0 | apply jw_i | apply jw_r | apply jw_l)); omega) | omega | assumption | exact sa_307 | exact sa_310 | exact n32_inA sb_307 (by omega) (by omega) | exact n32_inA sb_310 (by omega) (by omega) | (refine n32_inA (by assumption) ?_ ?_ <;> omega) | exact bi01 | (rw [sa_307]; omega) | (rw [sa_310]; omega) | decide) only [sX7_startFull_0, sX7_startFull_1, kX7_startFull_2_AIJN, sX7_startFull_3, sX7_startFull_4, sX7_startFull_7, sX7_startFull_10, sX7_startFull_13, sX7_startFull_14, sX7_startFull_15, sX7_startFull_18, sX7_startFull_19, sX7_startFull_20, sX7_startFull_23, sX7_startFull_26, sX7_startFull_27, sX7_startFull_30, sX7_startFull_33, sX7_startFull_34, sX7_startFull_35, sX7_startFull_38, sX7_startFull_41, sX7_startFull_42, sX7_startFull_43, sX7_startFull_46, sX7_startFull_47, sX7_startFull_50, sX7_startFull_51, sX7_startFull_54, sX7_startFull_57, sX7_startFull_58, sX7_startFull_61, sX7_startFull_64, kX7_startFull_67_AINN, sX7_startFull_67, sX7_startFull_68, sX7_startFull_71, evK_n, evK_v, evK_x, gI_pI, gJ_pI, gR_pI, gI_pJ, gJ_pJ, gR_pJ, gI_pR, gJ_pR, gR_pR, n32_le, n32_lt, n32_add, n32_mul, n32_cl, if_true, if_false, not_true_eq_false, not_false_eq_true, and_true, true_and, and_false, false_and, and_self, or_true, true_or, or_false, false_or, or_self, ne_eq, Decidable.not_not, Nat.reduceEqDiff, Nat.reduceEqDiff, sa_307, sb_307, sa_310, sb_310, x2, x5, g1, e1, y3, y4, y6, h5.1, h5.2.1, c', e4, e5, f1]
theorem c7_startFull {g : fm_g} {d f v : Nat} {w : WD} {dr : Nat → Nat} {wa lo : Nat} {s : fm_S} (hF : FX s) (hB : TB s) (hO : OS s D) (hD : sumN D NS ≤ ONE) (hE : HE s 310 w v) (hf : 1 ≤ f ∧ f ≤ 12) (hv : v < 24) (h12 : gI s 307 12 = Int32.ofNat f) (hT : CT3 s dr wa lo) : ∃ s', ev g (d + 3) mX7_startFull 0 [some (.ref (307 : Nat)), none, none, none] [] s = some (.inl none, s') ∧ RM pO qO rsw s s' ∧ OS s' (mapD (fSt f v) D) ∧ CT3 s' dr (wa + sumN (fun k => (if f ≤ kc k + kd k then kc k else 0) * D k) NS) lo := by
  obtain ⟨A, A', l, o1, o2, o3⟩ := hO
  have hW : WB s A A' l D := ⟨hF, o1, hB, o2, o3, hD⟩
  obtain ⟨s', f1, f2⟩ := c7_stLoop (g := g) (d := d) hW hE hf hv h12 l.length 0 s (by omega) hW.ps (by simpa [sumL] using hT)
  refine ⟨s', ?_, f2⟩
  rw [sX7_startFull_0, sX7_startFull_1]
  exact f1
end EN
