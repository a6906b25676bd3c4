/-! the class: how a reckoning differs; its beginning -/
def opt (w : WD) (ch de : Nat) : OPT := (if ch = 2 then de else wT w 4, if ch = 3 then de else wT w 6, if ch = 4 then de else 0, if ch = 1 then de else 99, fun p => if ch = 5 then 6 else if ch = 6 then (if p = de / 6 then de % 6 else if p = de % 6 then de / 6 else p) else p)
def cOK (ch de : Nat) : Prop := (ch = 0 ∧ de = 0) ∨ (ch = 1 ∧ de < 6) ∨ (ch = 2 ∧ de ≤ 16) ∨ (ch = 3 ∧ de ≤ 16) ∨ (ch = 4 ∧ 1 ≤ de ∧ de ≤ 12) ∨ (ch = 5 ∧ de = 0) ∨ (ch = 6 ∧ de < 36 ∧ de / 6 < de % 6)
theorem opt_ok {w : WD} {ch de : Nat} (hw : wOK w) (hc : cOK ch de) : oOK (opt w ch de) := by
  obtain ⟨t1, t2, t3, t4, t5, t6, t7, t8, t9⟩ := hw.1
  unfold cOK at hc
  unfold oOK opt
  dsimp only
  refine ⟨by split <;> omega, by split <;> omega, by split <;> omega, by split <;> omega, fun p hp => ?_⟩
  split
  · omega
  split
  · split
    · omega
    split <;> omega
  · omega
def rD (b _j : Nat) : Prop := b = 315
theorem RM.dg {P Q : Nat → Nat → Prop} {s : fm_S} {j v : Nat} : RM P Q rD s (pR s 315 j v) := ⟨rfl, fun _ _ _ => rfl, fun _ _ _ => rfl, fun b i h => by rw [pR_gR, if_neg (fun e => h e.1)]⟩
def nO (_b _j : Nat) : Prop := False
def dH (ch p : Nat) : Nat := if ch = 5 then 54 else hcl p
theorem c7_planLoop {g : fm_g} {d ch de : Nat} {s0 : fm_S} (hF : FX s0) (hc : ch < 7) : ∀ (m i : Nat) (s : fm_S), i + m = 6 → RM nO nO rD s0 s → (∀ p, p < i → gR s 315 p = dH ch p) → ∃ s', ev g d mX7_plan 74 [some (.ref (307 : Nat)), some (.ref (3 : Nat)), some (.int (Int32.ofNat ch)), some (.int (Int32.ofNat de)), some (.int (Int32.ofNat i)), none] [] s = ev g d mX7_plan 113 [some (.ref (307 : Nat)), some (.ref (3 : Nat)), some (.int (Int32.ofNat ch)), some (.int (Int32.ofNat de)), none, none] [] s' ∧ RM nO nO rD s0 s' ∧ ∀ p, p < 6 → gR s' 315 p = dH ch p := by
  intro m
  induction m with
  | zero =>
    intro i s hi hM hp
    refine ⟨s, ?_, hM, fun p h => hp p (by omega)⟩
    rw [sX7_plan_74]
    simp (disch := first | exact jm_lt0 | (apply jm_ltx; (repeat (first | exact jw_0 | apply jw_i | apply jw_r | apply jw_l)); omega) | omega | assumption | exact sa_307 | exact sa_3 | exact n32_inA sb_307 (by omega) (by omega) | exact n32_inA sb_3 (by omega) (by omega) | (refine n32_inA (by assumption) ?_ ?_ <;> omega) | exact bi01 | (rw [sa_307]; omega) | (rw [sa_3]; omega) | decide) only [sX7_plan_0, sX7_plan_1, sX7_plan_2, sX7_plan_3, sX7_plan_6, sX7_plan_7, sX7_plan_10, sX7_plan_11, sX7_plan_14, sX7_plan_15, sX7_plan_18, sX7_plan_21, sX7_plan_22, sX7_plan_23, sX7_plan_24, sX7_plan_27, sX7_plan_28, sX7_plan_31, sX7_plan_32, sX7_plan_35, sX7_plan_37, sX7_plan_40, sX7_plan_43, sX7_plan_44, sX7_plan_45, sX7_plan_46, sX7_plan_49, sX7_plan_50, sX7_plan_53, sX7_plan_54, sX7_plan_57, sX7_plan_58, sX7_plan_59, sX7_plan_60, sX7_plan_63, sX7_plan_64, sX7_plan_67, sX7_plan_68, sX7_plan_71, sX7_plan_72, sX7_plan_76, sX7_plan_78, sX7_plan_81, sX7_plan_82, sX7_plan_85, sX7_plan_87, sX7_plan_88, sX7_plan_89, sX7_plan_92, sX7_plan_93, sX7_plan_96, sX7_plan_99, sX7_plan_100, sX7_plan_102, sX7_plan_105, sX7_plan_106, sX7_plan_109, kX7_plan_112_AAIIIN, sX7_plan_112, sX7_plan_115, sX7_plan_116, sX7_plan_118, sX7_plan_119, sX7_plan_121, sX7_plan_122, sX7_plan_124, sX7_plan_125, sX7_plan_127, sX7_plan_130, sX7_plan_132, sX7_plan_135, sX7_plan_137, sX7_plan_139, sX7_plan_142, sX7_plan_144, sX7_plan_147, sX7_plan_149, sX7_plan_151, sX7_plan_154, sX7_plan_155, sX7_plan_158, sX7_plan_160, sX7_plan_161, sX7_plan_163, sX7_plan_166, sX7_plan_167, sX7_plan_168, sX7_plan_171, sX7_plan_173, sX7_plan_174, sX7_plan_176, sX7_plan_179, kX7_plan_180_AAIIII, sX7_plan_180, n32_le, n32_lt, n32_add, n32_mul, n32_cl]
    rw [if_pos (by omega)]
  | succ m ih =>
    intro i s hi hM hp
    have hF1 : FX s := hM.fx hF (fun b j h => Or.inr h)
    have g1 : ¬ 6 ≤ i := by omega
    have hi6 : i < 6 := by omega
    have r5 := hF1.u 307 5 315 (by decide +kernel)
    have r31 := hF1.u 3 1 53 (by decide +kernel)
    have r32 := hF1.u 3 2 54 (by decide +kernel)
    have key : ∀ i, i < 6 → (53, i, hcl i) ∈ fxL ∧ (shp (hcl i)).1 = 5 := by decide +kernel
    have r53 : gR s 53 i = hcl i := hF1 _ (key i hi6).1
    have sH := (key i hi6).2
    have hne : gR s 53 (Int32.ofNat i).toNatClampNeg ≠ 0 := by rw [n32_cl (by omega), r53]; exact hcl_pos
    have hne2 : hcl i ≠ 0 := hcl_pos
    have gp : ∀ v, v = dH ch i → ∀ p, p < i + 1 → gR (pR s 315 i v) 315 p = dH ch p := fun v hv p h => by
      rw [pR_gR]
      by_cases c : p = i
      · rw [if_pos ⟨rfl, c⟩, hv, c]
      · rw [if_neg (by rintro ⟨-, h⟩; exact c h)]; exact hp p (by omega)
    by_cases c5 : ch = 5
    · obtain ⟨s', f1, f2, f3⟩ := ih (i + 1) (pR s 315 i 54) (by omega) (hM.tr RM.dg) (gp _ (by unfold dH; rw [if_pos c5]))
      refine ⟨s', ?_, f2, f3⟩
      subst c5
      rw [sX7_plan_74]
      simp (disch := first | exact jm_lt0 | (apply jm_ltx; (repeat (first | exact jw_0 | apply jw_i | apply jw_r | apply jw_l)); omega) | omega | assumption | exact sa_307 | exact sa_3 | exact sa_53 | exact sa_54 | exact sa_315 | exact n32_inA sb_307 (by omega) (by omega) | exact n32_inA sb_3 (by omega) (by omega) | exact n32_inA sb_53 (by omega) (by omega) | exact n32_inA sb_54 (by omega) (by omega) | exact n32_inA sb_315 (by omega) (by omega) | (refine n32_inA (by assumption) ?_ ?_ <;> omega) | exact bi01 | (rw [sa_307]; omega) | (rw [sa_3]; omega) | (rw [sa_53]; omega) | (rw [sa_54]; omega) | (rw [sa_315]; omega) | decide) only [sX7_plan_0, sX7_plan_1, sX7_plan_2, sX7_plan_3, sX7_plan_6, sX7_plan_7, sX7_plan_10, sX7_plan_11, sX7_plan_14, sX7_plan_15, sX7_plan_18, sX7_plan_21, sX7_plan_22, sX7_plan_23, sX7_plan_24, sX7_plan_27, sX7_plan_28, sX7_plan_31, sX7_plan_32, sX7_plan_35, sX7_plan_37, sX7_plan_40, sX7_plan_43, sX7_plan_44, sX7_plan_45, sX7_plan_46, sX7_plan_49, sX7_plan_50, sX7_plan_53, sX7_plan_54, sX7_plan_57, sX7_plan_58, sX7_plan_59, sX7_plan_60, sX7_plan_63, sX7_plan_64, sX7_plan_67, sX7_plan_68, sX7_plan_71, sX7_plan_72, sX7_plan_76, sX7_plan_78, sX7_plan_81, sX7_plan_82, sX7_plan_85, sX7_plan_87, sX7_plan_88, sX7_plan_89, sX7_plan_92, sX7_plan_93, sX7_plan_96, sX7_plan_99, sX7_plan_100, sX7_plan_102, sX7_plan_105, sX7_plan_106, sX7_plan_109, kX7_plan_112_AAIIIN, sX7_plan_112, sX7_plan_115, sX7_plan_116, sX7_plan_118, sX7_plan_119, sX7_plan_121, sX7_plan_122, sX7_plan_124, sX7_plan_125, sX7_plan_127, sX7_plan_130, sX7_plan_132, sX7_plan_135, sX7_plan_137, sX7_plan_139, sX7_plan_142, sX7_plan_144, sX7_plan_147, sX7_plan_149, sX7_plan_151, sX7_plan_154, sX7_plan_155, sX7_plan_158, sX7_plan_160, sX7_plan_161, sX7_plan_163, sX7_plan_166, sX7_plan_167, sX7_plan_168, sX7_plan_171, sX7_plan_173, sX7_plan_174, sX7_plan_176, sX7_plan_179, kX7_plan_180_AAIIII, sX7_plan_180, evK_n, evK_v, evK_x, gI_pI, gJ_pI, gR_pI, gI_pJ, gJ_pJ, gR_pJ, gI_pR, gJ_pR, gR_pR, n32_le, n32_lt, n32_add, n32_mul, n32_cl, if_true, if_false, not_true_eq_false, not_false_eq_true, and_true, true_and, and_false, false_and, and_self, or_true, true_or, or_false, false_or, or_self, ne_eq, Decidable.not_not, Nat.reduceEqDiff, Nat.reduceEqDiff, sa_307, sb_307, sa_3, sb_3, sa_53, sb_53, sa_54, sb_54, sa_315, sb_315, g1, r5, r31, r32]
      exact f1
    · obtain ⟨s', f1, f2, f3⟩ := ih (i + 1) (pR s 315 i (hcl i)) (by omega) (hM.tr RM.dg) (gp _ (by unfold dH; rw [if_neg c5]))
      refine ⟨s', ?_, f2, f3⟩
      have c5' : ¬ Int32.ofNat ch = Int32.ofNat 5 := by rw [n32_eq (by omega) (by decide)]; exact c5
      rw [sX7_plan_74]
      simp (disch := first | exact jm_lt0 | (apply jm_ltx; (repeat (first | exact jw_0 | apply jw_i | apply jw_r | apply jw_l)); omega) | omega | assumption | exact sa_307 | exact sa_3 | exact sa_53 | exact sa_54 | exact sa_315 | exact n32_inA sb_307 (by omega) (by omega) | exact n32_inA sb_3 (by omega) (by omega) | exact n32_inA sb_53 (by omega) (by omega) | exact n32_inA sb_54 (by omega) (by omega) | exact n32_inA sb_315 (by omega) (by omega) | (refine n32_inA (by assumption) ?_ ?_ <;> omega) | exact bi01 | (rw [sa_307]; omega) | (rw [sa_3]; omega) | (rw [sa_53]; omega) | (rw [sa_54]; omega) | (rw [sa_315]; omega) | decide) only [sX7_plan_0, sX7_plan_1, sX7_plan_2, sX7_plan_3, sX7_plan_6, sX7_plan_7, sX7_plan_10, sX7_plan_11, sX7_plan_14, sX7_plan_15, sX7_plan_18, sX7_plan_21, sX7_plan_22, sX7_plan_23, sX7_plan_24, sX7_plan_27, sX7_plan_28, sX7_plan_31, sX7_plan_32, sX7_plan_35, sX7_plan_37, sX7_plan_40, sX7_plan_43, sX7_plan_44, sX7_plan_45, sX7_plan_46, sX7_plan_49, sX7_plan_50, sX7_plan_53, sX7_plan_54, sX7_plan_57, sX7_plan_58, sX7_plan_59, sX7_plan_60, sX7_plan_63, sX7_plan_64, sX7_plan_67, sX7_plan_68, sX7_plan_71, sX7_plan_72, sX7_plan_76, sX7_plan_78, sX7_plan_81, sX7_plan_82, sX7_plan_85, sX7_plan_87, sX7_plan_88, sX7_plan_89, sX7_plan_92, sX7_plan_93, sX7_plan_96, sX7_plan_99, sX7_plan_100, sX7_plan_102, sX7_plan_105, sX7_plan_106, sX7_plan_109, kX7_plan_112_AAIIIN, sX7_plan_112, sX7_plan_115, sX7_plan_116, sX7_plan_118, sX7_plan_119, sX7_plan_121, sX7_plan_122, sX7_plan_124, sX7_plan_125, sX7_plan_127, sX7_plan_130, sX7_plan_132, sX7_plan_135, sX7_plan_137, sX7_plan_139, sX7_plan_142, sX7_plan_144, sX7_plan_147, sX7_plan_149, sX7_plan_151, sX7_plan_154, sX7_plan_155, sX7_plan_158, sX7_plan_160, sX7_plan_161, sX7_plan_163, sX7_plan_166, sX7_plan_167, sX7_plan_168, sX7_plan_171, sX7_plan_173, sX7_plan_174, sX7_plan_176, sX7_plan_179, kX7_plan_180_AAIIII, sX7_plan_180, evK_n, evK_v, evK_x, gI_pI, gJ_pI, gR_pI, gI_pJ, gJ_pJ, gR_pJ, gI_pR, gJ_pR, gR_pR, n32_le, n32_lt, n32_add, n32_mul, n32_cl, if_true, if_false, not_true_eq_false, not_false_eq_true, and_true, true_and, and_false, false_and, and_self, or_true, true_or, or_false, false_or, or_self, ne_eq, Decidable.not_not, Nat.reduceEqDiff, Nat.reduceEqDiff, sa_307, sb_307, sa_3, sb_3, sa_53, sb_53, sa_54, sb_54, sa_315, sb_315, g1, r5, r31, r32, c5', r53]
      exact f1
def pPl (b j : Nat) : Prop := b = 307 ∧ 10 ≤ j
theorem c7_plan {g : fm_g} {d ch de : Nat} {w : WD} {s : fm_S} (hF : FX s) (hC : CW s w) (hw : wOK w) (hc : cOK ch de) : ∃ s', ev g (d + 1) mX7_plan 0 [some (.ref (307 : Nat)), some (.ref (3 : Nat)), some (.int (Int32.ofNat ch)), some (.int (Int32.ofNat de)), none, none] [] s = some (.inl none, s') ∧ RM pPl nO rD s s' ∧ PL s' (opt w ch de) := by
  have hc7 : ch < 7 ∧ de < 36 := by unfold cOK at hc; omega
  have hT := hw.1
  have r30 := hF.u 3 0 4 (by decide +kernel)
  have hq1 : Int32.ofNat (if ch = 2 then de else wT w 4) = if ch = 2 then Int32.ofNat de else Int32.ofNat (wT w 4) := by split <;> rfl
  have k4 := w_told (g := g) (d := d) (i := 4) hF hC (by decide)
  have CWp : ∀ {s' : fm_S} {j : Nat} {v : Int32}, CW s' w → CW (pI s' 307 j v) w := fun h => h.of hw (fun b i hb => by rw [gI_pI, if_neg (by rintro ⟨rfl, -⟩; exact hb (by unfold TC; omega))])
  have k6 : ∀ x, ev g d mX8_toldOf 0 [some (.ref (4 : Nat)), some (.int (Int32.ofNat 6))] [] (pI s 307 10 x) = some (.inl (some (.int (Int32.ofNat (wT w 6)))), pI s 307 10 x) := fun x => w_told hF.pI (CWp hC) (by decide)
  have n2 : (Int32.ofNat ch = Int32.ofNat 2) = (ch = 2) := n32_eq (by omega) (by decide)
  have n3 : (Int32.ofNat ch = Int32.ofNat 3) = (ch = 3) := n32_eq (by omega) (by decide)
  have n4 : (Int32.ofNat ch = Int32.ofNat 4) = (ch = 4) := n32_eq (by omega) (by decide)
  have n1 : (Int32.ofNat ch = Int32.ofNat 1) = (ch = 1) := n32_eq (by omega) (by decide)
  have n6 : (Int32.ofNat ch = Int32.ofNat 6) = (ch = 6) := n32_eq (by omega) (by decide)
  generalize hs1 : pI (pI (pI (pI s 307 10 (Int32.ofNat (if ch = 2 then de else wT w 4))) 307 11 (Int32.ofNat (if ch = 3 then de else wT w 6))) 307 12 (if ch = 4 then Int32.ofNat de else -1)) 307 13 (if ch = 1 then Int32.ofNat de else -1) = s1
  have hM1 : RM pPl nO rD s s1 := by
    rw [← hs1]
    exact ((((FM.pI ⟨rfl, by omega⟩).tr (FM.pI ⟨rfl, by omega⟩)).tr (FM.pI ⟨rfl, by omega⟩)).tr (FM.pI ⟨rfl, by omega⟩)).rm
  have hF1 : FX s1 := hM1.fx hF (fun b j h => Or.inr h)
  obtain ⟨s2, e2, hM2, hp2⟩ := c7_planLoop (g := g) (d := d + 1) (ch := ch) (de := de) hF1 hc7.1 6 0 s1 (by omega) RM.rf (fun p h => by omega)
  have hF2 : FX s2 := hM2.fx hF1 (fun b j h => Or.inr h)
  have pre : ev g (d + 1) mX7_plan 0 [some (.ref (307 : Nat)), some (.ref (3 : Nat)), some (.int (Int32.ofNat ch)), some (.int (Int32.ofNat de)), none, none] [] s = ev g (d + 1) mX7_plan 113 [some (.ref (307 : Nat)), some (.ref (3 : Nat)), some (.int (Int32.ofNat ch)), some (.int (Int32.ofNat de)), none, none] [] s2 := by
    rw [← e2, ← hs1]
    by_cases c2 : ch = 2
    · have q3 : ¬ ch = 3 := by omega
      have q4 : ¬ ch = 4 := by omega
      have q1 : ¬ ch = 1 := by omega
      simp (disch := first | exact jm_lt0 | (apply jm_ltx; (repeat (first | exact jw_0 | apply jw_i | apply jw_r | apply jw_l)); omega) | omega | assumption | exact sa_307 | exact sa_3 | exact n32_inA sb_307 (by omega) (by omega) | exact n32_inA sb_3 (by omega) (by omega) | (refine n32_inA (by assumption) ?_ ?_ <;> omega) | exact bi01 | (rw [sa_307]; omega) | (rw [sa_3]; omega) | decide) only [sX7_plan_0, sX7_plan_1, sX7_plan_2, sX7_plan_3, sX7_plan_6, sX7_plan_7, sX7_plan_10, sX7_plan_11, sX7_plan_14, sX7_plan_15, sX7_plan_18, sX7_plan_21, sX7_plan_22, sX7_plan_23, sX7_plan_24, sX7_plan_27, sX7_plan_28, sX7_plan_31, sX7_plan_32, sX7_plan_35, sX7_plan_37, sX7_plan_40, sX7_plan_43, sX7_plan_44, sX7_plan_45, sX7_plan_46, sX7_plan_49, sX7_plan_50, sX7_plan_53, sX7_plan_54, sX7_plan_57, sX7_plan_58, sX7_plan_59, sX7_plan_60, sX7_plan_63, sX7_plan_64, sX7_plan_67, sX7_plan_68, sX7_plan_71, sX7_plan_72, sX7_plan_76, sX7_plan_78, sX7_plan_81, sX7_plan_82, sX7_plan_85, sX7_plan_87, sX7_plan_88, sX7_plan_89, sX7_plan_92, sX7_plan_93, sX7_plan_96, sX7_plan_99, sX7_plan_100, sX7_plan_102, sX7_plan_105, sX7_plan_106, sX7_plan_109, kX7_plan_112_AAIIIN, sX7_plan_112, sX7_plan_113, sX7_plan_115, sX7_plan_116, sX7_plan_118, sX7_plan_119, sX7_plan_121, sX7_plan_122, sX7_plan_124, sX7_plan_125, sX7_plan_127, sX7_plan_130, sX7_plan_132, sX7_plan_135, sX7_plan_137, sX7_plan_139, sX7_plan_142, sX7_plan_144, sX7_plan_147, sX7_plan_149, sX7_plan_151, sX7_plan_154, sX7_plan_155, sX7_plan_158, sX7_plan_160, sX7_plan_161, sX7_plan_163, sX7_plan_166, sX7_plan_167, sX7_plan_168, sX7_plan_171, sX7_plan_173, sX7_plan_174, sX7_plan_176, sX7_plan_179, kX7_plan_180_AAIIII, sX7_plan_180, evK_n, evK_v, evK_x, gI_pI, gJ_pI, gR_pI, gI_pJ, gJ_pJ, gR_pJ, gI_pR, gJ_pR, gR_pR, if_true, if_false, not_true_eq_false, not_false_eq_true, and_true, true_and, and_false, false_and, and_self, or_true, true_or, or_false, false_or, or_self, ne_eq, Decidable.not_not, Nat.reduceEqDiff, Nat.reduceEqDiff, sa_307, sb_307, sa_3, sb_3, n2, n3, n4, n1, n32_eq, Nat.reduceEqDiff, c2, q3, q4, q1, r30, k6]
    · by_cases c3 : ch = 3
      · have q4 : ¬ ch = 4 := by omega
        have q1 : ¬ ch = 1 := by omega
        simp (disch := first | exact jm_lt0 | (apply jm_ltx; (repeat (first | exact jw_0 | apply jw_i | apply jw_r | apply jw_l)); omega) | omega | assumption | exact sa_307 | exact sa_3 | exact n32_inA sb_307 (by omega) (by omega) | exact n32_inA sb_3 (by omega) (by omega) | (refine n32_inA (by assumption) ?_ ?_ <;> omega) | exact bi01 | (rw [sa_307]; omega) | (rw [sa_3]; omega) | decide) only [sX7_plan_0, sX7_plan_1, sX7_plan_2, sX7_plan_3, sX7_plan_6, sX7_plan_7, sX7_plan_10, sX7_plan_11, sX7_plan_14, sX7_plan_15, sX7_plan_18, sX7_plan_21, sX7_plan_22, sX7_plan_23, sX7_plan_24, sX7_plan_27, sX7_plan_28, sX7_plan_31, sX7_plan_32, sX7_plan_35, sX7_plan_37, sX7_plan_40, sX7_plan_43, sX7_plan_44, sX7_plan_45, sX7_plan_46, sX7_plan_49, sX7_plan_50, sX7_plan_53, sX7_plan_54, sX7_plan_57, sX7_plan_58, sX7_plan_59, sX7_plan_60, sX7_plan_63, sX7_plan_64, sX7_plan_67, sX7_plan_68, sX7_plan_71, sX7_plan_72, sX7_plan_76, sX7_plan_78, sX7_plan_81, sX7_plan_82, sX7_plan_85, sX7_plan_87, sX7_plan_88, sX7_plan_89, sX7_plan_92, sX7_plan_93, sX7_plan_96, sX7_plan_99, sX7_plan_100, sX7_plan_102, sX7_plan_105, sX7_plan_106, sX7_plan_109, kX7_plan_112_AAIIIN, sX7_plan_112, sX7_plan_113, sX7_plan_115, sX7_plan_116, sX7_plan_118, sX7_plan_119, sX7_plan_121, sX7_plan_122, sX7_plan_124, sX7_plan_125, sX7_plan_127, sX7_plan_130, sX7_plan_132, sX7_plan_135, sX7_plan_137, sX7_plan_139, sX7_plan_142, sX7_plan_144, sX7_plan_147, sX7_plan_149, sX7_plan_151, sX7_plan_154, sX7_plan_155, sX7_plan_158, sX7_plan_160, sX7_plan_161, sX7_plan_163, sX7_plan_166, sX7_plan_167, sX7_plan_168, sX7_plan_171, sX7_plan_173, sX7_plan_174, sX7_plan_176, sX7_plan_179, kX7_plan_180_AAIIII, sX7_plan_180, evK_n, evK_v, evK_x, gI_pI, gJ_pI, gR_pI, gI_pJ, gJ_pJ, gR_pJ, gI_pR, gJ_pR, gR_pR, if_true, if_false, not_true_eq_false, not_false_eq_true, and_true, true_and, and_false, false_and, and_self, or_true, true_or, or_false, false_or, or_self, ne_eq, Decidable.not_not, Nat.reduceEqDiff, Nat.reduceEqDiff, sa_307, sb_307, sa_3, sb_3, n2, n3, n4, n1, n32_eq, Nat.reduceEqDiff, c2, c3, q4, q1, r30, k4]
      · by_cases c4 : ch = 4
        · have q1 : ¬ ch = 1 := by omega
          simp (disch := first | exact jm_lt0 | (apply jm_ltx; (repeat (first | exact jw_0 | apply jw_i | apply jw_r | apply jw_l)); omega) | omega | assumption | exact sa_307 | exact sa_3 | exact n32_inA sb_307 (by omega) (by omega) | exact n32_inA sb_3 (by omega) (by omega) | (refine n32_inA (by assumption) ?_ ?_ <;> omega) | exact bi01 | (rw [sa_307]; omega) | (rw [sa_3]; omega) | decide) only [sX7_plan_0, sX7_plan_1, sX7_plan_2, sX7_plan_3, sX7_plan_6, sX7_plan_7, sX7_plan_10, sX7_plan_11, sX7_plan_14, sX7_plan_15, sX7_plan_18, sX7_plan_21, sX7_plan_22, sX7_plan_23, sX7_plan_24, sX7_plan_27, sX7_plan_28, sX7_plan_31, sX7_plan_32, sX7_plan_35, sX7_plan_37, sX7_plan_40, sX7_plan_43, sX7_plan_44, sX7_plan_45, sX7_plan_46, sX7_plan_49, sX7_plan_50, sX7_plan_53, sX7_plan_54, sX7_plan_57, sX7_plan_58, sX7_plan_59, sX7_plan_60, sX7_plan_63, sX7_plan_64, sX7_plan_67, sX7_plan_68, sX7_plan_71, sX7_plan_72, sX7_plan_76, sX7_plan_78, sX7_plan_81, sX7_plan_82, sX7_plan_85, sX7_plan_87, sX7_plan_88, sX7_plan_89, sX7_plan_92, sX7_plan_93, sX7_plan_96, sX7_plan_99, sX7_plan_100, sX7_plan_102, sX7_plan_105, sX7_plan_106, sX7_plan_109, kX7_plan_112_AAIIIN, sX7_plan_112, sX7_plan_113, sX7_plan_115, sX7_plan_116, sX7_plan_118, sX7_plan_119, sX7_plan_121, sX7_plan_122, sX7_plan_124, sX7_plan_125, sX7_plan_127, sX7_plan_130, sX7_plan_132, sX7_plan_135, sX7_plan_137, sX7_plan_139, sX7_plan_142, sX7_plan_144, sX7_plan_147, sX7_plan_149, sX7_plan_151, sX7_plan_154, sX7_plan_155, sX7_plan_158, sX7_plan_160, sX7_plan_161, sX7_plan_163, sX7_plan_166, sX7_plan_167, sX7_plan_168, sX7_plan_171, sX7_plan_173, sX7_plan_174, sX7_plan_176, sX7_plan_179, kX7_plan_180_AAIIII, sX7_plan_180, evK_n, evK_v, evK_x, gI_pI, gJ_pI, gR_pI, gI_pJ, gJ_pJ, gR_pJ, gI_pR, gJ_pR, gR_pR, if_true, if_false, not_true_eq_false, not_false_eq_true, and_true, true_and, and_false, false_and, and_self, or_true, true_or, or_false, false_or, or_self, ne_eq, Decidable.not_not, Nat.reduceEqDiff, Nat.reduceEqDiff, sa_307, sb_307, sa_3, sb_3, n2, n3, n4, n1, n32_eq, Nat.reduceEqDiff, c2, c3, c4, q1, r30, k4, k6]
        · by_cases c1 : ch = 1
          · simp (disch := first | exact jm_lt0 | (apply jm_ltx; (repeat (first | exact jw_0 | apply jw_i | apply jw_r | apply jw_l)); omega) | omega | assumption | exact sa_307 | exact sa_3 | exact n32_inA sb_307 (by omega) (by omega) | exact n32_inA sb_3 (by omega) (by omega) | (refine n32_inA (by assumption) ?_ ?_ <;> omega) | exact bi01 | (rw [sa_307]; omega) | (rw [sa_3]; omega) | decide) only [sX7_plan_0, sX7_plan_1, sX7_plan_2, sX7_plan_3, sX7_plan_6, sX7_plan_7, sX7_plan_10, sX7_plan_11, sX7_plan_14, sX7_plan_15, sX7_plan_18, sX7_plan_21, sX7_plan_22, sX7_plan_23, sX7_plan_24, sX7_plan_27, sX7_plan_28, sX7_plan_31, sX7_plan_32, sX7_plan_35, sX7_plan_37, sX7_plan_40, sX7_plan_43, sX7_plan_44, sX7_plan_45, sX7_plan_46, sX7_plan_49, sX7_plan_50, sX7_plan_53, sX7_plan_54, sX7_plan_57, sX7_plan_58, sX7_plan_59, sX7_plan_60, sX7_plan_63, sX7_plan_64, sX7_plan_67, sX7_plan_68, sX7_plan_71, sX7_plan_72, sX7_plan_76, sX7_plan_78, sX7_plan_81, sX7_plan_82, sX7_plan_85, sX7_plan_87, sX7_plan_88, sX7_plan_89, sX7_plan_92, sX7_plan_93, sX7_plan_96, sX7_plan_99, sX7_plan_100, sX7_plan_102, sX7_plan_105, sX7_plan_106, sX7_plan_109, kX7_plan_112_AAIIIN, sX7_plan_112, sX7_plan_113, sX7_plan_115, sX7_plan_116, sX7_plan_118, sX7_plan_119, sX7_plan_121, sX7_plan_122, sX7_plan_124, sX7_plan_125, sX7_plan_127, sX7_plan_130, sX7_plan_132, sX7_plan_135, sX7_plan_137, sX7_plan_139, sX7_plan_142, sX7_plan_144, sX7_plan_147, sX7_plan_149, sX7_plan_151, sX7_plan_154, sX7_plan_155, sX7_plan_158, sX7_plan_160, sX7_plan_161, sX7_plan_163, sX7_plan_166, sX7_plan_167, sX7_plan_168, sX7_plan_171, sX7_plan_173, sX7_plan_174, sX7_plan_176, sX7_plan_179, kX7_plan_180_AAIIII, sX7_plan_180, evK_n, evK_v, evK_x, gI_pI, gJ_pI, gR_pI, gI_pJ, gJ_pJ, gR_pJ, gI_pR, gJ_pR, gR_pR, if_true, if_false, not_true_eq_false, not_false_eq_true, and_true, true_and, and_false, false_and, and_self, or_true, true_or, or_false, false_or, or_self, ne_eq, Decidable.not_not, Nat.reduceEqDiff, Nat.reduceEqDiff, sa_307, sb_307, sa_3, sb_3, n2, n3, n4, n1, n32_eq, Nat.reduceEqDiff, c2, c3, c4, c1, r30, k4, k6]
          · simp (disch := first | exact jm_lt0 | (apply jm_ltx; (repeat (first | exact jw_0 | apply jw_i | apply jw_r | apply jw_l)); omega) | omega | assumption | exact sa_307 | exact sa_3 | exact n32_inA sb_307 (by omega) (by omega) | exact n32_inA sb_3 (by omega) (by omega) | (refine n32_inA (by assumption) ?_ ?_ <;> omega) | exact bi01 | (rw [sa_307]; omega) | (rw [sa_3]; omega) | decide) only [sX7_plan_0, sX7_plan_1, sX7_plan_2, sX7_plan_3, sX7_plan_6, sX7_plan_7, sX7_plan_10, sX7_plan_11, sX7_plan_14, sX7_plan_15, sX7_plan_18, sX7_plan_21, sX7_plan_22, sX7_plan_23, sX7_plan_24, sX7_plan_27, sX7_plan_28, sX7_plan_31, sX7_plan_32, sX7_plan_35, sX7_plan_37, sX7_plan_40, sX7_plan_43, sX7_plan_44, sX7_plan_45, sX7_plan_46, sX7_plan_49, sX7_plan_50, sX7_plan_53, sX7_plan_54, sX7_plan_57, sX7_plan_58, sX7_plan_59, sX7_plan_60, sX7_plan_63, sX7_plan_64, sX7_plan_67, sX7_plan_68, sX7_plan_71, sX7_plan_72, sX7_plan_76, sX7_plan_78, sX7_plan_81, sX7_plan_82, sX7_plan_85, sX7_plan_87, sX7_plan_88, sX7_plan_89, sX7_plan_92, sX7_plan_93, sX7_plan_96, sX7_plan_99, sX7_plan_100, sX7_plan_102, sX7_plan_105, sX7_plan_106, sX7_plan_109, kX7_plan_112_AAIIIN, sX7_plan_112, sX7_plan_113, sX7_plan_115, sX7_plan_116, sX7_plan_118, sX7_plan_119, sX7_plan_121, sX7_plan_122, sX7_plan_124, sX7_plan_125, sX7_plan_127, sX7_plan_130, sX7_plan_132, sX7_plan_135, sX7_plan_137, sX7_plan_139, sX7_plan_142, sX7_plan_144, sX7_plan_147, sX7_plan_149, sX7_plan_151, sX7_plan_154, sX7_plan_155, sX7_plan_158, sX7_plan_160, sX7_plan_161, sX7_plan_163, sX7_plan_166, sX7_plan_167, sX7_plan_168, sX7_plan_171, sX7_plan_173, sX7_plan_174, sX7_plan_176, sX7_plan_179, kX7_plan_180_AAIIII, sX7_plan_180, evK_n, evK_v, evK_x, gI_pI, gJ_pI, gR_pI, gI_pJ, gJ_pJ, gR_pJ, gI_pR, gJ_pR, gR_pR, if_true, if_false, not_true_eq_false, not_false_eq_true, and_true, true_and, and_false, false_and, and_self, or_true, true_or, or_false, false_or, or_self, ne_eq, Decidable.not_not, Nat.reduceEqDiff, Nat.reduceEqDiff, sa_307, sb_307, sa_3, sb_3, n2, n3, n4, n1, n32_eq, Nat.reduceEqDiff, c2, c3, c4, c1, r30, k4, k6]
  have hdiv : Int32.ofNat de / Int32.ofNat 6 = Int32.ofNat (de / 6) := n32_div (by omega) (by decide)
  have hmod : Int32.ofNat de - Int32.ofNat (de / 6 * 6) = Int32.ofNat (de % 6) := by rw [n32_sub (by omega)]; congr 1; omega
  have f4 : ∀ s' : fm_S, (∀ j, gI s' 307 j = gI s1 307 j) → gI s' 307 10 = Int32.ofNat (opt w ch de).1 ∧ gI s' 307 11 = Int32.ofNat (opt w ch de).2.1 ∧ gI s' 307 12 = (if (opt w ch de).2.2.1 = 0 then -1 else Int32.ofNat (opt w ch de).2.2.1) ∧ gI s' 307 13 = (if (opt w ch de).2.2.2.1 = 99 then -1 else Int32.ofNat (opt w ch de).2.2.2.1) := fun s' h => by
    rw [h, h, h, h, ← hs1]
    unfold opt
    refine ⟨by simp [gI_pI], by simp [gI_pI], ?_, ?_⟩
    · simp only [gI_pI]
      by_cases c : ch = 4
      · have : ¬ de = 0 := by unfold cOK at hc; omega
        simp [c, this]
      · simp [c]
    · simp only [gI_pI]
      by_cases c : ch = 1
      · have : ¬ de = 99 := by omega
        simp [c, this]
      · simp [c]
  have hI2 : ∀ j, gI s2 307 j = gI s1 307 j := fun j => hM2.2.1 _ _ (fun h => h)
  have hM12 : RM pPl nO rD s s2 := hM1.tr (hM2.mono (fun _ _ h => h.elim) (fun _ _ h => h.elim) (fun _ _ h => h))
  by_cases c6 : ch = 6
  · have hde : de < 36 ∧ de / 6 < de % 6 := by unfold cOK at hc; omega
    have r5 := hF2.u 307 5 315 (by decide +kernel)
    have r31 := hF2.u 3 1 53 (by decide +kernel)
    have key : ∀ i, i < 6 → (53, i, hcl i) ∈ fxL ∧ (shp (hcl i)).1 = 5 := by decide +kernel
    have ra : gR s2 53 (de % 6) = hcl (de % 6) := hF2 _ (key _ (by omega)).1
    have rb : gR s2 53 (de / 6) = hcl (de / 6) := hF2 _ (key _ (by omega)).1
    have sa := (key (de % 6) (by omega)).2
    have sb := (key (de / 6) (by omega)).2
    have na : hcl (de % 6) ≠ 0 := hcl_pos
    have nb : hcl (de / 6) ≠ 0 := hcl_pos
    have na' : gR s2 53 (Int32.ofNat (de % 6)).toNatClampNeg ≠ 0 := by rw [n32_cl (by omega), ra]; exact na
    have nb' : gR (pR s2 315 (de / 6) (hcl (de % 6))) 53 (Int32.ofNat (de / 6)).toNatClampNeg ≠ 0 := by rw [n32_cl (by omega), pR_gR, if_neg (by omega), rb]; exact nb
    have g1 : ¬ 6 ≤ de / 6 := by omega
    refine ⟨pR (pR s2 315 (de / 6) (hcl (de % 6))) 315 (de % 6) (hcl (de / 6)), ?_, (hM12.tr RM.dg).tr RM.dg, ?_⟩
    · rw [pre]
      simp (disch := first | exact jm_lt0 | (apply jm_ltx; (repeat (first | exact jw_0 | apply jw_i | apply jw_r | apply jw_l)); omega) | omega | assumption | exact sa_307 | exact sa_3 | exact sa_53 | exact sa_315 | exact n32_inA sb_307 (by omega) (by omega) | exact n32_inA sb_3 (by omega) (by omega) | exact n32_inA sb_53 (by omega) (by omega) | exact n32_inA sb_315 (by omega) (by omega) | (refine n32_inA (by assumption) ?_ ?_ <;> omega) | exact bi01 | (rw [sa_307]; omega) | (rw [sa_3]; omega) | (rw [sa_53]; omega) | (rw [sa_315]; omega) | decide) only [sX7_plan_0, sX7_plan_1, sX7_plan_2, sX7_plan_3, sX7_plan_6, sX7_plan_7, sX7_plan_10, sX7_plan_11, sX7_plan_14, sX7_plan_15, sX7_plan_18, sX7_plan_21, sX7_plan_22, sX7_plan_23, sX7_plan_24, sX7_plan_27, sX7_plan_28, sX7_plan_31, sX7_plan_32, sX7_plan_35, sX7_plan_37, sX7_plan_40, sX7_plan_43, sX7_plan_44, sX7_plan_45, sX7_plan_46, sX7_plan_49, sX7_plan_50, sX7_plan_53, sX7_plan_54, sX7_plan_57, sX7_plan_58, sX7_plan_59, sX7_plan_60, sX7_plan_63, sX7_plan_64, sX7_plan_67, sX7_plan_68, sX7_plan_71, sX7_plan_72, sX7_plan_76, sX7_plan_78, sX7_plan_81, sX7_plan_82, sX7_plan_85, sX7_plan_87, sX7_plan_88, sX7_plan_89, sX7_plan_92, sX7_plan_93, sX7_plan_96, sX7_plan_99, sX7_plan_100, sX7_plan_102, sX7_plan_105, sX7_plan_106, sX7_plan_109, kX7_plan_112_AAIIIN, sX7_plan_112, sX7_plan_113, sX7_plan_115, sX7_plan_116, sX7_plan_118, sX7_plan_119, sX7_plan_121, sX7_plan_122, sX7_plan_124, sX7_plan_125, sX7_plan_127, sX7_plan_130, sX7_plan_132, sX7_plan_135, sX7_plan_137, sX7_plan_139, sX7_plan_142, sX7_plan_144, sX7_plan_147, sX7_plan_149, sX7_plan_151, sX7_plan_154, sX7_plan_155, sX7_plan_158, sX7_plan_160, sX7_plan_161, sX7_plan_163, sX7_plan_166, sX7_plan_167, sX7_plan_168, sX7_plan_171, sX7_plan_173, sX7_plan_174, sX7_plan_176, sX7_plan_179, kX7_plan_180_AAIIII, sX7_plan_180, evK_n, evK_v, evK_x, gI_pI, gJ_pI, gR_pI, gI_pJ, gJ_pJ, gR_pJ, gI_pR, gJ_pR, gR_pR, n32_le, n32_lt, n32_add, n32_mul, n32_cl, if_true, if_false, not_true_eq_false, not_false_eq_true, and_true, true_and, and_false, false_and, and_self, or_true, true_or, or_false, false_or, or_self, ne_eq, Decidable.not_not, Nat.reduceEqDiff, Nat.reduceEqDiff, sa_307, sb_307, sa_3, sb_3, sa_53, sb_53, sa_315, sb_315, hdiv, hmod, n6, c6, n32_lt0, g1, r5, r31, ra, rb, show ¬ (Int32.ofNat 6 = 0) by decide, Nat.reduceEqDiff, ne_eq]
    · obtain ⟨g1, g2, g3, g4⟩ := f4 _ hI2
      refine ⟨g1, g2, g3, g4, fun p hp => ?_⟩
      rw [pR_gR, pR_gR, hp2 p hp]
      unfold opt dH
      dsimp only
      rw [if_neg (show ¬ ch = 5 by omega), if_neg (show ¬ ch = 5 by omega), if_pos c6]
      by_cases e1 : p = de % 6
      · rw [if_pos ⟨rfl, e1⟩, if_neg (show ¬ p = de / 6 by omega), if_pos e1]
      · rw [if_neg (by rintro ⟨-, h⟩; exact e1 h)]
        by_cases e2 : p = de / 6
        · rw [if_pos ⟨rfl, e2⟩, if_pos e2]
        · rw [if_neg (by rintro ⟨-, h⟩; exact e2 h), if_neg e2, if_neg e1]
  · refine ⟨s2, ?_, hM12, ?_⟩
    · rw [pre]
      simp (disch := first | exact jm_lt0 | (apply jm_ltx; (repeat (first | exact jw_0 | apply jw_i | apply jw_r | apply jw_l)); omega) | omega | assumption | exact sa_307 | exact sa_3 | exact sa_53 | exact sa_315 | exact n32_inA sb_307 (by omega) (by omega) | exact n32_inA sb_3 (by omega) (by omega) | exact n32_inA sb_53 (by omega) (by omega) | exact n32_inA sb_315 (by omega) (by omega) | (refine n32_inA (by assumption) ?_ ?_ <;> omega) | exact bi01 | (rw [sa_307]; omega) | (rw [sa_3]; omega) | (rw [sa_53]; omega) | (rw [sa_315]; omega) | decide) only [sX7_plan_0, sX7_plan_1, sX7_plan_2, sX7_plan_3, sX7_plan_6, sX7_plan_7, sX7_plan_10, sX7_plan_11, sX7_plan_14, sX7_plan_15, sX7_plan_18, sX7_plan_21, sX7_plan_22, sX7_plan_23, sX7_plan_24, sX7_plan_27, sX7_plan_28, sX7_plan_31, sX7_plan_32, sX7_plan_35, sX7_plan_37, sX7_plan_40, sX7_plan_43, sX7_plan_44, sX7_plan_45, sX7_plan_46, sX7_plan_49, sX7_plan_50, sX7_plan_53, sX7_plan_54, sX7_plan_57, sX7_plan_58, sX7_plan_59, sX7_plan_60, sX7_plan_63, sX7_plan_64, sX7_plan_67, sX7_plan_68, sX7_plan_71, sX7_plan_72, sX7_plan_76, sX7_plan_78, sX7_plan_81, sX7_plan_82, sX7_plan_85, sX7_plan_87, sX7_plan_88, sX7_plan_89, sX7_plan_92, sX7_plan_93, sX7_plan_96, sX7_plan_99, sX7_plan_100, sX7_plan_102, sX7_plan_105, sX7_plan_106, sX7_plan_109, kX7_plan_112_AAIIIN, sX7_plan_112, sX7_plan_113, sX7_plan_115, sX7_plan_116, sX7_plan_118, sX7_plan_119, sX7_plan_121, sX7_plan_122, sX7_plan_124, sX7_plan_125, sX7_plan_127, sX7_plan_130, sX7_plan_132, sX7_plan_135, sX7_plan_137, sX7_plan_139, sX7_plan_142, sX7_plan_144, sX7_plan_147, sX7_plan_149, sX7_plan_151, sX7_plan_154, sX7_plan_155, sX7_plan_158, sX7_plan_160, sX7_plan_161, sX7_plan_163, sX7_plan_166, sX7_plan_167, sX7_plan_168, sX7_plan_171, sX7_plan_173, sX7_plan_174, sX7_plan_176, sX7_plan_179, kX7_plan_180_AAIIII, sX7_plan_180, evK_n, evK_v, evK_x, gI_pI, gJ_pI, gR_pI, gI_pJ, gJ_pJ, gR_pJ, gI_pR, gJ_pR, gR_pR, n32_le, n32_lt, n32_add, n32_mul, n32_cl, if_true, if_false, not_true_eq_false, not_false_eq_true, and_true, true_and, and_false, false_and, and_self, or_true, true_or, or_false, false_or, or_self, ne_eq, Decidable.not_not, Nat.reduceEqDiff, Nat.reduceEqDiff, sa_307, sb_307, sa_3, sb_3, sa_53, sb_53, sa_315, sb_315, hdiv, hmod, n6, c6, show ¬ (Int32.ofNat 6 = 0) by decide, ne_eq]
    · obtain ⟨g1, g2, g3, g4⟩ := f4 _ hI2
      refine ⟨g1, g2, g3, g4, fun p hp => ?_⟩
      rw [hp2 p hp]
      unfold opt dH
      dsimp only
      by_cases c5 : ch = 5
      · rw [if_pos c5, if_pos c5]; rfl
      · rw [if_neg c5, if_neg c5, if_neg c6]
