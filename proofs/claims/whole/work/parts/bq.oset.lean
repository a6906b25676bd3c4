/-! a new OFFICE stands -/
/-- a HABIT without STEPS -/
def hb0 : HB := (0, fun _ => 0, fun _ => 0, fun _ => 0, fun _ => 0, fun _ => 0, fun _ => 0, 0)
theorem hb0_ok : hOK hb0 := ⟨by decide, by decide, fun i hi => absurd hi (by show ¬ i < 0; omega), fun i hi => absurd hi (by show ¬ i < 0; omega)⟩
/-- the world that an OFFICE begins -/
def wO (o : OfT) : WD := (o.1, o.2.1, o.2.2.1, o.2.2.2.1, o.2.2.2.2, fun _ => hb0, 0, fun _ => (0, 0, 0))
theorem wO_ok {s : fm_S} {o : OfT} (hC : OfC s o) (hO : OfOK o) : wOK (wO o) := ⟨hO.1, hO.2, hC.2.2.2.2.2.1, fun v hv => ⟨(hC.2.2.2.2.2.2 v hv).1.2, (hC.2.2.2.2.2.2 v hv).2.2⟩, fun p hp => hb0_ok, (by show (0 : Nat) ≤ 10; decide), fun i hi => absurd hi (by show ¬ i < 0; omega)⟩
section OS2
variable {g : fm_g} {d : Nat}
theorem c8_told107 {i : Nat} {s : fm_S} (hF : FX s) (hi : i < 8) : ev g d mX8_toldOf 0 [some (.ref (107 : Nat)), some (.int (Int32.ofNat i))] [] s = some (.inl (some (.int (gI s 154 i))), s) := by
  have r1 := hF.u 107 1 154 (by decide +kernel)
  simp (disch := first | exact jm_lt0 | (apply jm_ltx; (repeat (first | exact jw_0 | apply jw_i | apply jw_r | apply jw_l)); omega) | omega | assumption | exact sa_107 | exact sa_154 | exact n32_inA sb_107 (by omega) (by omega) | exact n32_inA sb_154 (by omega) (by omega) | (refine n32_inA (by assumption) ?_ ?_ <;> omega) | exact bi01 | (rw [sa_107]; omega) | (rw [sa_154]; omega) | decide) only [sX8_toldOf_0, sX8_toldOf_1, sX8_toldOf_4, sX8_toldOf_5, sX8_toldOf_6, sX8_toldOf_9, sX8_toldOf_10, sX8_toldOf_13, sX8_toldOf_14, sX8_toldOf_17, sX8_toldOf_18, sX8_toldOf_19, kX8_toldOf_22_AI, sX8_toldOf_22, kX8_toldOf_23_AI, sX8_toldOf_23, evK_n, evK_v, evK_x, gI_pI, gJ_pI, gR_pI, gI_pJ, gJ_pJ, gR_pJ, gI_pR, gJ_pR, gR_pR, sa_107, sb_107, sa_154, sb_154, n32_le, n32_lt, n32_add, n32_mul, n32_cl, n32_lt0, r1, if_false]
  rw [if_neg (by omega)]
theorem c8_price107 {i : Nat} {s : fm_S} (hF : FX s) (hi : i < 5) : ev g d mX8_priceOf 0 [some (.ref (107 : Nat)), some (.int (Int32.ofNat i))] [] s = some (.inl (some (.int (gI s 155 i))), s) := by
  have r1 := hF.u 107 2 155 (by decide +kernel)
  simp (disch := first | exact jm_lt0 | (apply jm_ltx; (repeat (first | exact jw_0 | apply jw_i | apply jw_r | apply jw_l)); omega) | omega | assumption | exact sa_107 | exact sa_155 | exact n32_inA sb_107 (by omega) (by omega) | exact n32_inA sb_155 (by omega) (by omega) | (refine n32_inA (by assumption) ?_ ?_ <;> omega) | exact bi01 | (rw [sa_107]; omega) | (rw [sa_155]; omega) | decide) only [sX8_priceOf_0, sX8_priceOf_1, sX8_priceOf_4, sX8_priceOf_5, sX8_priceOf_6, sX8_priceOf_9, sX8_priceOf_10, sX8_priceOf_13, sX8_priceOf_14, sX8_priceOf_17, sX8_priceOf_18, sX8_priceOf_19, kX8_priceOf_22_AI, sX8_priceOf_22, kX8_priceOf_23_AI, sX8_priceOf_23, evK_n, evK_v, evK_x, gI_pI, gJ_pI, gR_pI, gI_pJ, gJ_pJ, gR_pJ, gI_pR, gJ_pR, gR_pR, sa_107, sb_107, sa_155, sb_155, n32_le, n32_lt, n32_add, n32_mul, n32_cl, n32_lt0, r1, if_false]
  rw [if_neg (by omega)]
theorem c8_cp1 {s0 : fm_S} (hF : FX s0) : ∀ (k i : Nat) (s : fm_S), i + k = 8 → FM (fun b _ => b = 51) nO s0 s → (∀ j, j < i → gI s 51 j = gI s0 154 j) → ∃ s', ev g (d + 1) mX8_copy 2 [some (.ref (4 : Nat)), some (.ref (107 : Nat)), some (.int (Int32.ofNat i))] [] s = ev g (d + 1) mX8_copy 30 [some (.ref (4 : Nat)), some (.ref (107 : Nat)), some (.int (Int32.ofNat 0))] [] s' ∧ FM (fun b _ => b = 51) nO s0 s' ∧ ∀ j, j < 8 → gI s' 51 j = gI s0 154 j := by
  intro k
  induction k with
  | zero =>
    intro i s hi hM hJ
    have hil : i = 8 := by omega
    subst hil
    have hFs := hM.fx hF
    have r1 := hFs.u 4 1 51 (by decide +kernel)
    refine ⟨s, ?_, hM, hJ⟩
    rw [sX8_copy_2]
    simp (disch := first | exact jm_lt0 | (apply jm_ltx; (repeat (first | exact jw_0 | apply jw_i | apply jw_r | apply jw_l)); omega) | omega | assumption | exact sa_4 | exact sa_51 | exact n32_inA sb_4 (by omega) (by omega) | exact n32_inA sb_51 (by omega) (by omega) | (refine n32_inA (by assumption) ?_ ?_ <;> omega) | exact bi01 | (rw [sa_4]; omega) | (rw [sa_51]; omega) | decide) only [sX8_copy_0, sX8_copy_1, sX8_copy_3, sX8_copy_4, sX8_copy_7, sX8_copy_8, sX8_copy_11, sX8_copy_12, sX8_copy_15, sX8_copy_16, sX8_copy_17, sX8_copy_18, sX8_copy_21, sX8_copy_22, sX8_copy_25, kX8_copy_28_AAI, sX8_copy_28, sX8_copy_29, sX8_copy_31, sX8_copy_32, sX8_copy_35, sX8_copy_36, sX8_copy_39, sX8_copy_40, sX8_copy_43, sX8_copy_44, sX8_copy_45, sX8_copy_46, sX8_copy_49, sX8_copy_50, sX8_copy_53, kX8_copy_56_AAI, sX8_copy_56, sX8_copy_57, sX8_copy_60, sX8_copy_61, sX8_copy_64, sX8_copy_67, evK_n, evK_v, evK_x, gI_pI, gJ_pI, gR_pI, gI_pJ, gJ_pJ, gR_pJ, gI_pR, gJ_pR, gR_pR, n32_le, n32_lt, n32_add, n32_mul, n32_cl, if_true, if_false, not_true_eq_false, not_false_eq_true, and_true, true_and, and_false, false_and, and_self, or_true, true_or, or_false, false_or, or_self, ne_eq, Decidable.not_not, Nat.reduceEqDiff, Nat.reduceEqDiff, sa_4, sb_4, sa_51, sb_51, r1, Nat.le_refl]
  | succ k ih =>
    intro i s hi hM hJ
    have hFs := hM.fx hF
    have r1 := hFs.u 4 1 51 (by decide +kernel)
    have g1 : ¬ 8 ≤ i := by omega
    have m1 : gI s 154 i = gI s0 154 i := hM.2.1 _ _ (by omega)
    have k1 := c8_told107 (g := g) (d := d) (i := i) hFs (by omega)
    rw [m1] at k1
    obtain ⟨s', f1, f2, f3⟩ := ih (i + 1) (pI s 51 i (gI s0 154 i)) (by omega) (hM.tr (FM.pI rfl)) (fun j hj => by
      by_cases cj : j = i
      · rw [cj, gI_pI, if_pos ⟨rfl, rfl⟩]
      · rw [gI_pI, if_neg (by omega), hJ j (by omega)])
    refine ⟨s', ?_, f2, f3⟩
    rw [sX8_copy_2]
    simp (disch := first | exact jm_lt0 | (apply jm_ltx; (repeat (first | exact jw_0 | apply jw_i | apply jw_r | apply jw_l)); omega) | omega | assumption | exact sa_4 | exact sa_51 | exact sa_107 | exact n32_inA sb_4 (by omega) (by omega) | exact n32_inA sb_51 (by omega) (by omega) | exact n32_inA sb_107 (by omega) (by omega) | (refine n32_inA (by assumption) ?_ ?_ <;> omega) | exact bi01 | (rw [sa_4]; omega) | (rw [sa_51]; omega) | (rw [sa_107]; omega) | decide) only [sX8_copy_0, sX8_copy_1, sX8_copy_3, sX8_copy_4, sX8_copy_7, sX8_copy_8, sX8_copy_11, sX8_copy_12, sX8_copy_15, sX8_copy_16, sX8_copy_17, sX8_copy_18, sX8_copy_21, sX8_copy_22, sX8_copy_25, kX8_copy_28_AAI, sX8_copy_28, sX8_copy_29, sX8_copy_31, sX8_copy_32, sX8_copy_35, sX8_copy_36, sX8_copy_39, sX8_copy_40, sX8_copy_43, sX8_copy_44, sX8_copy_45, sX8_copy_46, sX8_copy_49, sX8_copy_50, sX8_copy_53, kX8_copy_56_AAI, sX8_copy_56, sX8_copy_57, sX8_copy_60, sX8_copy_61, sX8_copy_64, sX8_copy_67, evK_n, evK_v, evK_x, gI_pI, gJ_pI, gR_pI, gI_pJ, gJ_pJ, gR_pJ, gI_pR, gJ_pR, gR_pR, n32_le, n32_lt, n32_add, n32_mul, n32_cl, if_true, if_false, not_true_eq_false, not_false_eq_true, and_true, true_and, and_false, false_and, and_self, or_true, true_or, or_false, false_or, or_self, ne_eq, Decidable.not_not, Nat.reduceEqDiff, Nat.reduceEqDiff, sa_4, sb_4, sa_51, sb_51, sa_107, sb_107, r1, g1, k1]
    exact f1
theorem c8_cp2 {s0 : fm_S} (hF : FX s0) : ∀ (k i : Nat) (s : fm_S), i + k = 5 → FM (fun b _ => b = 52) nO s0 s → (∀ j, j < i → gI s 52 j = gI s0 155 j) → ∃ s', ev g (d + 1) mX8_copy 30 [some (.ref (4 : Nat)), some (.ref (107 : Nat)), some (.int (Int32.ofNat i))] [] s = ev g (d + 1) mX8_copy 56 [some (.ref (4 : Nat)), some (.ref (107 : Nat)), none] [] s' ∧ FM (fun b _ => b = 52) nO s0 s' ∧ ∀ j, j < 5 → gI s' 52 j = gI s0 155 j := by
  intro k
  induction k with
  | zero =>
    intro i s hi hM hJ
    have hil : i = 5 := by omega
    subst hil
    have hFs := hM.fx hF
    have r1 := hFs.u 4 2 52 (by decide +kernel)
    refine ⟨s, ?_, hM, hJ⟩
    rw [sX8_copy_30]
    simp (disch := first | exact jm_lt0 | (apply jm_ltx; (repeat (first | exact jw_0 | apply jw_i | apply jw_r | apply jw_l)); omega) | omega | assumption | exact sa_4 | exact sa_52 | exact n32_inA sb_4 (by omega) (by omega) | exact n32_inA sb_52 (by omega) (by omega) | (refine n32_inA (by assumption) ?_ ?_ <;> omega) | exact bi01 | (rw [sa_4]; omega) | (rw [sa_52]; omega) | decide) only [sX8_copy_0, sX8_copy_1, sX8_copy_3, sX8_copy_4, sX8_copy_7, sX8_copy_8, sX8_copy_11, sX8_copy_12, sX8_copy_15, sX8_copy_16, sX8_copy_17, sX8_copy_18, sX8_copy_21, sX8_copy_22, sX8_copy_25, kX8_copy_28_AAI, sX8_copy_28, sX8_copy_29, sX8_copy_31, sX8_copy_32, sX8_copy_35, sX8_copy_36, sX8_copy_39, sX8_copy_40, sX8_copy_43, sX8_copy_44, sX8_copy_45, sX8_copy_46, sX8_copy_49, sX8_copy_50, sX8_copy_53, kX8_copy_56_AAI, sX8_copy_57, sX8_copy_60, sX8_copy_61, sX8_copy_64, sX8_copy_67, evK_n, evK_v, evK_x, gI_pI, gJ_pI, gR_pI, gI_pJ, gJ_pJ, gR_pJ, gI_pR, gJ_pR, gR_pR, n32_le, n32_lt, n32_add, n32_mul, n32_cl, if_true, if_false, not_true_eq_false, not_false_eq_true, and_true, true_and, and_false, false_and, and_self, or_true, true_or, or_false, false_or, or_self, ne_eq, Decidable.not_not, Nat.reduceEqDiff, Nat.reduceEqDiff, sa_4, sb_4, sa_52, sb_52, r1, Nat.le_refl]
  | succ k ih =>
    intro i s hi hM hJ
    have hFs := hM.fx hF
    have r1 := hFs.u 4 2 52 (by decide +kernel)
    have g1 : ¬ 5 ≤ i := by omega
    have m1 : gI s 155 i = gI s0 155 i := hM.2.1 _ _ (by omega)
    have k1 := c8_price107 (g := g) (d := d) (i := i) hFs (by omega)
    rw [m1] at k1
    obtain ⟨s', f1, f2, f3⟩ := ih (i + 1) (pI s 52 i (gI s0 155 i)) (by omega) (hM.tr (FM.pI rfl)) (fun j hj => by
      by_cases cj : j = i
      · rw [cj, gI_pI, if_pos ⟨rfl, rfl⟩]
      · rw [gI_pI, if_neg (by omega), hJ j (by omega)])
    refine ⟨s', ?_, f2, f3⟩
    rw [sX8_copy_30]
    simp (disch := first | exact jm_lt0 | (apply jm_ltx; (repeat (first | exact jw_0 | apply jw_i | apply jw_r | apply jw_l)); omega) | omega | assumption | exact sa_4 | exact sa_52 | exact sa_107 | exact n32_inA sb_4 (by omega) (by omega) | exact n32_inA sb_52 (by omega) (by omega) | exact n32_inA sb_107 (by omega) (by omega) | (refine n32_inA (by assumption) ?_ ?_ <;> omega) | exact bi01 | (rw [sa_4]; omega) | (rw [sa_52]; omega) | (rw [sa_107]; omega) | decide) only [sX8_copy_0, sX8_copy_1, sX8_copy_3, sX8_copy_4, sX8_copy_7, sX8_copy_8, sX8_copy_11, sX8_copy_12, sX8_copy_15, sX8_copy_16, sX8_copy_17, sX8_copy_18, sX8_copy_21, sX8_copy_22, sX8_copy_25, kX8_copy_28_AAI, sX8_copy_28, sX8_copy_29, sX8_copy_31, sX8_copy_32, sX8_copy_35, sX8_copy_36, sX8_copy_39, sX8_copy_40, sX8_copy_43, sX8_copy_44, sX8_copy_45, sX8_copy_46, sX8_copy_49, sX8_copy_50, sX8_copy_53, kX8_copy_56_AAI, sX8_copy_57, sX8_copy_60, sX8_copy_61, sX8_copy_64, sX8_copy_67, evK_n, evK_v, evK_x, gI_pI, gJ_pI, gR_pI, gI_pJ, gJ_pJ, gR_pJ, gI_pR, gJ_pR, gR_pR, n32_le, n32_lt, n32_add, n32_mul, n32_cl, if_true, if_false, not_true_eq_false, not_false_eq_true, and_true, true_and, and_false, false_and, and_self, or_true, true_or, or_false, false_or, or_self, ne_eq, Decidable.not_not, Nat.reduceEqDiff, Nat.reduceEqDiff, sa_4, sb_4, sa_52, sb_52, sa_107, sb_107, r1, g1, k1]
    exact f1
/-- what a new OFFICE changes, the class -/
def pNw (b j : Nat) : Prop := (5 ≤ b ∧ b ≤ 52) ∨ (b = 61 ∧ j = 0) ∨ ((j = 0 ∨ j = 6) ∧ (b = 54 ∨ b = 65 ∨ b = 72 ∨ b = 79 ∨ b = 86 ∨ b = 93 ∨ b = 100))
theorem c10_begin {o : OfT} {s : fm_S} (hF : FX s) (hC : OfC s o) (hO : OfOK o) : ∃ s', ev g (d + 3) mX10_begin 0 [some (.ref (3 : Nat)), some (.ref (107 : Nat)), none] [] s = some (.inl none, s') ∧ FM pNw nO s s' ∧ CW s' (wO o) ∧ DI s' 5 0 o.2.2.1 o.2.2.2.1 o.2.2.2.2 := by
  obtain ⟨a1, a2, hDI⟩ := hC
  obtain ⟨s1, e1, e2, e3⟩ := c8_cp1 (g := g) (d := d + 1) hF 8 0 s rfl FM.rf (fun j hj => by omega)
  have hF1 := e2.fx hF
  obtain ⟨s2, f1, f2, f3⟩ := c8_cp2 (g := g) (d := d + 1) hF1 5 0 s1 rfl FM.rf (fun j hj => by omega)
  have hF2 := f2.fx hF1
  have e12 : ∀ b j, b ≠ 51 → b ≠ 52 → gI s2 b j = gI s b j := fun b j h1 h2 => by rw [f2.2.1 _ _ h2, e2.2.1 _ _ h1]
  have hn : o.2.2.1 ≤ 24 := hDI.2.2.2.1
  have hDI2 : DI s2 108 0 o.2.2.1 o.2.2.2.1 o.2.2.2.2 := by
    obtain ⟨d1, d2, d3, d4, d5⟩ := hDI
    refine ⟨by rw [e12 _ _ (by omega) (by omega), d1], d2, by rw [e12 _ _ (by omega) (by omega), d3], d4, fun v hv => ?_⟩
    obtain ⟨⟨c1, c2⟩, c3, c4⟩ := d5 v hv
    exact ⟨⟨by rw [e12 _ _ (by omega) (by omega), c1], c2⟩, by rw [e12 _ _ (by omega) (by omega), c3], c4⟩
  obtain ⟨s3, y1, y2, y3⟩ := d_copy (g := g) (d := d) (a := 108) (b := 5) hF2 (by decide) (by decide) (by decide) hDI2.1 (by decide)
  have hDI3 := hDI2.copied y2 y3
  have hF3 : FX s3 := hF2.of (by rw [y2.1])
  have e23 : ∀ b j, b < 5 ∨ 51 ≤ b → gI s3 b j = gI s2 b j := fun b j h => y2.2.1 _ _ (by omega)
  have hM3 : FM pNw nO s s3 := by
    refine ((e2.mono (fun b j q => by unfold pNw; omega) (fun _ _ q => q)).tr (f2.mono (fun b j q => by unfold pNw; omega) (fun _ _ q => q))).tr ⟨by rw [y2.1], fun b j hb => e23 b j (by unfold pNw at hb; omega), fun b j _ => by show s3.2.1 b j = s2.2.1 b j; rw [y2.1]⟩
  have r4 := hF.u 3 0 4 (by decide +kernel)
  have r40 := hF2.u 4 0 5 (by decide +kernel)
  have r107 := hF2.u 107 0 108 (by decide +kernel)
  have hcp : ev g (d + 2) mX8_copy 0 [some (.ref (4 : Nat)), some (.ref (107 : Nat)), none] [] s = some (.inl none, s3) := by
    simp (disch := first | exact jm_lt0 | (apply jm_ltx; (repeat (first | exact jw_0 | apply jw_i | apply jw_r | apply jw_l)); omega) | omega | assumption | exact sa_4 | exact sa_107 | exact n32_inA sb_4 (by omega) (by omega) | exact n32_inA sb_107 (by omega) (by omega) | (refine n32_inA (by assumption) ?_ ?_ <;> omega) | exact bi01 | (rw [sa_4]; omega) | (rw [sa_107]; omega) | decide) only [sX8_copy_0, sX8_copy_1, sX8_copy_3, sX8_copy_4, sX8_copy_7, sX8_copy_8, sX8_copy_11, sX8_copy_12, sX8_copy_15, sX8_copy_16, sX8_copy_17, sX8_copy_18, sX8_copy_21, sX8_copy_22, sX8_copy_25, kX8_copy_28_AAI, sX8_copy_28, sX8_copy_29, sX8_copy_31, sX8_copy_32, sX8_copy_35, sX8_copy_36, sX8_copy_39, sX8_copy_40, sX8_copy_43, sX8_copy_44, sX8_copy_45, sX8_copy_46, sX8_copy_49, sX8_copy_50, sX8_copy_53, kX8_copy_56_AAI, sX8_copy_56, sX8_copy_57, sX8_copy_60, sX8_copy_61, sX8_copy_64, sX8_copy_67, evK_n, evK_v, evK_x, gI_pI, gJ_pI, gR_pI, gI_pJ, gJ_pJ, gR_pJ, gI_pR, gJ_pR, gR_pR, if_true, if_false, not_true_eq_false, not_false_eq_true, and_true, true_and, and_false, false_and, and_self, or_true, true_or, or_false, false_or, or_self, ne_eq, Decidable.not_not, Nat.reduceEqDiff, Nat.reduceEqDiff, sa_4, sb_4, sa_107, sb_107, e1, f1, r40, r107, y1]
  -- the HABITS
  generalize hs4 : pI (pI (pI (pI (pI (pI (pI (pI (pI (pI (pI (pI s3 65 0 (Int32.ofNat 0)) 65 6 (Int32.ofNat 0)) 72 0 (Int32.ofNat 0)) 72 6 (Int32.ofNat 0)) 79 0 (Int32.ofNat 0)) 79 6 (Int32.ofNat 0)) 86 0 (Int32.ofNat 0)) 86 6 (Int32.ofNat 0)) 93 0 (Int32.ofNat 0)) 93 6 (Int32.ofNat 0)) 100 0 (Int32.ofNat 0)) 100 6 (Int32.ofNat 0) = s4
  have lp : ∀ (i : Nat) (s : fm_S), i < 6 → FX s → ev g (d + 3) mX10_begin 10 [some (.ref (3 : Nat)), none, some (.int (Int32.ofNat i))] [] s = ev g (d + 3) mX10_begin 10 [some (.ref (3 : Nat)), none, some (.int (Int32.ofNat (i + 1)))] [] (pI (pI s (hcl i) 0 (Int32.ofNat 0)) (hcl i) 6 (Int32.ofNat 0)) := fun i s hi hFs => by
    have key : ∀ i, i < 6 → (shp (hcl i)).1 = 5 := by decide +kernel
    have sh := key i hi
    have kh := fun d => c10_habitOf (g := g) (d := d) hFs hi
    have g1 : ¬ 6 ≤ i := by omega
    rw [sX10_begin_10]
    simp (disch := first | exact jm_lt0 | (apply jm_ltx; (repeat (first | exact jw_0 | apply jw_i | apply jw_r | apply jw_l)); omega) | omega | assumption | exact sa_3 | exact sa_53 | exact n32_inA sb_3 (by omega) (by omega) | exact n32_inA sb_53 (by omega) (by omega) | (refine n32_inA (by assumption) ?_ ?_ <;> omega) | exact bi01 | (rw [sa_3]; omega) | (rw [sa_53]; omega) | decide) only [sX10_begin_0, sX10_begin_1, sX10_begin_4, sX10_begin_5, sX10_begin_8, sX10_begin_9, kX10_begin_10_AAI, sX10_begin_11, sX10_begin_13, sX10_begin_16, sX10_begin_17, sX10_begin_18, sX10_begin_21, sX10_begin_24, sX10_begin_27, kX10_begin_30_ANI, sX10_begin_30, sX10_begin_31, sX10_begin_34, sX10_begin_37, sX10_begin_38, sX10_begin_41, sX10_begin_44, sX5_clear_0, sX5_clear_1, sX5_clear_2, sX5_clear_5, sX5_clear_6, sX5_clear_7, sX5_clear_10, evK_n, evK_v, evK_x, gI_pI, gJ_pI, gR_pI, gI_pJ, gJ_pJ, gR_pJ, gI_pR, gJ_pR, gR_pR, n32_le, n32_lt, n32_add, n32_mul, n32_cl, if_true, if_false, not_true_eq_false, not_false_eq_true, and_true, true_and, and_false, false_and, and_self, or_true, true_or, or_false, false_or, or_self, ne_eq, Decidable.not_not, Nat.reduceEqDiff, Nat.reduceEqDiff, sa_3, sb_3, sa_53, sb_53, kh, g1, sh]
  have l0 := lp 0 (s3) (by decide) hF3
  have l1 := lp 1 (pI (pI s3 (hcl 0) 0 (Int32.ofNat 0)) (hcl 0) 6 (Int32.ofNat 0)) (by decide) (hF3).pI.pI
  have l2 := lp 2 (pI (pI (pI (pI s3 (hcl 0) 0 (Int32.ofNat 0)) (hcl 0) 6 (Int32.ofNat 0)) (hcl 1) 0 (Int32.ofNat 0)) (hcl 1) 6 (Int32.ofNat 0)) (by decide) (hF3).pI.pI.pI.pI
  have l3 := lp 3 (pI (pI (pI (pI (pI (pI s3 (hcl 0) 0 (Int32.ofNat 0)) (hcl 0) 6 (Int32.ofNat 0)) (hcl 1) 0 (Int32.ofNat 0)) (hcl 1) 6 (Int32.ofNat 0)) (hcl 2) 0 (Int32.ofNat 0)) (hcl 2) 6 (Int32.ofNat 0)) (by decide) (hF3).pI.pI.pI.pI.pI.pI
  have l4 := lp 4 (pI (pI (pI (pI (pI (pI (pI (pI s3 (hcl 0) 0 (Int32.ofNat 0)) (hcl 0) 6 (Int32.ofNat 0)) (hcl 1) 0 (Int32.ofNat 0)) (hcl 1) 6 (Int32.ofNat 0)) (hcl 2) 0 (Int32.ofNat 0)) (hcl 2) 6 (Int32.ofNat 0)) (hcl 3) 0 (Int32.ofNat 0)) (hcl 3) 6 (Int32.ofNat 0)) (by decide) (hF3).pI.pI.pI.pI.pI.pI.pI.pI
  have l5 := lp 5 (pI (pI (pI (pI (pI (pI (pI (pI (pI (pI s3 (hcl 0) 0 (Int32.ofNat 0)) (hcl 0) 6 (Int32.ofNat 0)) (hcl 1) 0 (Int32.ofNat 0)) (hcl 1) 6 (Int32.ofNat 0)) (hcl 2) 0 (Int32.ofNat 0)) (hcl 2) 6 (Int32.ofNat 0)) (hcl 3) 0 (Int32.ofNat 0)) (hcl 3) 6 (Int32.ofNat 0)) (hcl 4) 0 (Int32.ofNat 0)) (hcl 4) 6 (Int32.ofNat 0)) (by decide) (hF3).pI.pI.pI.pI.pI.pI.pI.pI.pI.pI
  have hF4 : FX s4 := by
    rw [← hs4]
    exact hF3.pI.pI.pI.pI.pI.pI.pI.pI.pI.pI.pI.pI
  have r32 := hF4.u 3 2 54 (by decide +kernel)
  have r33 := hF4.u 3 3 61 (by decide +kernel)
  have hM4 : FM pNw nO s3 s4 := by
    rw [← hs4]
    repeat' first | exact FM.rf | refine FM.tr ?_ (FM.pI (by unfold pNw; omega))
  refine ⟨pI (pI (pI s4 54 0 (Int32.ofNat 0)) 54 6 (Int32.ofNat 0)) 61 0 (Int32.ofNat 0), ?_, (hM3.tr hM4).tr (((FM.pI (by unfold pNw; omega)).tr (FM.pI (by unfold pNw; omega))).tr (FM.pI (by unfold pNw; omega))), ⟨fun i hi => ?_, fun i hi => ?_, ⟨0, ?_⟩, fun p hp => ?_, ?_, fun i hi => absurd hi (by show ¬ i < 0; omega)⟩, ?_⟩
  · have p1 : ev g (d + 3) mX10_begin 0 [some (.ref (3 : Nat)), some (.ref (107 : Nat)), none] [] s = ev g (d + 3) mX10_begin 10 [some (.ref (3 : Nat)), none, some (.int (Int32.ofNat 0))] [] s3 := by
      simp (disch := first | exact jm_lt0 | (apply jm_ltx; (repeat (first | exact jw_0 | apply jw_i | apply jw_r | apply jw_l)); omega) | omega | assumption | exact sa_3 | exact sa_4 | exact n32_inA sb_3 (by omega) (by omega) | exact n32_inA sb_4 (by omega) (by omega) | (refine n32_inA (by assumption) ?_ ?_ <;> omega) | exact bi01 | (rw [sa_3]; omega) | (rw [sa_4]; omega) | decide) only [sX10_begin_0, sX10_begin_1, sX10_begin_4, sX10_begin_5, sX10_begin_8, sX10_begin_9, kX10_begin_10_AAI, sX10_begin_11, sX10_begin_13, sX10_begin_16, sX10_begin_17, sX10_begin_18, sX10_begin_21, sX10_begin_24, sX10_begin_27, kX10_begin_30_ANI, sX10_begin_30, sX10_begin_31, sX10_begin_34, sX10_begin_37, sX10_begin_38, sX10_begin_41, sX10_begin_44, evK_n, evK_v, evK_x, gI_pI, gJ_pI, gR_pI, gI_pJ, gJ_pJ, gR_pJ, gI_pR, gJ_pR, gR_pR, if_true, if_false, not_true_eq_false, not_false_eq_true, and_true, true_and, and_false, false_and, and_self, or_true, true_or, or_false, false_or, or_self, ne_eq, Decidable.not_not, Nat.reduceEqDiff, Nat.reduceEqDiff, sa_3, sb_3, sa_4, sb_4, r4, hcp]
    have p2 : ev g (d + 3) mX10_begin 10 [some (.ref (3 : Nat)), none, some (.int (Int32.ofNat 0))] [] s3 = ev g (d + 3) mX10_begin 10 [some (.ref (3 : Nat)), none, some (.int (Int32.ofNat 6))] [] s4 := by
      rw [← hs4]
      exact l0.trans (l1.trans (l2.trans (l3.trans (l4.trans l5))))
    rw [p1, p2, sX10_begin_10]
    simp (disch := first | exact jm_lt0 | (apply jm_ltx; (repeat (first | exact jw_0 | apply jw_i | apply jw_r | apply jw_l)); omega) | omega | assumption | exact sa_3 | exact sa_54 | exact sa_61 | exact n32_inA sb_3 (by omega) (by omega) | exact n32_inA sb_54 (by omega) (by omega) | exact n32_inA sb_61 (by omega) (by omega) | (refine n32_inA (by assumption) ?_ ?_ <;> omega) | exact bi01 | (rw [sa_3]; omega) | (rw [sa_54]; omega) | (rw [sa_61]; omega) | decide) only [sX10_begin_0, sX10_begin_1, sX10_begin_4, sX10_begin_5, sX10_begin_8, sX10_begin_9, kX10_begin_10_AAI, sX10_begin_11, sX10_begin_13, sX10_begin_16, sX10_begin_17, sX10_begin_18, sX10_begin_21, sX10_begin_24, sX10_begin_27, kX10_begin_30_ANI, sX10_begin_30, sX10_begin_31, sX10_begin_34, sX10_begin_37, sX10_begin_38, sX10_begin_41, sX10_begin_44, sX5_clear_0, sX5_clear_1, sX5_clear_2, sX5_clear_5, sX5_clear_6, sX5_clear_7, sX5_clear_10, sX0_clear_0, sX0_clear_1, sX0_clear_2, sX0_clear_5, evK_n, evK_v, evK_x, gI_pI, gJ_pI, gR_pI, gI_pJ, gJ_pJ, gR_pJ, gI_pR, gJ_pR, gR_pR, n32_le, n32_lt, n32_add, n32_mul, n32_cl, if_true, if_false, not_true_eq_false, not_false_eq_true, and_true, true_and, and_false, false_and, and_self, or_true, true_or, or_false, false_or, or_self, ne_eq, Decidable.not_not, Nat.reduceEqDiff, Nat.reduceEqDiff, sa_3, sb_3, sa_54, sb_54, sa_61, sb_61, Nat.le_refl, r32, r33]
  · rw [gI_pI, if_neg (by omega), gI_pI, if_neg (by omega), gI_pI, if_neg (by omega), ← hs4]
    repeat rw [gI_pI, if_neg (by omega)]
    rw [e23 _ _ (by omega), f2.2.1 _ _ (by omega), e3 i hi, a1 i hi]
    rfl
  · rw [gI_pI, if_neg (by omega), gI_pI, if_neg (by omega), gI_pI, if_neg (by omega), ← hs4]
    repeat rw [gI_pI, if_neg (by omega)]
    rw [e23 _ _ (by omega), f3 i hi, e2.2.1 _ _ (by omega), a2 i hi]
    rfl
  · obtain ⟨d1, d2, d3, d4, d5⟩ := hDI3
    have hk : ∀ b j, b ≤ 52 → gI (pI (pI (pI s4 54 0 (Int32.ofNat 0)) 54 6 (Int32.ofNat 0)) 61 0 (Int32.ofNat 0)) b j = gI s3 b j := fun b j hb => by
      rw [gI_pI, if_neg (by omega), gI_pI, if_neg (by omega), gI_pI, if_neg (by omega), ← hs4]
      repeat rw [gI_pI, if_neg (by omega)]
    refine ⟨by rw [hk _ _ (by omega), d1], d2, by rw [hk _ _ (by omega), d3]; rfl, d4, fun v hv => ?_⟩
    obtain ⟨⟨c1, c2⟩, c3, c4⟩ := d5 v hv
    exact ⟨⟨by rw [hk _ _ (by omega), c1]; rfl, c2⟩, by rw [hk _ _ (by omega), c3]; rfl, c4⟩
  · refine ⟨?_, ?_, fun i hi => absurd hi (by show ¬ i < 0; omega), fun i hi => absurd hi (by show ¬ i < 0; omega)⟩
    · have : p = 0 ∨ p = 1 ∨ p = 2 ∨ p = 3 ∨ p = 4 ∨ p = 5 ∨ p = 6 := by omega
      show gI _ (hcl p) 0 = Int32.ofNat 0
      rw [← hs4]
      rcases this with rfl | rfl | rfl | rfl | rfl | rfl | rfl <;> simp [gI_pI, hcl]
    · have : p = 0 ∨ p = 1 ∨ p = 2 ∨ p = 3 ∨ p = 4 ∨ p = 5 ∨ p = 6 := by omega
      show gI _ (hcl p) 6 = Int32.ofNat 0
      rw [← hs4]
      rcases this with rfl | rfl | rfl | rfl | rfl | rfl | rfl <;> simp [gI_pI, hcl]
  · rw [gI_pI, if_pos ⟨rfl, rfl⟩]
    rfl
  · obtain ⟨d1, d2, d3, d4, d5⟩ := hDI3
    have hk : ∀ b j, b ≤ 52 → gI (pI (pI (pI s4 54 0 (Int32.ofNat 0)) 54 6 (Int32.ofNat 0)) 61 0 (Int32.ofNat 0)) b j = gI s3 b j := fun b j hb => by
      rw [gI_pI, if_neg (by omega), gI_pI, if_neg (by omega), gI_pI, if_neg (by omega), ← hs4]
      repeat rw [gI_pI, if_neg (by omega)]
    refine ⟨by rw [hk _ _ (by omega), d1], d2, by rw [hk _ _ (by omega), d3], d4, fun v hv => ?_⟩
    obtain ⟨⟨c1, c2⟩, c3, c4⟩ := d5 v hv
    exact ⟨⟨by rw [hk _ _ (by omega), c1], c2⟩, by rw [hk _ _ (by omega), c3], c4⟩
/-- what a new OFFICE changes, the model -/
def pNm (b j : Nat) : Prop := b = 436 ∨ b = 439 ∨ b = 440 ∨ b = 448 ∨ (b = 432 ∧ (j = 18 ∨ j = 19 ∨ j = 32 ∨ j = 62 ∨ j = 64))
theorem m_sets {o : OfT} {t : fm_S} (hF : FX t) (hM : OfM t o) (hn : o.2.2.1 ≤ 24) (hr : ∀ v, v < o.2.2.1 → o.2.2.2.1 v < 6 ∧ o.2.2.2.2 v ≤ 480) : ∃ t', ev g (d + 1) mX12_sets 0 [some (.ref (432 : Nat)), none] [] t = some (.inl none, t') ∧ FM pNm nO t t' ∧ MW t' (wO o) ∧ gI t' 432 62 = Int32.ofNat 0 ∧ gI t' 432 64 = Int32.ofNat 0 := by
  obtain ⟨b1, b2, b3, b4, b5⟩ := hM
  have r10 := hF.u 432 10 435 (by decide +kernel)
  have r11 := hF.u 432 11 436 (by decide +kernel)
  obtain ⟨t1, e1, e2, e3⟩ := m_copies (g := g) (d := d) (a := 435) (b := 436) (n := 12) (la := 12) (lb := 12) (t0 := t) (by decide +kernel) (by decide +kernel) (by decide +kernel) (by decide +kernel) (by decide) (by decide) (by decide) 12 0 t rfl FM.rf (fun j hj => by omega)
  have hF1 := e2.fx hF
  generalize hs2 : pI (pI t1 432 18 (Int32.ofNat (o.1 7))) 432 19 (Int32.ofNat o.2.2.1) = t2
  have hF2 : FX t2 := by rw [← hs2]; exact hF1.pI.pI
  obtain ⟨t3, f1, f2, f3⟩ := m_copies (g := g) (d := d) (a := 437) (b := 439) (n := 24) (la := 24) (lb := 24) (t0 := t2) (by decide +kernel) (by decide +kernel) (by decide +kernel) (by decide +kernel) (by decide) (by decide) (by decide) 24 0 t2 rfl FM.rf (fun j hj => by omega)
  have hF3 := f2.fx hF2
  obtain ⟨t4, y1, y2, y3⟩ := m_copies (g := g) (d := d) (a := 438) (b := 440) (n := 24) (la := 24) (lb := 24) (t0 := t3) (by decide +kernel) (by decide +kernel) (by decide +kernel) (by decide +kernel) (by decide) (by decide) (by decide) 24 0 t3 rfl FM.rf (fun j hj => by omega)
  have hF4 := y2.fx hF3
  have r27 := hF4.u 432 27 448 (by decide +kernel)
  generalize hs5 : pI (pI (pI (pI (pI (pI (pI t4 448 0 (Int32.ofNat 0)) 448 1 (Int32.ofNat 0)) 448 2 (Int32.ofNat 0)) 448 3 (Int32.ofNat 0)) 448 4 (Int32.ofNat 0)) 448 5 (Int32.ofNat 0)) 448 6 (Int32.ofNat 0) = t5
  have lp : ∀ (i : Nat) (s : fm_S), i < 7 → FX s → ev g (d + 1) mX12_sets 60 [some (.ref (432 : Nat)), some (.int (Int32.ofNat i))] [] s = ev g (d + 1) mX12_sets 60 [some (.ref (432 : Nat)), some (.int (Int32.ofNat (i + 1)))] [] (pI s 448 i (Int32.ofNat 0)) := fun i s hi hFs => by
    have r := hFs.u 432 27 448 (by decide +kernel)
    have g1 : ¬ 6 < i := by omega
    rw [sX12_sets_60]
    simp (disch := first | exact jm_lt0 | (apply jm_ltx; (repeat (first | exact jw_0 | apply jw_i | apply jw_r | apply jw_l)); omega) | omega | assumption | exact sa_432 | exact sa_448 | exact n32_inA sb_432 (by omega) (by omega) | exact n32_inA sb_448 (by omega) (by omega) | (refine n32_inA (by assumption) ?_ ?_ <;> omega) | exact bi01 | (rw [sa_432]; omega) | (rw [sa_448]; omega) | decide) only [sX12_sets_0, sX12_sets_1, sX12_sets_2, sX12_sets_5, sX12_sets_6, sX12_sets_9, sX12_sets_11, sX12_sets_14, sX12_sets_15, sX12_sets_16, sX12_sets_19, sX12_sets_22, sX12_sets_23, sX12_sets_24, sX12_sets_27, sX12_sets_30, sX12_sets_31, sX12_sets_32, sX12_sets_35, sX12_sets_36, sX12_sets_39, sX12_sets_41, sX12_sets_44, sX12_sets_45, sX12_sets_46, sX12_sets_49, sX12_sets_50, sX12_sets_53, sX12_sets_55, sX12_sets_58, sX12_sets_59, sX12_sets_61, sX12_sets_63, sX12_sets_66, sX12_sets_67, sX12_sets_70, sX12_sets_71, sX12_sets_72, sX12_sets_73, sX12_sets_76, kX12_sets_79_AI, sX12_sets_79, sX12_sets_80, sX12_sets_81, sX12_sets_84, sX12_sets_85, sX12_sets_86, sX12_sets_89, sX12_sets_90, sX12_sets_91, sX12_sets_94, evK_n, evK_v, evK_x, gI_pI, gJ_pI, gR_pI, gI_pJ, gJ_pJ, gR_pJ, gI_pR, gJ_pR, gR_pR, n32_le, n32_lt, n32_add, n32_mul, n32_cl, if_true, if_false, not_true_eq_false, not_false_eq_true, and_true, true_and, and_false, false_and, and_self, or_true, true_or, or_false, false_or, or_self, ne_eq, Decidable.not_not, Nat.reduceEqDiff, Nat.reduceEqDiff, sa_432, sb_432, sa_448, sb_448, r, g1]
  have l0 := lp 0 (t4) (by decide) hF4
  have l1 := lp 1 (pI t4 448 0 (Int32.ofNat 0)) (by decide) (hF4).pI
  have l2 := lp 2 (pI (pI t4 448 0 (Int32.ofNat 0)) 448 1 (Int32.ofNat 0)) (by decide) (hF4).pI.pI
  have l3 := lp 3 (pI (pI (pI t4 448 0 (Int32.ofNat 0)) 448 1 (Int32.ofNat 0)) 448 2 (Int32.ofNat 0)) (by decide) (hF4).pI.pI.pI
  have l4 := lp 4 (pI (pI (pI (pI t4 448 0 (Int32.ofNat 0)) 448 1 (Int32.ofNat 0)) 448 2 (Int32.ofNat 0)) 448 3 (Int32.ofNat 0)) (by decide) (hF4).pI.pI.pI.pI
  have l5 := lp 5 (pI (pI (pI (pI (pI t4 448 0 (Int32.ofNat 0)) 448 1 (Int32.ofNat 0)) 448 2 (Int32.ofNat 0)) 448 3 (Int32.ofNat 0)) 448 4 (Int32.ofNat 0)) (by decide) (hF4).pI.pI.pI.pI.pI
  have l6 := lp 6 (pI (pI (pI (pI (pI (pI t4 448 0 (Int32.ofNat 0)) 448 1 (Int32.ofNat 0)) 448 2 (Int32.ofNat 0)) 448 3 (Int32.ofNat 0)) 448 4 (Int32.ofNat 0)) 448 5 (Int32.ofNat 0)) (by decide) (hF4).pI.pI.pI.pI.pI.pI
  have hM5 : FM pNm nO t4 t5 := by
    rw [← hs5]
    repeat' first | exact FM.rf | refine FM.tr ?_ (FM.pI (by unfold pNm; omega))
  have hM2 : FM pNm nO t1 t2 := by
    rw [← hs2]
    exact (FM.pI (by unfold pNm; omega)).tr (FM.pI (by unfold pNm; omega))
  have hM04 : FM pNm nO t t4 := (((e2.mono (fun b j q => by unfold pNm; omega) (fun _ _ q => q)).tr hM2).tr (f2.mono (fun b j q => by unfold pNm; omega) (fun _ _ q => q))).tr (y2.mono (fun b j q => by unfold pNm; omega) (fun _ _ q => q))
  have gk : ∀ b j, b ≠ 448 → ¬ (b = 432 ∧ (j = 32 ∨ j = 62 ∨ j = 64)) → gI (pI (pI (pI t5 432 32 (Int32.ofNat 0)) 432 62 (Int32.ofNat 0)) 432 64 (Int32.ofNat 0)) b j = gI t4 b j := fun b j h1 h2 => by
    rw [gI_pI, if_neg (by omega), gI_pI, if_neg (by omega), gI_pI, if_neg (by omega), ← hs5]
    repeat rw [gI_pI, if_neg (by omega)]
  have g436 : ∀ i, i < 12 → gI t4 436 i = gI t 435 i := fun i hi => by
    rw [y2.2.1 _ _ (by omega), f2.2.1 _ _ (by omega), ← hs2, gI_pI, if_neg (by omega), gI_pI, if_neg (by omega), e3 i hi]
  have g2 : ∀ b j, b = 437 ∨ b = 438 → gI t2 b j = gI t b j := fun b j hb => by
    rw [← hs2, gI_pI, if_neg (by omega), gI_pI, if_neg (by omega), e2.2.1 _ _ (by omega)]
  have g432 : ∀ j, gI t4 432 j = gI t2 432 j := fun j => by rw [y2.2.1 _ _ (by omega), f2.2.1 _ _ (by omega)]
  refine ⟨pI (pI (pI t5 432 32 (Int32.ofNat 0)) 432 62 (Int32.ofNat 0)) 432 64 (Int32.ofNat 0), ?_, (hM04.tr hM5).tr (((FM.pI (by unfold pNm; omega)).tr (FM.pI (by unfold pNm; omega))).tr (FM.pI (by unfold pNm; omega))), ⟨fun i hi => ?_, fun i hi => ?_, ?_, ⟨?_, hn, fun v hv => ?_⟩, fun p hp => ?_, ?_, fun i hi => absurd hi (by show ¬ i < 0; omega)⟩, ?_, ?_⟩
  · have c1 : gI t1 432 16 = Int32.ofNat (o.1 7) := by rw [e2.2.1 _ _ (by omega), b3]
    have c2 : gI t1 432 17 = Int32.ofNat o.2.2.1 := by rw [e2.2.1 _ _ (by omega), b4]
    have r12 := hF2.u 432 12 437 (by decide +kernel)
    have r14 := hF2.u 432 14 439 (by decide +kernel)
    have r13 := hF3.u 432 13 438 (by decide +kernel)
    have r15 := hF3.u 432 15 440 (by decide +kernel)
    have p1 : ev g (d + 1) mX12_sets 0 [some (.ref (432 : Nat)), none] [] t = ev g (d + 1) mX12_sets 60 [some (.ref (432 : Nat)), some (.int (Int32.ofNat 0))] [] t4 := by
      have q1 : ev g (d + 1) mX12_sets 0 [some (.ref (432 : Nat)), none] [] t = ev g (d + 1) mX12_sets 30 [some (.ref (432 : Nat)), none] [] t2 := by
        rw [← hs2]
        simp (disch := first | exact jm_lt0 | (apply jm_ltx; (repeat (first | exact jw_0 | apply jw_i | apply jw_r | apply jw_l)); omega) | omega | assumption | exact sa_432 | exact sa_435 | exact sa_436 | exact n32_inA sb_432 (by omega) (by omega) | exact n32_inA sb_435 (by omega) (by omega) | exact n32_inA sb_436 (by omega) (by omega) | (refine n32_inA (by assumption) ?_ ?_ <;> omega) | exact bi01 | (rw [sa_432]; omega) | (rw [sa_435]; omega) | (rw [sa_436]; omega) | decide) only [sX12_sets_0, sX12_sets_1, sX12_sets_2, sX12_sets_5, sX12_sets_6, sX12_sets_9, sX12_sets_11, sX12_sets_14, sX12_sets_15, sX12_sets_16, sX12_sets_19, sX12_sets_22, sX12_sets_23, sX12_sets_24, sX12_sets_27, sX12_sets_31, sX12_sets_32, sX12_sets_35, sX12_sets_36, sX12_sets_39, sX12_sets_41, sX12_sets_44, sX12_sets_45, sX12_sets_46, sX12_sets_49, sX12_sets_50, sX12_sets_53, sX12_sets_55, sX12_sets_58, sX12_sets_59, sX12_sets_61, sX12_sets_63, sX12_sets_66, sX12_sets_67, sX12_sets_70, sX12_sets_71, sX12_sets_72, sX12_sets_73, sX12_sets_76, kX12_sets_79_AI, sX12_sets_79, sX12_sets_80, sX12_sets_81, sX12_sets_84, sX12_sets_85, sX12_sets_86, sX12_sets_89, sX12_sets_90, sX12_sets_91, sX12_sets_94, sX12_copies_0, sX12_copies_1, kX12_copies_3_AAAII, sX12_copies_5, sX12_copies_6, sX12_copies_9, sX12_copies_10, sX12_copies_12, sX12_copies_13, sX12_copies_15, sX12_copies_16, sX12_copies_17, sX12_copies_20, kX12_copies_23_NAAII, sX12_copies_23, evK_n, evK_v, evK_x, gI_pI, gJ_pI, gR_pI, gI_pJ, gJ_pJ, gR_pJ, gI_pR, gJ_pR, gR_pR, n32_le, n32_lt, n32_add, n32_mul, n32_cl, if_true, if_false, not_true_eq_false, not_false_eq_true, and_true, true_and, and_false, false_and, and_self, or_true, true_or, or_false, false_or, or_self, ne_eq, Decidable.not_not, Nat.reduceEqDiff, Nat.reduceEqDiff, sa_432, sb_432, sa_435, sb_435, sa_436, sb_436, r10, r11, e1, c1, c2, show ¬ ((17 : Nat) = 18) by decide]
      rw [q1]
      simp (disch := first | exact jm_lt0 | (apply jm_ltx; (repeat (first | exact jw_0 | apply jw_i | apply jw_r | apply jw_l)); omega) | omega | assumption | exact sa_432 | exact sa_437 | exact sa_438 | exact sa_439 | exact sa_440 | exact n32_inA sb_432 (by omega) (by omega) | exact n32_inA sb_437 (by omega) (by omega) | exact n32_inA sb_438 (by omega) (by omega) | exact n32_inA sb_439 (by omega) (by omega) | exact n32_inA sb_440 (by omega) (by omega) | (refine n32_inA (by assumption) ?_ ?_ <;> omega) | exact bi01 | (rw [sa_432]; omega) | (rw [sa_437]; omega) | (rw [sa_438]; omega) | (rw [sa_439]; omega) | (rw [sa_440]; omega) | decide) only [sX12_sets_0, sX12_sets_1, sX12_sets_2, sX12_sets_5, sX12_sets_6, sX12_sets_9, sX12_sets_11, sX12_sets_14, sX12_sets_15, sX12_sets_16, sX12_sets_19, sX12_sets_22, sX12_sets_23, sX12_sets_24, sX12_sets_27, sX12_sets_30, sX12_sets_31, sX12_sets_32, sX12_sets_35, sX12_sets_36, sX12_sets_39, sX12_sets_41, sX12_sets_44, sX12_sets_45, sX12_sets_46, sX12_sets_49, sX12_sets_50, sX12_sets_53, sX12_sets_55, sX12_sets_58, sX12_sets_59, sX12_sets_61, sX12_sets_63, sX12_sets_66, sX12_sets_67, sX12_sets_70, sX12_sets_71, sX12_sets_72, sX12_sets_73, sX12_sets_76, kX12_sets_79_AI, sX12_sets_79, sX12_sets_80, sX12_sets_81, sX12_sets_84, sX12_sets_85, sX12_sets_86, sX12_sets_89, sX12_sets_90, sX12_sets_91, sX12_sets_94, sX12_copies_0, sX12_copies_1, kX12_copies_3_AAAII, sX12_copies_5, sX12_copies_6, sX12_copies_9, sX12_copies_10, sX12_copies_12, sX12_copies_13, sX12_copies_15, sX12_copies_16, sX12_copies_17, sX12_copies_20, kX12_copies_23_NAAII, sX12_copies_23, evK_n, evK_v, evK_x, gI_pI, gJ_pI, gR_pI, gI_pJ, gJ_pJ, gR_pJ, gI_pR, gJ_pR, gR_pR, n32_le, n32_lt, n32_add, n32_mul, n32_cl, if_true, if_false, not_true_eq_false, not_false_eq_true, and_true, true_and, and_false, false_and, and_self, or_true, true_or, or_false, false_or, or_self, ne_eq, Decidable.not_not, Nat.reduceEqDiff, Nat.reduceEqDiff, sa_432, sb_432, sa_437, sb_437, sa_438, sb_438, sa_439, sb_439, sa_440, sb_440, r12, r14, f1, r13, r15, y1]
    have p2 : ev g (d + 1) mX12_sets 60 [some (.ref (432 : Nat)), some (.int (Int32.ofNat 0))] [] t4 = ev g (d + 1) mX12_sets 60 [some (.ref (432 : Nat)), some (.int (Int32.ofNat 7))] [] t5 := by
      rw [← hs5]
      exact l0.trans (l1.trans (l2.trans (l3.trans (l4.trans (l5.trans l6)))))
    rw [p1, p2, sX12_sets_60]
    simp (disch := first | exact jm_lt0 | (apply jm_ltx; (repeat (first | exact jw_0 | apply jw_i | apply jw_r | apply jw_l)); omega) | omega | assumption | exact sa_432 | exact n32_inA sb_432 (by omega) (by omega) | (refine n32_inA (by assumption) ?_ ?_ <;> omega) | exact bi01 | (rw [sa_432]; omega) | decide) only [sX12_sets_0, sX12_sets_1, sX12_sets_2, sX12_sets_5, sX12_sets_6, sX12_sets_9, sX12_sets_11, sX12_sets_14, sX12_sets_15, sX12_sets_16, sX12_sets_19, sX12_sets_22, sX12_sets_23, sX12_sets_24, sX12_sets_27, sX12_sets_30, sX12_sets_31, sX12_sets_32, sX12_sets_35, sX12_sets_36, sX12_sets_39, sX12_sets_41, sX12_sets_44, sX12_sets_45, sX12_sets_46, sX12_sets_49, sX12_sets_50, sX12_sets_53, sX12_sets_55, sX12_sets_58, sX12_sets_59, sX12_sets_61, sX12_sets_63, sX12_sets_66, sX12_sets_67, sX12_sets_70, sX12_sets_71, sX12_sets_72, sX12_sets_73, sX12_sets_76, kX12_sets_79_AI, sX12_sets_79, sX12_sets_80, sX12_sets_81, sX12_sets_84, sX12_sets_85, sX12_sets_86, sX12_sets_89, sX12_sets_90, sX12_sets_91, sX12_sets_94, evK_n, evK_v, evK_x, gI_pI, gJ_pI, gR_pI, gI_pJ, gJ_pJ, gR_pJ, gI_pR, gJ_pR, gR_pR, n32_le, n32_lt, n32_add, n32_mul, n32_cl, if_true, if_false, not_true_eq_false, not_false_eq_true, and_true, true_and, and_false, false_and, and_self, or_true, true_or, or_false, false_or, or_self, ne_eq, Decidable.not_not, Nat.reduceEqDiff, Nat.reduceEqDiff, sa_432, sb_432, show ((6 : Nat) < 7) = True from eq_true (by decide)]
  · rw [gk _ _ (by omega) (by omega), g436 _ (by omega), b1 i hi]
    rfl
  · rw [gk _ _ (by omega) (by omega), g436 _ (by omega), b2 i hi]
    rfl
  · rw [gk _ _ (by omega) (by omega), g432, ← hs2, gI_pI, if_neg (by omega), gI_pI, if_pos ⟨rfl, rfl⟩]
    rfl
  · rw [gk _ _ (by omega) (by omega), g432, ← hs2, gI_pI, if_pos ⟨rfl, rfl⟩]
    rfl
  · have hv' : v < o.2.2.1 := hv
    obtain ⟨c1, c2⟩ := b5 v hv'
    refine ⟨⟨?_, (hr v hv').1⟩, ?_, (hr v hv').2⟩
    · rw [gk _ _ (by omega) (by omega), y2.2.1 _ _ (by omega), f3 v (by omega), g2 _ _ (by omega), c1]
      rfl
    · rw [gk _ _ (by omega) (by omega), y3 v (by omega), f2.2.1 _ _ (by omega), g2 _ _ (by omega), c2]
      rfl
  · refine ⟨?_, fun i hi => absurd hi (by show ¬ i < 0; omega), fun i hi => absurd hi (by show ¬ i < 0; omega)⟩
    have : p = 0 ∨ p = 1 ∨ p = 2 ∨ p = 3 ∨ p = 4 ∨ p = 5 ∨ p = 6 := by omega
    show gI _ 448 p = Int32.ofNat 0
    rw [← hs5]
    rcases this with rfl | rfl | rfl | rfl | rfl | rfl | rfl <;> simp [gI_pI]
  · show gI _ 432 32 = Int32.ofNat 0
    simp [gI_pI]
  · simp [gI_pI]
  · simp [gI_pI]
end OS2
