/-! the class: the ledger -/
theorem c7_drunkFrom {g : fm_g} {d p : Nat} {s : fm_S} (hF : FX s) (hp : p < 6) : ev g d mX7_drunkFrom 0 [some (.ref (307 : Nat)), some (.int (Int32.ofNat p))] [] s = some (.inl (some (.long (gJ s 314 p))), s) := by
  have r4 := hF.u 307 4 314 (by decide +kernel)
  have n1 : ¬ 6 ≤ p := by omega
  simp (disch := first | exact jm_lt0 | (apply jm_ltx; (repeat (first | exact jw_0 | apply jw_i | apply jw_r | apply jw_l)); omega) | omega | assumption | exact sa_307 | exact sa_314 | exact n32_inA sb_307 (by omega) (by omega) | exact n32_inA sb_314 (by omega) (by omega) | (refine n32_inA (by assumption) ?_ ?_ <;> omega) | exact bi01 | (rw [sa_307]; omega) | (rw [sa_314]; omega) | decide) only [sX7_drunkFrom_0, sX7_drunkFrom_1, sX7_drunkFrom_4, sX7_drunkFrom_5, sX7_drunkFrom_7, sX7_drunkFrom_10, sX7_drunkFrom_11, sX7_drunkFrom_14, sX7_drunkFrom_15, sX7_drunkFrom_16, kX7_drunkFrom_19_AI, sX7_drunkFrom_19, kX7_drunkFrom_20_AI, sX7_drunkFrom_20, evK_n, evK_v, evK_x, gI_pI, gJ_pI, gR_pI, gI_pJ, gJ_pJ, gR_pJ, gI_pR, gJ_pR, gR_pR, n32_le, n32_lt, n32_add, n32_mul, n32_cl, if_true, if_false, not_true_eq_false, not_false_eq_true, and_true, true_and, and_false, false_and, and_self, or_true, true_or, or_false, false_or, or_self, ne_eq, Decidable.not_not, Nat.reduceEqDiff, Nat.reduceEqDiff, sa_307, sb_307, sa_314, sb_314, n32_lt0, n1, hp, r4]
def qK (b j : Nat) : Prop := b = 376 ∨ (b = 306 ∧ (j = 9 ∨ j = 10))
theorem c6_kcLoop {g : fm_g} {d : Nat} {s0 : fm_S} (hF : FX s0) : ∀ (m i : Nat) (s : fm_S), i + m = 6 → FM nO qK s0 s → (∀ p, p < i → gJ s 376 p = gJ s0 314 p) → ∃ s', ev g (d + 1) mX6_keepCounts 2 [some (.ref (306 : Nat)), some (.int (Int32.ofNat i))] [] s = some (.inl none, s') ∧ FM nO qK s0 s' ∧ (∀ p, p < 6 → gJ s' 376 p = gJ s0 314 p) ∧ gJ s' 306 9 = gJ s0 307 6 ∧ gJ s' 306 10 = gJ s0 307 7 := by
  intro m
  induction m with
  | zero =>
    intro i s hi hM hp
    have hFs := hM.fx hF
    have r0 := hFs.u 306 0 307 (by decide +kernel)
    have e6 : gJ s 307 6 = gJ s0 307 6 := hM.2.2 _ _ (by unfold qK; omega)
    have e7 : gJ s 307 7 = gJ s0 307 7 := hM.2.2 _ _ (by unfold qK; omega)
    refine ⟨pJ (pJ s 306 9 (gJ s0 307 6)) 306 10 (gJ s0 307 7), ?_, (hM.tr (FM.pJ (by unfold qK; omega))).tr (FM.pJ (by unfold qK; omega)), fun p h => ?_, by simp [gJ_pJ], by simp [gJ_pJ]⟩
    · rw [sX6_keepCounts_2]
      simp (disch := first | exact jm_lt0 | (apply jm_ltx; (repeat (first | exact jw_0 | apply jw_i | apply jw_r | apply jw_l)); omega) | omega | assumption | exact sa_306 | exact sa_307 | exact n32_inA sb_306 (by omega) (by omega) | exact n32_inA sb_307 (by omega) (by omega) | (refine n32_inA (by assumption) ?_ ?_ <;> omega) | exact bi01 | (rw [sa_306]; omega) | (rw [sa_307]; omega) | decide) only [sX6_keepCounts_0, sX6_keepCounts_1, sX6_keepCounts_3, sX6_keepCounts_5, sX6_keepCounts_8, sX6_keepCounts_9, sX6_keepCounts_12, sX6_keepCounts_13, sX6_keepCounts_14, sX6_keepCounts_17, sX6_keepCounts_18, sX6_keepCounts_21, sX6_keepCounts_22, sX6_keepCounts_25, kX6_keepCounts_28_AI, sX6_keepCounts_28, sX6_keepCounts_29, sX6_keepCounts_30, sX6_keepCounts_33, sX6_keepCounts_36, sX6_keepCounts_39, sX6_keepCounts_40, sX6_keepCounts_41, sX6_keepCounts_44, sX6_keepCounts_47, sX6_keepCounts_50, evK_n, evK_v, evK_x, gI_pI, gJ_pI, gR_pI, gI_pJ, gJ_pJ, gR_pJ, gI_pR, gJ_pR, gR_pR, n32_le, n32_lt, n32_add, n32_mul, n32_cl, if_true, if_false, not_true_eq_false, not_false_eq_true, and_true, true_and, and_false, false_and, and_self, or_true, true_or, or_false, false_or, or_self, ne_eq, Decidable.not_not, Nat.reduceEqDiff, Nat.reduceEqDiff, sa_306, sb_306, sa_307, sb_307, r0, e6, e7]
      rw [if_pos (by omega)]
    · rw [gJ_pJ, if_neg (by omega), gJ_pJ, if_neg (by omega), hp p (by omega)]
  | succ m ih =>
    intro i s hi hM hp
    have hFs := hM.fx hF
    have r0 := hFs.u 306 0 307 (by decide +kernel)
    have r8 := hFs.u 306 8 376 (by decide +kernel)
    have e1 := c7_drunkFrom (g := g) (d := d) hFs (show i < 6 by omega)
    have e2 : gJ s 314 i = gJ s0 314 i := hM.2.2 _ _ (by unfold qK; omega)
    rw [e2] at e1
    have g1 : ¬ 6 ≤ i := by omega
    obtain ⟨s', f1, f2⟩ := ih (i + 1) (pJ s 376 i (gJ s0 314 i)) (by omega) (hM.tr (FM.pJ (Or.inl rfl))) (fun p h => by
      rw [gJ_pJ]
      by_cases c : p = i
      · rw [if_pos ⟨rfl, c⟩, c]
      · rw [if_neg (by rintro ⟨-, h⟩; exact c h), hp p (by omega)])
    refine ⟨s', ?_, f2⟩
    rw [sX6_keepCounts_2]
    simp (disch := first | exact jm_lt0 | (apply jm_ltx; (repeat (first | exact jw_0 | apply jw_i | apply jw_r | apply jw_l)); omega) | omega | assumption | exact sa_306 | exact sa_307 | exact sa_376 | exact n32_inA sb_306 (by omega) (by omega) | exact n32_inA sb_307 (by omega) (by omega) | exact n32_inA sb_376 (by omega) (by omega) | (refine n32_inA (by assumption) ?_ ?_ <;> omega) | exact bi01 | (rw [sa_306]; omega) | (rw [sa_307]; omega) | (rw [sa_376]; omega) | decide) only [sX6_keepCounts_0, sX6_keepCounts_1, sX6_keepCounts_3, sX6_keepCounts_5, sX6_keepCounts_8, sX6_keepCounts_9, sX6_keepCounts_12, sX6_keepCounts_13, sX6_keepCounts_14, sX6_keepCounts_17, sX6_keepCounts_18, sX6_keepCounts_21, sX6_keepCounts_22, sX6_keepCounts_25, kX6_keepCounts_28_AI, sX6_keepCounts_28, sX6_keepCounts_29, sX6_keepCounts_30, sX6_keepCounts_33, sX6_keepCounts_36, sX6_keepCounts_39, sX6_keepCounts_40, sX6_keepCounts_41, sX6_keepCounts_44, sX6_keepCounts_47, sX6_keepCounts_50, evK_n, evK_v, evK_x, gI_pI, gJ_pI, gR_pI, gI_pJ, gJ_pJ, gR_pJ, gI_pR, gJ_pR, gR_pR, n32_le, n32_lt, n32_add, n32_mul, n32_cl, if_true, if_false, not_true_eq_false, not_false_eq_true, and_true, true_and, and_false, false_and, and_self, or_true, true_or, or_false, false_or, or_self, ne_eq, Decidable.not_not, Nat.reduceEqDiff, Nat.reduceEqDiff, sa_306, sb_306, sa_307, sb_307, sa_376, sb_376, g1, r0, r8, e1]
    exact f1
theorem c6_keepCounts {g : fm_g} {d : Nat} {s : fm_S} (hF : FX s) : ∃ s', ev g (d + 1) mX6_keepCounts 0 [some (.ref (306 : Nat)), none] [] s = some (.inl none, s') ∧ FM nO qK s s' ∧ (∀ p, p < 6 → gJ s' 376 p = gJ s 314 p) ∧ gJ s' 306 9 = gJ s 307 6 ∧ gJ s' 306 10 = gJ s 307 7 := by
  obtain ⟨s', f1, f2⟩ := c6_kcLoop (g := g) (d := d) hF 6 0 s (by omega) FM.rf (fun p h => by omega)
  refine ⟨s', ?_, f2⟩
  rw [sX6_keepCounts_0, sX6_keepCounts_1]
  exact f1
/-- what the ledger knows of the world as it is -/
def ASx (s : fm_S) (w : WD) : Prop := (∀ v, v < wn w → FR s w v) ∧ (∀ p, p < 6 → gJ s 376 p = Int64.ofNat ((zGo w (opt w 0 0) (wn w)).2.1 p)) ∧ gJ s 306 9 = Int64.ofNat (zGo w (opt w 0 0) (wn w)).2.2.1 ∧ gJ s 306 10 = Int64.ofNat (zGo w (opt w 0 0) (wn w)).2.2.2
def gDs (w : WD) (v : Nat) : Nat → Nat := (gFit w (opt w 0 0) v (zGb w (opt w 0 0) v)).1
def GR (s : fm_S) (w : WD) (v : Nat) : Prop := gJ s 427 v = Int64.ofNat (sumN (gDs w v) NS) ∧ (∀ x, x < 6 → gJ s (378 + v) x = Int64.ofNat (fctS w v x (gDs w v))) ∧ ∀ x, x < 4 → gJ s (403 + v) x = Int64.ofNat (wyS w (gDs w v) x)
def GVx (s : fm_S) (w : WD) : Prop := (∀ v, v < wn w → GR s w v) ∧ gJ s 306 15 = Int64.ofNat (sumN (zGb w (opt w 0 0) (wn w)).1 NS)
def LG (s : fm_S) (w : WD) (ver : Nat) : Prop := gI s 306 1 = Int32.ofNat ver ∧ (1 ≤ ver ∧ ver < 100000) ∧ (∀ i, i < 252 → ∃ x, x ≤ ver ∧ gI s 322 i = Int32.ofNat x) ∧ (∃ x, x ≤ ver ∧ gI s 306 11 = Int32.ofNat x) ∧ (∀ ch de, cOK ch de → gI s 322 (ch * 36 + de) = Int32.ofNat ver → gJ s 323 (ch * 36 + de) = Int64.ofNat (endS w (opt w ch de)) ∧ gJ s 324 (ch * 36 + de) = Int64.ofNat (costS w (opt w ch de))) ∧ (gI s 322 0 = Int32.ofNat ver → ASx s w) ∧ (gI s 306 11 = Int32.ofNat ver → GVx s w)
theorem LG.forget {s : fm_S} {w w' : WD} {ver : Nat} (h : LG s w ver) (hv : ver + 1 < 100000) : LG (pI s 306 1 (Int32.ofNat (ver + 1))) w' (ver + 1) := by
  obtain ⟨h1, h2, h3, ⟨y, h4, h5⟩, -⟩ := h
  have key : ∀ x, x ≤ ver → ¬ Int32.ofNat x = Int32.ofNat (ver + 1) := fun x hx => by
    rw [n32_eq (by omega) (by omega)]
    omega
  refine ⟨by simp [gI_pI], by omega, fun i hi => ?_, ⟨y, by omega, by rw [gI_pI, if_neg (by omega), h5]⟩, fun ch de hc he => ?_, fun he => ?_, fun he => ?_⟩
  · obtain ⟨x, hx, h6⟩ := h3 i hi
    exact ⟨x, by omega, by rw [gI_pI, if_neg (by omega), h6]⟩
  · obtain ⟨x, hx, h6⟩ := h3 (ch * 36 + de) (by unfold cOK at hc; omega)
    rw [gI_pI, if_neg (by omega), h6] at he
    exact absurd he (key x hx)
  · obtain ⟨x, hx, h6⟩ := h3 0 (by omega)
    rw [gI_pI, if_neg (by omega), h6] at he
    exact absurd he (key x hx)
  · rw [gI_pI, if_neg (by omega), h5] at he
    exact absurd he (key y h4)
/-- the ledger's own cells are as they were -/
theorem LG.of {s s' : fm_S} {w : WD} {ver : Nat} (h : LG s w ver) (hw : wOK w) (e1 : ∀ j, gI s' 306 j = gI s 306 j) (e2 : ∀ j, gI s' 322 j = gI s 322 j) (e3 : ∀ j, gI s' 375 j = gI s 375 j) (e4 : ∀ b j, (323 ≤ b ∧ b < 428) ∨ b = 306 → gJ s' b j = gJ s b j) : LG s' w ver := by
  obtain ⟨h1, h2, h3, h4, h5, h6, h7⟩ := h
  have hn : wn w ≤ 24 := hw.2.2.1
  refine ⟨by rw [e1, h1], h2, fun i hi => by rw [e2]; exact h3 i hi, by rw [e1]; exact h4, fun ch de hc he => ?_, fun he => ?_, fun he => ?_⟩
  · rw [e2] at he
    rw [e4 _ _ (Or.inl (by omega)), e4 _ _ (Or.inl (by omega))]
    exact h5 ch de hc he
  · rw [e2] at he
    obtain ⟨y1, y2, y3, y4⟩ := h6 he
    refine ⟨fun v hv => ?_, fun p hp => by rw [e4 _ _ (Or.inl (by omega)), y2 p hp], by rw [e4 _ _ (Or.inr rfl), y3], by rw [e4 _ _ (Or.inr rfl), y4]⟩
    obtain ⟨z1, z2, z3⟩ := y1 v hv
    exact ⟨fun x hx => by rw [e4 _ _ (Or.inl (by omega)), z1 x hx], fun x hx => by rw [e4 _ _ (Or.inl (by omega)), z2 x hx], by rw [e3, z3]⟩
  · rw [e1] at he
    obtain ⟨y1, y2⟩ := h7 he
    refine ⟨fun v hv => ?_, by rw [e4 _ _ (Or.inr rfl), y2]⟩
    obtain ⟨z1, z2, z3⟩ := y1 v hv
    exact ⟨by rw [e4 _ _ (Or.inl (by omega)), z1], fun x hx => by rw [e4 _ _ (Or.inl (by omega)), z2 x hx], fun x hx => by rw [e4 _ _ (Or.inl (by omega)), z3 x hx]⟩
/-- what a reckoning may touch -/
def p9 (b j : Nat) : Prop := (306 ≤ b ∧ b < 428) ∨ HSK b j
def q9 (b _j : Nat) : Prop := 306 ≤ b ∧ b < 428
def r9 (b j : Nat) : Prop := rsw b j ∨ b = 315
theorem pG_9 {b j : Nat} (h : pG b j) : p9 b j := by
  rcases h with (h | h) | h
  · unfold pO at h
    unfold p9
    rcases h with h | h | h | h | h | h | h | h
    · exact Or.inl (by omega)
    · exact Or.inl (by omega)
    · exact Or.inl (by omega)
    · exact Or.inl (by omega)
    · exact Or.inl (by omega)
    · exact Or.inl (by omega)
    · exact Or.inl (by omega)
    · exact Or.inr h
  · unfold pE at h; exact Or.inl (by omega)
  · exact Or.inl (by omega)
theorem qG_9 {b j : Nat} (h : qG b j) : q9 b j := by unfold qG qO at h; unfold q9; omega
theorem p9_TC {b j : Nat} (h : p9 b j) : TC b j := by
  unfold p9 HSK at h
  unfold TC
  omega
theorem RM.fx9 {s s' : fm_S} (x : RM p9 q9 r9 s s') (hF : FX s) : FX s' := x.fx hF (fun _ _ h => h)
/-- what the class's reckoning keeps of its own -/
def OB (s : fm_S) : Prop := TB s ∧ ∃ D, OS s D
theorem slot_inj {ch de ch' de' : Nat} (h : cOK ch de) (h' : cOK ch' de') (e : ch * 36 + de = ch' * 36 + de') : ch = ch' ∧ de = de' := by
  unfold cOK at h h'
  omega
