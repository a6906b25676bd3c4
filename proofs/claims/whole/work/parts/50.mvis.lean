/-! the model: what may be asked, its VISITS -/
theorem m_within {g : fm_g} {d : Nat} {x lo hi : Int32} {s : fm_S} : ev g d mX12_within 0 [some (.int x), some (.int lo), some (.int hi)] [] s = some (.inl (some (.int (bi (¬ x < lo ∧ ¬ hi < x)))), s) := by
  simp (disch := first | exact jm_lt0 | exact jm_lti | exact jm_ltr | exact jm_ltl | exact jm_lti2 | exact jm_ltri | exact jm_ltir | exact jm_ltrr | exact jm_ltl2 | exact jm_ltrl | exact jm_ltlr | omega | assumption | exact sa_1 | exact n32_inA sb_1 (by omega) (by omega) | exact bi01 | (rw [sa_1]; omega) | decide) only [sX12_within_0, sX12_within_1, sX12_within_2, sX12_within_5, sX12_within_6, sX12_within_7, sX12_within_10, sX12_within_11, kX12_within_14_III, sX12_within_14, kX12_within_15_III, sX12_within_15]
  by_cases h1 : x < lo <;> by_cases h2 : hi < x <;> simp only [h1, h2, bi, if_true, if_false, not_true_eq_false, not_false_eq_true, and_true, true_and, and_false, false_and, and_self, or_true, true_or, or_false, false_or, or_self, ne_eq, Decidable.not_not, Nat.reduceEqDiff, Nat.reduceEqDiff]
/-- a call is refused: its code, its kind -/
def rfs (s : fm_S) (code : Int32) (kind : Nat) : fm_S := pI (pI s 432 0 code) 433 kind (gI s 433 kind + Int32.ofNat 1)
theorem m_may {g : fm_g} {d kind : Nat} {P : Prop} [Decidable P] {code : Int32} {s : fm_S} (hF : FX s) (hk : kind < 2) (hc : ¬ code = 0) (h0 : gI s 432 0 = 0) : ev g d mX12_may 0 [some (.ref (432 : Nat)), some (.int (bi P)), some (.int code), some (.int (Int32.ofNat kind))] [] s = if P then some (.inl (some (.int (Int32.ofNat 1))), s) else some (.inl (some (.int (Int32.ofNat 0))), rfs s code kind) := by
  have r1 := hF.u 432 1 433 (by decide +kernel)
  have e1 : ¬ (433 : Nat) = 432 := by decide
  by_cases c : P
  · simp (disch := first | exact jm_lt0 | exact jm_lti | exact jm_ltr | exact jm_ltl | exact jm_lti2 | exact jm_ltri | exact jm_ltir | exact jm_ltrr | exact jm_ltl2 | exact jm_ltrl | exact jm_ltlr | omega | assumption | exact sa_432 | exact sa_433 | exact n32_inA sb_432 (by omega) (by omega) | exact n32_inA sb_433 (by omega) (by omega) | exact bi01 | (rw [sa_432]; omega) | (rw [sa_433]; omega) | decide) only [sX12_may_0, sX12_may_1, sX12_may_4, sX12_may_5, sX12_may_8, sX12_may_11, sX12_may_12, sX12_may_13, sX12_may_16, sX12_may_17, sX12_may_20, sX12_may_21, sX12_may_22, sX12_may_23, sX12_may_24, sX12_may_25, kX12_may_26_AIII, sX12_may_26, sX12_may_27, sX12_may_30, sX12_may_33, sX12_may_34, kX12_may_37_ANNN, sX12_may_37, kX12_may_38_ANNN, sX12_may_38, evK_n, evK_v, evK_x, gI_pI, gJ_pI, gR_pI, gI_pJ, gJ_pJ, gR_pJ, gI_pR, gJ_pR, gR_pR, sa_432, sb_432, sa_433, sb_433, n32_le, n32_lt, n32_add, n32_mul, n32_cl, if_true, if_false, not_true_eq_false, not_false_eq_true, and_true, true_and, and_false, false_and, and_self, or_true, true_or, or_false, false_or, or_self, ne_eq, Decidable.not_not, Nat.reduceEqDiff, Nat.reduceEqDiff, bi_ne, c, h0]
  · simp (disch := first | exact jm_lt0 | exact jm_lti | exact jm_ltr | exact jm_ltl | exact jm_lti2 | exact jm_ltri | exact jm_ltir | exact jm_ltrr | exact jm_ltl2 | exact jm_ltrl | exact jm_ltlr | omega | assumption | exact sa_432 | exact sa_433 | exact n32_inA sb_432 (by omega) (by omega) | exact n32_inA sb_433 (by omega) (by omega) | exact bi01 | (rw [sa_432]; omega) | (rw [sa_433]; omega) | decide) only [sX12_may_0, sX12_may_1, sX12_may_4, sX12_may_5, sX12_may_8, sX12_may_11, sX12_may_12, sX12_may_13, sX12_may_16, sX12_may_17, sX12_may_20, sX12_may_21, sX12_may_22, sX12_may_23, sX12_may_24, sX12_may_25, kX12_may_26_AIII, sX12_may_26, sX12_may_27, sX12_may_30, sX12_may_33, sX12_may_34, kX12_may_37_ANNN, sX12_may_37, kX12_may_38_ANNN, sX12_may_38, evK_n, evK_v, evK_x, gI_pI, gJ_pI, gR_pI, gI_pJ, gJ_pJ, gR_pJ, gI_pR, gJ_pR, gR_pR, sa_432, sb_432, sa_433, sb_433, n32_le, n32_lt, n32_add, n32_mul, n32_cl, if_true, if_false, not_true_eq_false, not_false_eq_true, and_true, true_and, and_false, false_and, and_self, or_true, true_or, or_false, false_or, or_self, ne_eq, Decidable.not_not, Nat.reduceEqDiff, Nat.reduceEqDiff, bi_ne, c, h0, r1, hc, e1, rfs]
/-- the VISITS of the model -/
def MV (t : fm_S) (n : Nat) (W M : Nat → Nat) : Prop := gI t 432 19 = Int32.ofNat n ∧ n ≤ 24 ∧ ∀ v, v < n → (gI t 439 v = Int32.ofNat (W v) ∧ W v < 6) ∧ gI t 440 v = Int32.ofNat (M v) ∧ M v ≤ 480
theorem m_whichLoop {g : fm_g} {d n v : Nat} {W M : Nat → Nat} {s : fm_S} (hF : FX s) (hD : MV s n W M) (hv : v < n) : ∀ k, k ≤ v + 1 → ev g d mX12_whichOf 4 [some (.ref (432 : Nat)), some (.int (Int32.ofNat v)), some (.int (Int32.ofNat (cntW W (W v) k))), some (.int (Int32.ofNat k))] [] s = some (.inl (some (.int (Int32.ofNat (cntW W (W v) (v + 1))))), s) := by
  intro k hk
  have r1 := hF.u 432 14 439 (by decide +kernel)
  have h4 := hD.2.1
  rw [sX12_whichOf_4]
  by_cases c1 : k ≤ v
  · have hw := (hD.2.2 k (by omega)).1
    have hw2 := (hD.2.2 v hv).1
    have hrec := m_whichLoop (g := g) (d := d) hF hD hv (k + 1) (by omega)
    simp (disch := first | exact jm_lt0 | exact jm_lti | exact jm_ltr | exact jm_ltl | exact jm_lti2 | exact jm_ltri | exact jm_ltir | exact jm_ltrr | exact jm_ltl2 | exact jm_ltrl | exact jm_ltlr | omega | assumption | exact sa_432 | exact sa_439 | exact n32_inA sb_432 (by omega) (by omega) | exact n32_inA sb_439 (by omega) (by omega) | exact bi01 | (rw [sa_432]; omega) | (rw [sa_439]; omega) | decide) only [sX12_whichOf_0, sX12_whichOf_1, sX12_whichOf_2, sX12_whichOf_3, sX12_whichOf_5, sX12_whichOf_6, sX12_whichOf_9, sX12_whichOf_10, sX12_whichOf_11, sX12_whichOf_14, sX12_whichOf_15, sX12_whichOf_16, sX12_whichOf_17, sX12_whichOf_20, sX12_whichOf_21, sX12_whichOf_22, sX12_whichOf_25, sX12_whichOf_26, kX12_whichOf_29_AIII, sX12_whichOf_29, kX12_whichOf_30_AIII, sX12_whichOf_30, sX12_whichOf_31, sX12_whichOf_32, sX12_whichOf_35, kX12_whichOf_38_AIII, sX12_whichOf_38, sX12_whichOf_39, n32_le, n32_lt, n32_add, n32_mul, n32_cl, sa_432, sb_432, sa_439, sb_439, r1, hw.1, hw2.1, n32_eq, ne_eq]
    rw [if_neg (by omega)]
    rw [cntW] at hrec
    by_cases c2 : W k = W v
    · rw [if_neg (by simpa using c2)]
      rw [if_pos c2] at hrec
      exact hrec
    · rw [if_pos c2]
      rw [if_neg c2] at hrec
      exact hrec
  · have e1 : k = v + 1 := by omega
    simp (disch := first | exact jm_lt0 | exact jm_lti | exact jm_ltr | exact jm_ltl | exact jm_lti2 | exact jm_ltri | exact jm_ltir | exact jm_ltrr | exact jm_ltl2 | exact jm_ltrl | exact jm_ltlr | omega | assumption | exact sa_432 | exact sa_439 | exact n32_inA sb_432 (by omega) (by omega) | exact n32_inA sb_439 (by omega) (by omega) | exact bi01 | (rw [sa_432]; omega) | (rw [sa_439]; omega) | decide) only [sX12_whichOf_0, sX12_whichOf_1, sX12_whichOf_2, sX12_whichOf_3, sX12_whichOf_5, sX12_whichOf_6, sX12_whichOf_9, sX12_whichOf_10, sX12_whichOf_11, sX12_whichOf_14, sX12_whichOf_15, sX12_whichOf_16, sX12_whichOf_17, sX12_whichOf_20, sX12_whichOf_21, sX12_whichOf_22, sX12_whichOf_25, sX12_whichOf_26, kX12_whichOf_29_AIII, sX12_whichOf_29, kX12_whichOf_30_AIII, sX12_whichOf_30, sX12_whichOf_31, sX12_whichOf_32, sX12_whichOf_35, kX12_whichOf_38_AIII, sX12_whichOf_38, sX12_whichOf_39, n32_le, n32_lt, n32_add, n32_mul, n32_cl]
    rw [if_pos (by omega), e1]
termination_by k => v + 1 - k
theorem m_whichOf {g : fm_g} {d n v : Nat} {W M : Nat → Nat} {s : fm_S} (hF : FX s) (hD : MV s n W M) (hv : v < n) : ev g d mX12_whichOf 0 [some (.ref (432 : Nat)), some (.int (Int32.ofNat v)), none, none] [] s = some (.inl (some (.int (Int32.ofNat (cntW W (W v) (v + 1))))), s) := by
  have h := m_whichLoop (g := g) (d := d) hF hD hv 0 (by omega)
  simp (disch := first | exact jm_lt0 | exact jm_lti | exact jm_ltr | exact jm_ltl | exact jm_lti2 | exact jm_ltri | exact jm_ltir | exact jm_ltrr | exact jm_ltl2 | exact jm_ltrl | exact jm_ltlr | omega | assumption | exact sa_432 | exact n32_inA sb_432 (by omega) (by omega) | exact bi01 | (rw [sa_432]; omega) | decide) only [sX12_whichOf_0, sX12_whichOf_1, sX12_whichOf_2, sX12_whichOf_3, sX12_whichOf_5, sX12_whichOf_6, sX12_whichOf_9, sX12_whichOf_10, sX12_whichOf_11, sX12_whichOf_14, sX12_whichOf_15, sX12_whichOf_16, sX12_whichOf_17, sX12_whichOf_20, sX12_whichOf_21, sX12_whichOf_22, sX12_whichOf_25, sX12_whichOf_26, kX12_whichOf_29_AIII, sX12_whichOf_29, kX12_whichOf_30_AIII, sX12_whichOf_30, sX12_whichOf_31, sX12_whichOf_32, sX12_whichOf_35, kX12_whichOf_38_AIII, sX12_whichOf_38, sX12_whichOf_39]
  exact h
theorem m_sinceLoop {g : fm_g} {d n v : Nat} {W M : Nat → Nat} {s : fm_S} (hF : FX s) (hD : MV s n W M) (hv : v < n) : ∀ k, k ≤ v → ev g d mX12_sinceOf 4 [some (.ref (432 : Nat)), some (.int (Int32.ofNat v)), some (.int (Int32.ofNat k + (-1)))] [] s = some (.inl (some (.int (sncW W M v k))), s) := by
  intro k hk
  have r1 := hF.u 432 14 439 (by decide +kernel)
  have r2 := hF.u 432 15 440 (by decide +kernel)
  have h4 := hD.2.1
  have hw2 := hD.2.2 v hv
  rw [sX12_sinceOf_4]
  cases k with
  | zero =>
    have e0 : Int32.ofNat 0 + (-1) < 0 := by decide
    simp (disch := first | exact jm_lt0 | exact jm_lti | exact jm_ltr | exact jm_ltl | exact jm_lti2 | exact jm_ltri | exact jm_ltir | exact jm_ltrr | exact jm_ltl2 | exact jm_ltrl | exact jm_ltlr | omega | assumption | exact sa_432 | exact n32_inA sb_432 (by omega) (by omega) | exact bi01 | (rw [sa_432]; omega) | decide) only [sX12_sinceOf_0, sX12_sinceOf_1, sX12_sinceOf_2, sX12_sinceOf_3, sX12_sinceOf_5, sX12_sinceOf_8, sX12_sinceOf_9, sX12_sinceOf_12, sX12_sinceOf_13, sX12_sinceOf_14, sX12_sinceOf_15, sX12_sinceOf_18, sX12_sinceOf_19, sX12_sinceOf_20, sX12_sinceOf_23, sX12_sinceOf_24, sX12_sinceOf_27, sX12_sinceOf_28, sX12_sinceOf_29, sX12_sinceOf_30, sX12_sinceOf_33, sX12_sinceOf_34, sX12_sinceOf_35, sX12_sinceOf_36, sX12_sinceOf_37, sX12_sinceOf_40, kX12_sinceOf_43_AII, sX12_sinceOf_43, sX12_sinceOf_46, e0, if_true]
    rfl
  | succ k =>
    have hw := hD.2.2 k (by omega)
    have e1 : Int32.ofNat (k + 1) + (-1) = Int32.ofNat k := n32_dec (by omega)
    have hrec := m_sinceLoop (g := g) (d := d) hF hD hv k (by omega)
    rw [e1]
    simp (disch := first | exact jm_lt0 | exact jm_lti | exact jm_ltr | exact jm_ltl | exact jm_lti2 | exact jm_ltri | exact jm_ltir | exact jm_ltrr | exact jm_ltl2 | exact jm_ltrl | exact jm_ltlr | omega | assumption | exact sa_432 | exact sa_439 | exact sa_440 | exact n32_inA sb_432 (by omega) (by omega) | exact n32_inA sb_439 (by omega) (by omega) | exact n32_inA sb_440 (by omega) (by omega) | exact bi01 | (rw [sa_432]; omega) | (rw [sa_439]; omega) | (rw [sa_440]; omega) | decide) only [sX12_sinceOf_0, sX12_sinceOf_1, sX12_sinceOf_2, sX12_sinceOf_3, sX12_sinceOf_5, sX12_sinceOf_8, sX12_sinceOf_9, sX12_sinceOf_12, sX12_sinceOf_13, sX12_sinceOf_14, sX12_sinceOf_15, sX12_sinceOf_18, sX12_sinceOf_19, sX12_sinceOf_20, sX12_sinceOf_23, sX12_sinceOf_24, sX12_sinceOf_27, sX12_sinceOf_28, sX12_sinceOf_29, sX12_sinceOf_30, sX12_sinceOf_33, sX12_sinceOf_34, sX12_sinceOf_35, sX12_sinceOf_36, sX12_sinceOf_37, sX12_sinceOf_40, kX12_sinceOf_43_AII, sX12_sinceOf_43, sX12_sinceOf_46, n32_le, n32_lt, n32_add, n32_mul, n32_cl, sa_432, sb_432, sa_439, sb_439, sa_440, sb_440, n32_lt0, r1, r2, hw.1.1, hw.2.1, hw2.1.1, hw2.2.1, n32_eq, ne_eq, if_false]
    rw [sncW]
    by_cases c2 : W k = W v
    · rw [if_neg (by simpa using c2), if_pos c2]
    · rw [if_pos c2, if_neg c2]
      exact hrec
theorem m_sinceOf {g : fm_g} {d n v : Nat} {W M : Nat → Nat} {s : fm_S} (hF : FX s) (hD : MV s n W M) (hv : v < n) : ev g d mX12_sinceOf 0 [some (.ref (432 : Nat)), some (.int (Int32.ofNat v)), none] [] s = some (.inl (some (.int (sncW W M v v))), s) := by
  have h := m_sinceLoop (g := g) (d := d) hF hD hv v (Nat.le_refl _)
  simp (disch := first | exact jm_lt0 | exact jm_lti | exact jm_ltr | exact jm_ltl | exact jm_lti2 | exact jm_ltri | exact jm_ltir | exact jm_ltrr | exact jm_ltl2 | exact jm_ltrl | exact jm_ltlr | omega | assumption | exact sa_432 | exact n32_inA sb_432 (by omega) (by omega) | exact bi01 | (rw [sa_432]; omega) | decide) only [sX12_sinceOf_0, sX12_sinceOf_1, sX12_sinceOf_2, sX12_sinceOf_3, sX12_sinceOf_5, sX12_sinceOf_8, sX12_sinceOf_9, sX12_sinceOf_12, sX12_sinceOf_13, sX12_sinceOf_14, sX12_sinceOf_15, sX12_sinceOf_18, sX12_sinceOf_19, sX12_sinceOf_20, sX12_sinceOf_23, sX12_sinceOf_24, sX12_sinceOf_27, sX12_sinceOf_28, sX12_sinceOf_29, sX12_sinceOf_30, sX12_sinceOf_33, sX12_sinceOf_34, sX12_sinceOf_35, sX12_sinceOf_36, sX12_sinceOf_37, sX12_sinceOf_40, kX12_sinceOf_43_AII, sX12_sinceOf_43, sX12_sinceOf_46, n32_subone]
  exact h
/-- a VISIT is put into two rows of 24 -/
theorem m_putsLoop {g : fm_g} {d n p m rw rm : Nat} {M : Nat → Nat} {s : fm_S} (a1 : (shp rw).1 = 60) (a2 : (shp rw).2 = 24) (a3 : (shp rm).1 = 60) (a4 : (shp rm).2 = 24) (hr : rw ≠ rm) (hn : n < 24) (hm : m < 1000) (hM : ∀ v, v < n → gI s rm v = Int32.ofNat (M v) ∧ M v ≤ 480) : ∀ k, k ≤ n → ev g d mX12_puts 3 [none, some (.ref rw), some (.ref rm), none, some (.int (Int32.ofNat p)), some (.int (Int32.ofNat m)), some (.int (Int32.ofNat k))] [] (shU s rm rw k n) = some (.inl (some (.int (Int32.ofNat (insP M m k)))), insS s rm rw (insP M m k) n m p) := by
  intro k
  induction k with
  | zero =>
    intro hk
    rw [sX12_puts_3]
    simp (disch := first | exact jm_lt0 | exact jm_lti | exact jm_ltr | exact jm_ltl | exact jm_lti2 | exact jm_ltri | exact jm_ltir | exact jm_ltrr | exact jm_ltl2 | exact jm_ltrl | exact jm_ltlr | omega | assumption | (refine n32_inA (by assumption) ?_ ?_ <;> omega) | exact bi01 | decide) only [sX12_puts_0, sX12_puts_1, kX12_puts_3_AAAIIII, sX12_puts_5, sX12_puts_8, sX12_puts_9, sX12_puts_11, sX12_puts_12, sX12_puts_13, sX12_puts_14, sX12_puts_16, sX12_puts_19, sX12_puts_20, sX12_puts_22, sX12_puts_23, sX12_puts_25, sX12_puts_26, sX12_puts_27, sX12_puts_28, sX12_puts_29, sX12_puts_30, sX12_puts_32, sX12_puts_33, sX12_puts_35, sX12_puts_36, sX12_puts_37, sX12_puts_38, sX12_puts_39, sX12_puts_42, sX12_puts_45, sX12_puts_46, sX12_puts_48, sX12_puts_50, sX12_puts_51, sX12_puts_52, sX12_puts_54, sX12_puts_56, sX12_puts_57, sX12_puts_59, n32_le, n32_lt, n32_add, n32_mul, n32_cl, n32_le0, if_true]
    rfl
  | succ k ih =>
    intro hk
    have hMk := hM k (by omega)
    have e1 : k + 1 - 1 = k := by omega
    have g1 : gI (shU s rm rw (k + 1) n) rm k = gI s rm k := by rw [shU_gI, if_neg (by omega)]
    have g2 : gI (shU s rm rw (k + 1) n) rw k = gI s rw k := by rw [shU_gI, if_neg (by omega)]
    have g3 : ∀ v, gI (pI (shU s rm rw (k + 1) n) rw (k + 1) v) rm k = gI s rm k := fun v => by rw [gI_pI, if_neg (fun h => hr h.1.symm), g1]
    have hst := shU_step (s := s) (r1 := rm) (r2 := rw) (k := k + 1) (n := n) (fun h => hr h.symm) (by omega) hk
    rw [e1] at hst
    have hq := insP_le M m (k + 1)
    rw [insP] at hq
    rw [sX12_puts_3]
    by_cases c2 : m < M k
    · simp (disch := first | exact jm_lt0 | exact jm_lti | exact jm_ltr | exact jm_ltl | exact jm_lti2 | exact jm_ltri | exact jm_ltir | exact jm_ltrr | exact jm_ltl2 | exact jm_ltrl | exact jm_ltlr | omega | assumption | (refine n32_inA (by assumption) ?_ ?_ <;> omega) | exact bi01 | decide) only [sX12_puts_0, sX12_puts_1, kX12_puts_3_AAAIIII, sX12_puts_5, sX12_puts_8, sX12_puts_9, sX12_puts_11, sX12_puts_12, sX12_puts_13, sX12_puts_14, sX12_puts_16, sX12_puts_19, sX12_puts_20, sX12_puts_22, sX12_puts_23, sX12_puts_25, sX12_puts_26, sX12_puts_27, sX12_puts_28, sX12_puts_29, sX12_puts_30, sX12_puts_32, sX12_puts_33, sX12_puts_35, sX12_puts_36, sX12_puts_37, sX12_puts_38, sX12_puts_39, sX12_puts_42, sX12_puts_46, sX12_puts_48, sX12_puts_50, sX12_puts_51, sX12_puts_52, sX12_puts_54, sX12_puts_56, sX12_puts_57, sX12_puts_59, n32_le, n32_lt, n32_add, n32_mul, n32_cl, n32_le0, n32_sub, n32_dec, e1, g1, g2, g3, hMk.1, Nat.add_one_ne_zero, if_false]
      rw [if_neg (by omega), insP, if_pos c2, ← hMk.1, hst]
      exact ih (by omega)
    · simp (disch := first | exact jm_lt0 | exact jm_lti | exact jm_ltr | exact jm_ltl | exact jm_lti2 | exact jm_ltri | exact jm_ltir | exact jm_ltrr | exact jm_ltl2 | exact jm_ltrl | exact jm_ltlr | omega | assumption | (refine n32_inA (by assumption) ?_ ?_ <;> omega) | exact bi01 | decide) only [sX12_puts_0, sX12_puts_1, kX12_puts_3_AAAIIII, sX12_puts_5, sX12_puts_8, sX12_puts_9, sX12_puts_11, sX12_puts_12, sX12_puts_13, sX12_puts_14, sX12_puts_16, sX12_puts_19, sX12_puts_20, sX12_puts_22, sX12_puts_23, sX12_puts_25, sX12_puts_26, sX12_puts_27, sX12_puts_28, sX12_puts_29, sX12_puts_30, sX12_puts_32, sX12_puts_33, sX12_puts_35, sX12_puts_36, sX12_puts_37, sX12_puts_38, sX12_puts_39, sX12_puts_42, sX12_puts_45, sX12_puts_46, sX12_puts_48, sX12_puts_50, sX12_puts_51, sX12_puts_52, sX12_puts_54, sX12_puts_56, sX12_puts_57, sX12_puts_59, n32_le, n32_lt, n32_add, n32_mul, n32_cl, n32_le0, n32_sub, n32_dec, e1, g1, g2, g3, hMk.1, Nat.add_one_ne_zero, if_false]
      rw [if_pos (by omega), insP, if_neg c2]
      rfl
theorem m_puts {g : fm_g} {d n p m rw rm : Nat} {M : Nat → Nat} {s : fm_S} (a1 : (shp rw).1 = 60) (a2 : (shp rw).2 = 24) (a3 : (shp rm).1 = 60) (a4 : (shp rm).2 = 24) (hr : rw ≠ rm) (hn : n < 24) (hm : m < 1000) (hM : ∀ v, v < n → gI s rm v = Int32.ofNat (M v) ∧ M v ≤ 480) : ev g d mX12_puts 0 [some (.ref (432 : Nat)), some (.ref rw), some (.ref rm), some (.int (Int32.ofNat n)), some (.int (Int32.ofNat p)), some (.int (Int32.ofNat m)), none] [] s = some (.inl (some (.int (Int32.ofNat (insP M m n)))), insS s rm rw (insP M m n) n m p) := by
  have h := m_putsLoop (g := g) (d := d) (p := p) a1 a2 a3 a4 hr hn hm hM n (Nat.le_refl _)
  rw [shU_self] at h
  simp (disch := first | exact jm_lt0 | exact jm_lti | exact jm_ltr | exact jm_ltl | exact jm_lti2 | exact jm_ltri | exact jm_ltir | exact jm_ltrr | exact jm_ltl2 | exact jm_ltrl | exact jm_ltlr | omega | assumption | (refine n32_inA (by assumption) ?_ ?_ <;> omega) | exact bi01 | decide) only [sX12_puts_0, sX12_puts_1, kX12_puts_3_AAAIIII, sX12_puts_5, sX12_puts_8, sX12_puts_9, sX12_puts_11, sX12_puts_12, sX12_puts_13, sX12_puts_14, sX12_puts_16, sX12_puts_19, sX12_puts_20, sX12_puts_22, sX12_puts_23, sX12_puts_25, sX12_puts_26, sX12_puts_27, sX12_puts_28, sX12_puts_29, sX12_puts_30, sX12_puts_32, sX12_puts_33, sX12_puts_35, sX12_puts_36, sX12_puts_37, sX12_puts_38, sX12_puts_39, sX12_puts_42, sX12_puts_45, sX12_puts_46, sX12_puts_48, sX12_puts_50, sX12_puts_51, sX12_puts_52, sX12_puts_54, sX12_puts_56, sX12_puts_57, sX12_puts_59]
  exact h
theorem m_leavesLoop {g : fm_g} {d n v : Nat} {s : fm_S} (hF : FX s) (h0 : gI s 432 19 = Int32.ofNat n) (hn : n < 24) : ∀ k, v ≤ k → k ≤ n → ev g d mX12_leaves 12 [some (.ref (432 : Nat)), none, some (.int (Int32.ofNat k))] [] (shD s 439 440 v k) = some (.inl none, shD s 439 440 v n) := by
  intro k hvk hk
  have r1 := hF.u 432 14 439 (by decide +kernel)
  have r2 := hF.u 432 15 440 (by decide +kernel)
  have x0 : gI (shD s 439 440 v k) 432 19 = Int32.ofNat n := by rw [shD_gI, if_neg (by omega), h0]
  rw [sX12_leaves_12]
  by_cases c1 : k < n
  · have g1 : gI (shD s 439 440 v k) 439 (k + 1) = gI s 439 (k + 1) := by rw [shD_gI, if_neg (by omega)]
    have g2 : ∀ x, gI (pI (shD s 439 440 v k) 439 k x) 440 (k + 1) = gI s 440 (k + 1) := fun x => by rw [gI_pI, if_neg (by omega), shD_gI, if_neg (by omega)]
    have hst := shD_step (s := s) (r1 := 439) (r2 := 440) hvk
    have y1 : gR (shD s 439 440 v k) 432 14 = 439 := r1
    have y2 : gR (shD s 439 440 v k) 432 15 = 440 := r2
    have hrec := m_leavesLoop (g := g) (d := d) (v := v) hF h0 hn (k + 1) (by omega) c1
    simp (disch := first | exact jm_lt0 | exact jm_lti | exact jm_ltr | exact jm_ltl | exact jm_lti2 | exact jm_ltri | exact jm_ltir | exact jm_ltrr | exact jm_ltl2 | exact jm_ltrl | exact jm_ltlr | omega | assumption | exact sa_432 | exact sa_439 | exact sa_440 | exact n32_inA sb_432 (by omega) (by omega) | exact n32_inA sb_439 (by omega) (by omega) | exact n32_inA sb_440 (by omega) (by omega) | exact bi01 | (rw [sa_432]; omega) | (rw [sa_439]; omega) | (rw [sa_440]; omega) | decide) only [sX12_leaves_0, sX12_leaves_1, sX12_leaves_2, sX12_leaves_5, sX12_leaves_6, sX12_leaves_7, sX12_leaves_10, sX12_leaves_11, kX12_leaves_12_AII, sX12_leaves_13, sX12_leaves_14, sX12_leaves_17, sX12_leaves_20, sX12_leaves_21, sX12_leaves_24, sX12_leaves_25, sX12_leaves_26, sX12_leaves_29, sX12_leaves_30, sX12_leaves_31, sX12_leaves_32, sX12_leaves_33, sX12_leaves_34, sX12_leaves_35, sX12_leaves_38, sX12_leaves_39, sX12_leaves_40, sX12_leaves_43, sX12_leaves_44, sX12_leaves_45, sX12_leaves_46, sX12_leaves_47, sX12_leaves_48, sX12_leaves_51, kX12_leaves_54_ANI, sX12_leaves_54, n32_le, n32_lt, n32_add, n32_mul, n32_cl, sa_432, sb_432, sa_439, sb_439, sa_440, sb_440, gR_pI, x0, y1, y2, g1, g2, hst]
    rw [if_neg (by omega)]
    exact hrec
  · have e1 : k = n := by omega
    simp (disch := first | exact jm_lt0 | exact jm_lti | exact jm_ltr | exact jm_ltl | exact jm_lti2 | exact jm_ltri | exact jm_ltir | exact jm_ltrr | exact jm_ltl2 | exact jm_ltrl | exact jm_ltlr | omega | assumption | exact sa_432 | exact sa_439 | exact sa_440 | exact n32_inA sb_432 (by omega) (by omega) | exact n32_inA sb_439 (by omega) (by omega) | exact n32_inA sb_440 (by omega) (by omega) | exact bi01 | (rw [sa_432]; omega) | (rw [sa_439]; omega) | (rw [sa_440]; omega) | decide) only [sX12_leaves_0, sX12_leaves_1, sX12_leaves_2, sX12_leaves_5, sX12_leaves_6, sX12_leaves_7, sX12_leaves_10, sX12_leaves_11, kX12_leaves_12_AII, sX12_leaves_13, sX12_leaves_14, sX12_leaves_17, sX12_leaves_20, sX12_leaves_21, sX12_leaves_24, sX12_leaves_25, sX12_leaves_26, sX12_leaves_29, sX12_leaves_30, sX12_leaves_31, sX12_leaves_32, sX12_leaves_33, sX12_leaves_34, sX12_leaves_35, sX12_leaves_38, sX12_leaves_39, sX12_leaves_40, sX12_leaves_43, sX12_leaves_44, sX12_leaves_45, sX12_leaves_46, sX12_leaves_47, sX12_leaves_48, sX12_leaves_51, kX12_leaves_54_ANI, sX12_leaves_54, n32_le, n32_lt, n32_add, n32_mul, n32_cl, x0]
    rw [if_pos (by omega), e1]
termination_by k => n - k
theorem m_leaves {g : fm_g} {d n v : Nat} {s : fm_S} (hF : FX s) (h0 : gI s 432 19 = Int32.ofNat n) (hn : n ≤ 24) (hv : v < n) : ev g d mX12_leaves 0 [some (.ref (432 : Nat)), some (.int (Int32.ofNat v)), none] [] s = some (.inl none, shD (pI s 432 19 (Int32.ofNat (n - 1))) 439 440 v (n - 1)) := by
  have h := m_leavesLoop (g := g) (d := d) (s := pI s 432 19 (Int32.ofNat (n - 1))) (v := v) (n := n - 1) hF.pI (by rw [gI_pI, if_pos ⟨rfl, rfl⟩]) (by omega) v (Nat.le_refl _) (by omega)
  rw [shD_self] at h
  simp (disch := first | exact jm_lt0 | exact jm_lti | exact jm_ltr | exact jm_ltl | exact jm_lti2 | exact jm_ltri | exact jm_ltir | exact jm_ltrr | exact jm_ltl2 | exact jm_ltrl | exact jm_ltlr | omega | assumption | exact sa_432 | exact n32_inA sb_432 (by omega) (by omega) | exact bi01 | (rw [sa_432]; omega) | decide) only [sX12_leaves_0, sX12_leaves_1, sX12_leaves_2, sX12_leaves_5, sX12_leaves_6, sX12_leaves_7, sX12_leaves_10, sX12_leaves_11, kX12_leaves_12_AII, sX12_leaves_13, sX12_leaves_14, sX12_leaves_17, sX12_leaves_20, sX12_leaves_21, sX12_leaves_24, sX12_leaves_25, sX12_leaves_26, sX12_leaves_29, sX12_leaves_30, sX12_leaves_31, sX12_leaves_32, sX12_leaves_33, sX12_leaves_34, sX12_leaves_35, sX12_leaves_38, sX12_leaves_39, sX12_leaves_40, sX12_leaves_43, sX12_leaves_44, sX12_leaves_45, sX12_leaves_46, sX12_leaves_47, sX12_leaves_48, sX12_leaves_51, kX12_leaves_54_ANI, sX12_leaves_54, n32_le, n32_lt, n32_add, n32_mul, n32_cl, sa_432, sb_432, h0, n32_sub]
  exact h
