/-! the class: what fits the BOOK -/
def vlB (w : WD) (v kind k : Nat) : Nat := if kind = 0 then kcard k else if kind = 1 then (if kwm w v k = true then 1 else 0) else kc k + kd k
/-- lines ahead of the place n are so -/
def fitN (w : WD) (v k : Nat) : Nat → Bool
  | 0 => true
  | n + 1 => fitN w v k n && (decide ((wB w n).1 ≠ v) || decide ((wB w n).2.2 = vlB w v (wB w n).2.1 k))
def tlN (w : WD) (v : Nat) : Nat → Bool
  | 0 => false
  | n + 1 => tlN w v n || decide ((wB w n).1 = v)
def filD (w : WD) (v : Nat) (D : Nat → Nat) : Nat → Nat := fun k => if fitN w v k (wl w) = true then D k else 0
theorem fit_tl {w : WD} {v k : Nat} : ∀ n, tlN w v n = false → fitN w v k n = true
  | 0, _ => rfl
  | n + 1, h => by
    rw [tlN, Bool.or_eq_false_iff] at h
    rw [fitN, fit_tl n h.1, Bool.true_and, decide_eq_true (of_decide_eq_false h.2), Bool.true_or]
theorem fit_mono {w : WD} {v k : Nat} : ∀ {n m : Nat}, n ≤ m → fitN w v k m = true → fitN w v k n = true := by
  intro n m h
  induction h with
  | refl => exact id
  | step _ ih =>
    intro h
    rw [fitN, Bool.and_eq_true] at h
    exact ih h.1
theorem tl_mono {w : WD} {v : Nat} : ∀ {n m : Nat}, n ≤ m → tlN w v n = true → tlN w v m = true := by
  intro n m h
  induction h with
  | refl => exact id
  | step _ ih =>
    intro h
    rw [tlN, ih h, Bool.true_or]
theorem c0_tells {g : fm_g} {d v : Nat} {w : WD} {s : fm_S} (hF : FX s) (hC : CW s w) (hw : wOK w) (hv : v < 24) : ∀ (m i : Nat), i + m = wl w → tlN w v i = false → ev g d mX0_tellsOf 2 [some (.ref (61 : Nat)), some (.int (Int32.ofNat v)), some (.int (Int32.ofNat i))] [] s = some (.inl (some (.int (bi (tlN w v (wl w) = true)))), s) := by
  obtain ⟨-, -, -, -, c5, c6⟩ := hC
  have hl := hw.2.2.2.2.2.1
  have hB := hw.2.2.2.2.2.2
  have r1 := hF.u 61 1 62 (by decide +kernel)
  intro m
  induction m with
  | zero =>
    intro i hi ht
    have hii : i = wl w := by omega
    rw [hii] at ht ⊢
    rw [sX0_tellsOf_2]
    simp (disch := first | exact jm_lt0 | (apply jm_ltx; (repeat (first | exact jw_0 | apply jw_i | apply jw_r | apply jw_l)); omega) | omega | assumption | exact sa_61 | exact sa_62 | exact n32_inA sb_61 (by omega) (by omega) | exact n32_inA sb_62 (by omega) (by omega) | (refine n32_inA (by assumption) ?_ ?_ <;> omega) | exact bi01 | (rw [sa_61]; omega) | (rw [sa_62]; omega) | decide) only [sX0_tellsOf_0, sX0_tellsOf_1, sX0_tellsOf_3, sX0_tellsOf_4, sX0_tellsOf_7, sX0_tellsOf_10, sX0_tellsOf_11, sX0_tellsOf_13, sX0_tellsOf_16, sX0_tellsOf_17, sX0_tellsOf_20, sX0_tellsOf_21, sX0_tellsOf_22, sX0_tellsOf_23, sX0_tellsOf_26, sX0_tellsOf_27, sX0_tellsOf_28, sX0_tellsOf_31, kX0_tellsOf_34_AII, sX0_tellsOf_34, sX0_tellsOf_35, evK_n, evK_v, evK_x, gI_pI, gJ_pI, gR_pI, gI_pJ, gJ_pJ, gR_pJ, gI_pR, gJ_pR, gR_pR, n32_le, n32_lt, n32_add, n32_mul, n32_cl, if_true, if_false, not_true_eq_false, not_false_eq_true, and_true, true_and, and_false, false_and, and_self, or_true, true_or, or_false, false_or, or_self, ne_eq, Decidable.not_not, Nat.reduceEqDiff, Nat.reduceEqDiff, sa_61, sb_61, sa_62, sb_62, c5]
    rw [if_pos (by omega), bi_f (by rw [ht]; decide)]
  | succ m ih =>
    intro i hi ht
    obtain ⟨q1, q2, q3⟩ := c6 i (by omega)
    have hb := (hB i (by omega)).1
    have g1 : ¬ wl w ≤ i := by omega
    have g2 : ¬ 10 ≤ i := by omega
    rw [sX0_tellsOf_2]
    by_cases c : (wB w i).1 = v
    · have : tlN w v (wl w) = true := tl_mono (n := i + 1) (by omega) (by rw [tlN, decide_eq_true c, Bool.or_true])
      rw [bi_t this]
      simp (disch := first | exact jm_lt0 | (apply jm_ltx; (repeat (first | exact jw_0 | apply jw_i | apply jw_r | apply jw_l)); omega) | omega | assumption | exact sa_61 | exact sa_62 | exact n32_inA sb_61 (by omega) (by omega) | exact n32_inA sb_62 (by omega) (by omega) | (refine n32_inA (by assumption) ?_ ?_ <;> omega) | exact bi01 | (rw [sa_61]; omega) | (rw [sa_62]; omega) | decide) only [sX0_tellsOf_0, sX0_tellsOf_1, sX0_tellsOf_3, sX0_tellsOf_4, sX0_tellsOf_7, sX0_tellsOf_10, sX0_tellsOf_11, sX0_tellsOf_13, sX0_tellsOf_16, sX0_tellsOf_17, sX0_tellsOf_20, sX0_tellsOf_21, sX0_tellsOf_22, sX0_tellsOf_23, sX0_tellsOf_26, sX0_tellsOf_27, sX0_tellsOf_28, sX0_tellsOf_31, kX0_tellsOf_34_AII, sX0_tellsOf_34, sX0_tellsOf_35, evK_n, evK_v, evK_x, gI_pI, gJ_pI, gR_pI, gI_pJ, gJ_pJ, gR_pJ, gI_pR, gJ_pR, gR_pR, n32_le, n32_lt, n32_add, n32_mul, n32_cl, if_true, if_false, not_true_eq_false, not_false_eq_true, and_true, true_and, and_false, false_and, and_self, or_true, true_or, or_false, false_or, or_self, ne_eq, Decidable.not_not, Nat.reduceEqDiff, Nat.reduceEqDiff, sa_61, sb_61, sa_62, sb_62, c5, g1, g2, r1, q1, n32_eq, c]
    · have h := ih (i + 1) (by omega) (by rw [tlN, ht, Bool.false_or]; exact decide_eq_false c)
      simp (disch := first | exact jm_lt0 | (apply jm_ltx; (repeat (first | exact jw_0 | apply jw_i | apply jw_r | apply jw_l)); omega) | omega | assumption | exact sa_61 | exact sa_62 | exact n32_inA sb_61 (by omega) (by omega) | exact n32_inA sb_62 (by omega) (by omega) | (refine n32_inA (by assumption) ?_ ?_ <;> omega) | exact bi01 | (rw [sa_61]; omega) | (rw [sa_62]; omega) | decide) only [sX0_tellsOf_0, sX0_tellsOf_1, sX0_tellsOf_3, sX0_tellsOf_4, sX0_tellsOf_7, sX0_tellsOf_10, sX0_tellsOf_11, sX0_tellsOf_13, sX0_tellsOf_16, sX0_tellsOf_17, sX0_tellsOf_20, sX0_tellsOf_21, sX0_tellsOf_22, sX0_tellsOf_23, sX0_tellsOf_26, sX0_tellsOf_27, sX0_tellsOf_28, sX0_tellsOf_31, kX0_tellsOf_34_AII, sX0_tellsOf_34, sX0_tellsOf_35, evK_n, evK_v, evK_x, gI_pI, gJ_pI, gR_pI, gI_pJ, gJ_pJ, gR_pJ, gI_pR, gJ_pR, gR_pR, n32_le, n32_lt, n32_add, n32_mul, n32_cl, if_true, if_false, not_true_eq_false, not_false_eq_true, and_true, true_and, and_false, false_and, and_self, or_true, true_or, or_false, false_or, or_self, ne_eq, Decidable.not_not, Nat.reduceEqDiff, Nat.reduceEqDiff, sa_61, sb_61, sa_62, sb_62, c5, g1, g2, r1, q1, n32_eq, c]
      exact h
theorem c0_valueOf {g : fm_g} {d v k kind : Nat} {w : WD} {s : fm_S} (hF : FX s) (hE : HE s 310 w v) (hN : HN s 310 k) (hv : v < 24) (hst : kst k ≤ v + 1) (hk : kind < 3) : ev g (d + 1) mX0_valueOf 0 [some (.int (Int32.ofNat kind)), some (.ref (310 : Nat))] [] s = some (.inl (some (.int (Int32.ofNat (vlB w v kind k)))), s) := by
  have e1 := c2_warmth (g := g) (d := d) (by decide) hF hE hN hv hst
  have hb : bi (kwm w v k = true) = Int32.ofNat (if kwm w v k = true then 1 else 0) := by unfold bi; split <;> rfl
  rw [hb] at e1
  obtain ⟨h1, h2, h3, -⟩ := hN
  have : kind = 0 ∨ kind = 1 ∨ kind = 2 := by omega
  rcases this with rfl | rfl | rfl
  · simp (disch := first | exact jm_lt0 | (apply jm_ltx; (repeat (first | exact jw_0 | apply jw_i | apply jw_r | apply jw_l)); omega) | omega | assumption | exact sa_310 | exact n32_inA sb_310 (by omega) (by omega) | (refine n32_inA (by assumption) ?_ ?_ <;> omega) | exact bi01 | (rw [sa_310]; omega) | decide) only [sX0_valueOf_0, sX0_valueOf_1, kX0_valueOf_28_IA, sX0_valueOf_28, sX0_valueOf_29, sX0_valueOf_32, kX0_valueOf_33_IA, sX0_valueOf_33, sX0_valueOf_34, sX0_valueOf_37, kX0_valueOf_38_IA, sX0_valueOf_38, sX0_valueOf_39, sX0_valueOf_42, sX0_valueOf_43, sX0_valueOf_46, sX0_valueOf_47, evK_n, evK_v, evK_x, gI_pI, gJ_pI, gR_pI, gI_pJ, gJ_pJ, gR_pJ, gI_pR, gJ_pR, gR_pR, n32_le, n32_lt, n32_add, n32_mul, n32_cl, if_true, if_false, not_true_eq_false, not_false_eq_true, and_true, true_and, and_false, false_and, and_self, or_true, true_or, or_false, false_or, or_self, ne_eq, Decidable.not_not, Nat.reduceEqDiff, Nat.reduceEqDiff, sa_310, sb_310, n32_eq, Nat.reduceEqDiff, h3, vlB]
  · simp (disch := first | exact jm_lt0 | (apply jm_ltx; (repeat (first | exact jw_0 | apply jw_i | apply jw_r | apply jw_l)); omega) | omega | assumption | exact sa_310 | exact n32_inA sb_310 (by omega) (by omega) | (refine n32_inA (by assumption) ?_ ?_ <;> omega) | exact bi01 | (rw [sa_310]; omega) | decide) only [sX0_valueOf_0, sX0_valueOf_1, kX0_valueOf_28_IA, sX0_valueOf_28, sX0_valueOf_29, sX0_valueOf_32, kX0_valueOf_33_IA, sX0_valueOf_33, sX0_valueOf_34, sX0_valueOf_37, kX0_valueOf_38_IA, sX0_valueOf_38, sX0_valueOf_39, sX0_valueOf_42, sX0_valueOf_43, sX0_valueOf_46, sX0_valueOf_47, evK_n, evK_v, evK_x, gI_pI, gJ_pI, gR_pI, gI_pJ, gJ_pJ, gR_pJ, gI_pR, gJ_pR, gR_pR, n32_le, n32_lt, n32_add, n32_mul, n32_cl, if_true, if_false, not_true_eq_false, not_false_eq_true, and_true, true_and, and_false, false_and, and_self, or_true, true_or, or_false, false_or, or_self, ne_eq, Decidable.not_not, Nat.reduceEqDiff, Nat.reduceEqDiff, sa_310, sb_310, n32_eq, Nat.reduceEqDiff, e1, vlB]
  · simp (disch := first | exact jm_lt0 | (apply jm_ltx; (repeat (first | exact jw_0 | apply jw_i | apply jw_r | apply jw_l)); omega) | omega | assumption | exact sa_310 | exact n32_inA sb_310 (by omega) (by omega) | (refine n32_inA (by assumption) ?_ ?_ <;> omega) | exact bi01 | (rw [sa_310]; omega) | decide) only [sX0_valueOf_0, sX0_valueOf_1, kX0_valueOf_28_IA, sX0_valueOf_28, sX0_valueOf_29, sX0_valueOf_32, kX0_valueOf_33_IA, sX0_valueOf_33, sX0_valueOf_34, sX0_valueOf_37, kX0_valueOf_38_IA, sX0_valueOf_38, sX0_valueOf_39, sX0_valueOf_42, sX0_valueOf_43, sX0_valueOf_46, sX0_valueOf_47, evK_n, evK_v, evK_x, gI_pI, gJ_pI, gR_pI, gI_pJ, gJ_pJ, gR_pJ, gI_pR, gJ_pR, gR_pR, n32_le, n32_lt, n32_add, n32_mul, n32_cl, if_true, if_false, not_true_eq_false, not_false_eq_true, and_true, true_and, and_false, false_and, and_self, or_true, true_or, or_false, false_or, or_self, ne_eq, Decidable.not_not, Nat.reduceEqDiff, Nat.reduceEqDiff, sa_310, sb_310, n32_eq, Nat.reduceEqDiff, h1, h2, vlB]
theorem vlB_le {w : WD} {v kind k : Nat} : vlB w v kind k ≤ 12 := by
  have := k_small k
  have := k_cd k
  unfold vlB
  split
  · omega
  split
  · split <;> omega
  · omega
theorem c0_fits {g : fm_g} {d v k : Nat} {w : WD} {s : fm_S} (hF : FX s) (hC : CW s w) (hw : wOK w) (hE : HE s 310 w v) (hN : HN s 310 k) (hv : v < 24) (hst : kst k ≤ v + 1) : ∀ (m i : Nat), i + m = wl w → fitN w v k i = true → ev g (d + 2) mX0_isFitting 2 [some (.ref (61 : Nat)), some (.int (Int32.ofNat v)), some (.ref (310 : Nat)), some (.int (Int32.ofNat i))] [] s = some (.inl (some (.int (bi (fitN w v k (wl w) = true)))), s) := by
  obtain ⟨-, -, -, -, c5, c6⟩ := id hC
  have hl := hw.2.2.2.2.2.1
  have hB := hw.2.2.2.2.2.2
  have r1 := hF.u 61 1 62 (by decide +kernel)
  have r2 := hF.u 61 2 63 (by decide +kernel)
  have r3 := hF.u 61 3 64 (by decide +kernel)
  intro m
  induction m with
  | zero =>
    intro i hi ht
    have hii : i = wl w := by omega
    rw [hii] at ht ⊢
    rw [sX0_isFitting_2]
    simp (disch := first | exact jm_lt0 | (apply jm_ltx; (repeat (first | exact jw_0 | apply jw_i | apply jw_r | apply jw_l)); omega) | omega | assumption | exact sa_61 | exact sa_62 | exact sa_63 | exact sa_64 | exact n32_inA sb_61 (by omega) (by omega) | exact n32_inA sb_62 (by omega) (by omega) | exact n32_inA sb_63 (by omega) (by omega) | exact n32_inA sb_64 (by omega) (by omega) | (refine n32_inA (by assumption) ?_ ?_ <;> omega) | exact bi01 | (rw [sa_61]; omega) | (rw [sa_62]; omega) | (rw [sa_63]; omega) | (rw [sa_64]; omega) | decide) only [sX0_isFitting_0, sX0_isFitting_1, sX0_isFitting_3, sX0_isFitting_4, sX0_isFitting_7, sX0_isFitting_10, sX0_isFitting_11, sX0_isFitting_13, sX0_isFitting_16, sX0_isFitting_17, sX0_isFitting_20, sX0_isFitting_21, sX0_isFitting_22, sX0_isFitting_23, sX0_isFitting_26, sX0_isFitting_27, sX0_isFitting_30, sX0_isFitting_31, sX0_isFitting_32, sX0_isFitting_33, sX0_isFitting_36, sX0_isFitting_37, sX0_isFitting_38, sX0_isFitting_39, sX0_isFitting_42, sX0_isFitting_45, sX0_isFitting_46, sX0_isFitting_47, sX0_isFitting_50, kX0_isFitting_53_AIAI, sX0_isFitting_53, sX0_isFitting_54, evK_n, evK_v, evK_x, gI_pI, gJ_pI, gR_pI, gI_pJ, gJ_pJ, gR_pJ, gI_pR, gJ_pR, gR_pR, n32_le, n32_lt, n32_add, n32_mul, n32_cl, if_true, if_false, not_true_eq_false, not_false_eq_true, and_true, true_and, and_false, false_and, and_self, or_true, true_or, or_false, false_or, or_self, ne_eq, Decidable.not_not, Nat.reduceEqDiff, Nat.reduceEqDiff, sa_61, sb_61, sa_62, sb_62, sa_63, sb_63, sa_64, sb_64, c5]
    rw [if_pos (by omega), bi_t ht]
  | succ m ih =>
    intro i hi ht
    obtain ⟨q1, q2, q3⟩ := c6 i (by omega)
    obtain ⟨b1, b2, b3⟩ := hB i (by omega)
    have e1 := c0_valueOf (g := g) (d := d) (kind := (wB w i).2.1) hF hE hN hv hst b2
    have hvl := vlB_le (w := w) (v := v) (kind := (wB w i).2.1) (k := k)
    have g1 : ¬ wl w ≤ i := by omega
    have g2 : ¬ 10 ≤ i := by omega
    rw [sX0_isFitting_2]
    by_cases c : (wB w i).1 = v
    · by_cases c2 : (wB w i).2.2 = vlB w v (wB w i).2.1 k
      · have h := ih (i + 1) (by omega) (by rw [fitN, ht, Bool.true_and, decide_eq_true c2, Bool.or_true])
        simp (disch := first | exact jm_lt0 | (apply jm_ltx; (repeat (first | exact jw_0 | apply jw_i | apply jw_r | apply jw_l)); omega) | omega | assumption | exact sa_61 | exact sa_62 | exact sa_63 | exact sa_64 | exact n32_inA sb_61 (by omega) (by omega) | exact n32_inA sb_62 (by omega) (by omega) | exact n32_inA sb_63 (by omega) (by omega) | exact n32_inA sb_64 (by omega) (by omega) | (refine n32_inA (by assumption) ?_ ?_ <;> omega) | exact bi01 | (rw [sa_61]; omega) | (rw [sa_62]; omega) | (rw [sa_63]; omega) | (rw [sa_64]; omega) | decide) only [sX0_isFitting_0, sX0_isFitting_1, sX0_isFitting_3, sX0_isFitting_4, sX0_isFitting_7, sX0_isFitting_10, sX0_isFitting_11, sX0_isFitting_13, sX0_isFitting_16, sX0_isFitting_17, sX0_isFitting_20, sX0_isFitting_21, sX0_isFitting_22, sX0_isFitting_23, sX0_isFitting_26, sX0_isFitting_27, sX0_isFitting_30, sX0_isFitting_31, sX0_isFitting_32, sX0_isFitting_33, sX0_isFitting_36, sX0_isFitting_37, sX0_isFitting_38, sX0_isFitting_39, sX0_isFitting_42, sX0_isFitting_45, sX0_isFitting_46, sX0_isFitting_47, sX0_isFitting_50, kX0_isFitting_53_AIAI, sX0_isFitting_53, sX0_isFitting_54, evK_n, evK_v, evK_x, gI_pI, gJ_pI, gR_pI, gI_pJ, gJ_pJ, gR_pJ, gI_pR, gJ_pR, gR_pR, n32_le, n32_lt, n32_add, n32_mul, n32_cl, if_true, if_false, not_true_eq_false, not_false_eq_true, and_true, true_and, and_false, false_and, and_self, or_true, true_or, or_false, false_or, or_self, ne_eq, Decidable.not_not, Nat.reduceEqDiff, Nat.reduceEqDiff, sa_61, sb_61, sa_62, sb_62, sa_63, sb_63, sa_64, sb_64, c5, g1, g2, r1, r2, r3, q1, q2, q3, n32_eq, c, e1, c2]
        exact h
      · have : ¬ fitN w v k (wl w) = true := fun h => by
          have h2 := fit_mono (n := i + 1) (by omega) h
          rw [fitN, ht, Bool.true_and, decide_eq_false c2, Bool.or_false] at h2
          exact of_decide_eq_true h2 c
        rw [bi_f this]
        simp (disch := first | exact jm_lt0 | (apply jm_ltx; (repeat (first | exact jw_0 | apply jw_i | apply jw_r | apply jw_l)); omega) | omega | assumption | exact sa_61 | exact sa_62 | exact sa_63 | exact sa_64 | exact n32_inA sb_61 (by omega) (by omega) | exact n32_inA sb_62 (by omega) (by omega) | exact n32_inA sb_63 (by omega) (by omega) | exact n32_inA sb_64 (by omega) (by omega) | (refine n32_inA (by assumption) ?_ ?_ <;> omega) | exact bi01 | (rw [sa_61]; omega) | (rw [sa_62]; omega) | (rw [sa_63]; omega) | (rw [sa_64]; omega) | decide) only [sX0_isFitting_0, sX0_isFitting_1, sX0_isFitting_3, sX0_isFitting_4, sX0_isFitting_7, sX0_isFitting_10, sX0_isFitting_11, sX0_isFitting_13, sX0_isFitting_16, sX0_isFitting_17, sX0_isFitting_20, sX0_isFitting_21, sX0_isFitting_22, sX0_isFitting_23, sX0_isFitting_26, sX0_isFitting_27, sX0_isFitting_30, sX0_isFitting_31, sX0_isFitting_32, sX0_isFitting_33, sX0_isFitting_36, sX0_isFitting_37, sX0_isFitting_38, sX0_isFitting_39, sX0_isFitting_42, sX0_isFitting_45, sX0_isFitting_46, sX0_isFitting_47, sX0_isFitting_50, kX0_isFitting_53_AIAI, sX0_isFitting_53, sX0_isFitting_54, evK_n, evK_v, evK_x, gI_pI, gJ_pI, gR_pI, gI_pJ, gJ_pJ, gR_pJ, gI_pR, gJ_pR, gR_pR, n32_le, n32_lt, n32_add, n32_mul, n32_cl, if_true, if_false, not_true_eq_false, not_false_eq_true, and_true, true_and, and_false, false_and, and_self, or_true, true_or, or_false, false_or, or_self, ne_eq, Decidable.not_not, Nat.reduceEqDiff, Nat.reduceEqDiff, sa_61, sb_61, sa_62, sb_62, sa_63, sb_63, sa_64, sb_64, c5, g1, g2, r1, r2, r3, q1, q2, q3, n32_eq, c, e1, c2]
    · have h := ih (i + 1) (by omega) (by rw [fitN, ht, Bool.true_and, decide_eq_true c, Bool.true_or])
      simp (disch := first | exact jm_lt0 | (apply jm_ltx; (repeat (first | exact jw_0 | apply jw_i | apply jw_r | apply jw_l)); omega) | omega | assumption | exact sa_61 | exact sa_62 | exact sa_63 | exact sa_64 | exact n32_inA sb_61 (by omega) (by omega) | exact n32_inA sb_62 (by omega) (by omega) | exact n32_inA sb_63 (by omega) (by omega) | exact n32_inA sb_64 (by omega) (by omega) | (refine n32_inA (by assumption) ?_ ?_ <;> omega) | exact bi01 | (rw [sa_61]; omega) | (rw [sa_62]; omega) | (rw [sa_63]; omega) | (rw [sa_64]; omega) | decide) only [sX0_isFitting_0, sX0_isFitting_1, sX0_isFitting_3, sX0_isFitting_4, sX0_isFitting_7, sX0_isFitting_10, sX0_isFitting_11, sX0_isFitting_13, sX0_isFitting_16, sX0_isFitting_17, sX0_isFitting_20, sX0_isFitting_21, sX0_isFitting_22, sX0_isFitting_23, sX0_isFitting_26, sX0_isFitting_27, sX0_isFitting_30, sX0_isFitting_31, sX0_isFitting_32, sX0_isFitting_33, sX0_isFitting_36, sX0_isFitting_37, sX0_isFitting_38, sX0_isFitting_39, sX0_isFitting_42, sX0_isFitting_45, sX0_isFitting_46, sX0_isFitting_47, sX0_isFitting_50, kX0_isFitting_53_AIAI, sX0_isFitting_53, sX0_isFitting_54, evK_n, evK_v, evK_x, gI_pI, gJ_pI, gR_pI, gI_pJ, gJ_pJ, gR_pJ, gI_pR, gJ_pR, gR_pR, n32_le, n32_lt, n32_add, n32_mul, n32_cl, if_true, if_false, not_true_eq_false, not_false_eq_true, and_true, true_and, and_false, false_and, and_self, or_true, true_or, or_false, false_or, or_self, ne_eq, Decidable.not_not, Nat.reduceEqDiff, Nat.reduceEqDiff, sa_61, sb_61, sa_62, sb_62, sa_63, sb_63, sa_64, sb_64, c5, g1, g2, r1, r2, r3, q1, q2, q3, n32_eq, c]
      exact h
section KF
variable {s0 : fm_S} {A A' : Nat} {l : List Nat} {D : Nat → Nat}
def cFit (w : WD) (v k p : Nat) : List (Nat × Nat) := if fitN w v k (wl w) = true then [(k, p)] else []
theorem cFit_le {w : WD} {v k p : Nat} : amt (cFit w v k p) ≤ p := by
  unfold cFit
  split
  · rw [amt_1]; exact Nat.le_refl _
  · exact Nat.zero_le _
theorem cFit_pas {w : WD} {v k : Nat} (hk : k < NS) : pas (cFit w v) D k = filD w v D k := by
  unfold pas
  have e : ∀ j, j < NS → tal (cFit w v j (D j)) k = if j = k then filD w v D j else 0 := fun j _ => by
    unfold cFit filD
    by_cases c : fitN w v j (wl w) = true
    · rw [if_pos c, if_pos c, tal_cons, tal_nil, Nat.add_zero]
    · rw [if_neg c, if_neg c, tal_nil]
      split <;> rfl
  rw [sumN_congr e, sumN_at hk]
theorem c7_keepLoop {g : fm_g} {d v : Nat} {w : WD} (hW : WB s0 A A' l D) (hCW : CW s0 w) (hw : wOK w) (hE : HE s0 310 w v) (hv : v < 24) (hsup : ∀ k, k < NS → D k ≠ 0 → kst k ≤ v + 1) : ∀ (m i : Nat) (s : fm_S), i + m = l.length → PS s0 s A A' l D (prt (cFit w v) D l i) → CN s0 s → ∃ s', ev g (d + 3) mX7_keepFitting 11 [some (.ref (307 : Nat)), some (.ref (61 : Nat)), some (.int (Int32.ofNat v)), some (.int (Int32.ofNat i)), none, none] [] s = some (.inl none, s') ∧ RM pO qO rsw s0 s' ∧ OS s' (pas (cFit w v) D) ∧ CN s0 s' := by
  obtain ⟨hF, hO, hB, hC, hC', hS⟩ := id hW
  obtain ⟨a1, a2, a3⟩ := od_A hO
  have sA : (shp A).1 = 1 := (clS hO.2.2.1).1
  have sA' : (shp A').1 = 1 := (clS hO.2.2.2.1).1
  have hB2 : BIG = 4611686018427387904 := rfl
  have hO2 : ONE = 1099511627776 := rfl
  have hlen := hC.len
  have hamt : ∀ k, k < NS → amt (cFit w v k (D k)) ≤ D k := fun k hk => cFit_le
  intro m
  induction m with
  | zero =>
    intro i s hi hP hN
    have hil : i = l.length := by omega
    subst hil
    obtain ⟨x1, x2, x3, x4, x5⟩ := hP.refs hF hO
    obtain ⟨s', f1, f2, f3, f4, f5⟩ := hP.goOn (g := g) (d := d + 1) hF hO
    refine ⟨s', ?_, f2, by rw [← hW.fin (fun k _ => Nat.le_zero.mp cFit_le)]; exact f3, hN.tr ⟨f4, f5⟩⟩
    rw [sX7_keepFitting_11]
    simp (disch := first | exact jm_lt0 | (apply jm_ltx; (repeat (first | exact jw_0 | apply jw_i | apply jw_r | apply jw_l)); omega) | omega | assumption | exact sa_307 | exact n32_inA sb_307 (by omega) (by omega) | (refine n32_inA (by assumption) ?_ ?_ <;> omega) | exact bi01 | (rw [sa_307]; omega) | decide) only [sX7_keepFitting_0, sX7_keepFitting_1, sX7_keepFitting_2, sX7_keepFitting_5, sX7_keepFitting_8, sX7_keepFitting_9, sX7_keepFitting_10, sX7_keepFitting_12, sX7_keepFitting_13, sX7_keepFitting_16, sX7_keepFitting_19, sX7_keepFitting_22, sX7_keepFitting_23, sX7_keepFitting_24, sX7_keepFitting_27, sX7_keepFitting_29, sX7_keepFitting_30, sX7_keepFitting_31, sX7_keepFitting_32, sX7_keepFitting_35, sX7_keepFitting_38, sX7_keepFitting_41, sX7_keepFitting_42, sX7_keepFitting_45, sX7_keepFitting_46, sX7_keepFitting_49, sX7_keepFitting_50, sX7_keepFitting_53, sX7_keepFitting_55, kX7_keepFitting_58_AAIIJN, sX7_keepFitting_58, sX7_keepFitting_61, kX7_keepFitting_64_AAIINN, sX7_keepFitting_64, sX7_keepFitting_65, sX7_keepFitting_68, evK_n, evK_v, evK_x, gI_pI, gJ_pI, gR_pI, gI_pJ, gJ_pJ, gR_pJ, gI_pR, gJ_pR, gR_pR, n32_le, n32_lt, n32_add, n32_mul, n32_cl, if_true, if_false, not_true_eq_false, not_false_eq_true, and_true, true_and, and_false, false_and, and_self, or_true, true_or, or_false, false_or, or_self, ne_eq, Decidable.not_not, Nat.reduceEqDiff, Nat.reduceEqDiff, sa_307, sb_307, x2, x5]
    rw [if_pos (by omega), f1, evK_n, sX7_keepFitting_68]
  | succ m ih =>
    intro i s hi hP hN
    have hil : i < l.length := by omega
    have hik : l[i]? = some l[i] := List.getElem?_eq_getElem hil
    generalize l[i] = k at hik
    obtain ⟨hk, hDk⟩ := hW.it hik
    have hst := hsup k hk ((hC.2.2.2.2 k hk).2.2.mp (List.mem_of_getElem? hik))
    obtain ⟨x1, x2, x3, x4, x5⟩ := hP.refs hF hO
    have hpl := hW.pr hamt i
    obtain ⟨s1, e1, hP1, hN1, hM1⟩ := hP.load (g := g) (d := d) hF hO hB hik
    obtain ⟨y1, y2, y3, y4, y5⟩ := hP1.refs hF hO
    have hE1 : HE s1 310 w v := hE.of hP1.1.2.1
    have hC1 : CW s1 w := hCW.of hw (fun b j hb => hP1.1.2.1 b j (fun q => hb (pO_TC q)))
    have e2 : ev g (d + 2) mX0_isFitting 0 [some (.ref (61 : Nat)), some (.int (Int32.ofNat v)), some (.ref (310 : Nat)), none] [] s1 = some (.inl (some (.int (bi (fitN w v k (wl w) = true)))), s1) := by
      rw [sX0_isFitting_0, sX0_isFitting_1]
      exact c0_fits (g := g) (d := d) y1 hC1 hw hE1 hN1 hv hst (wl w) 0 (by omega) rfl
    have e3 := hP1.state (g := g) (d := d + 2) hF hO hik
    have hnext := prt_succ (con := cFit w v) (D := D) hik
    have g1 : ¬ l.length ≤ i := by omega
    by_cases c : fitN w v k (wl w) = true
    · have hc : cFit w v k (D k) = [(k, D k)] := by unfold cFit; rw [if_pos c]
      rw [hc] at hnext
      obtain ⟨s4, e5, hP4, hM4⟩ := hP1.add (g := g) (d := d + 2) (k := k) (m := D k) hF hO hk (by have := hpl k; omega)
      rw [upd_1, ← hnext] at hP4
      obtain ⟨s', f1, f2, f3, f4⟩ := ih (i + 1) s4 (by omega) hP4 ((hN.tr (CN.h hM1)).tr (CN.cl hM4 a2))
      refine ⟨s', ?_, f2, f3, f4⟩
      rw [bi_t c] at e2
      rw [sX7_keepFitting_11]
      simp (disch := first | exact jm_lt0 | (apply jm_ltx; (repeat (first | exact jw_0 | apply jw_i | apply jw_r | apply jw_l)); omega) | omega | assumption | exact sa_307 | exact sa_61 | exact n32_inA sb_307 (by omega) (by omega) | exact n32_inA sb_61 (by omega) (by omega) | (refine n32_inA (by assumption) ?_ ?_ <;> omega) | exact bi01 | (rw [sa_307]; omega) | (rw [sa_61]; omega) | decide) only [sX7_keepFitting_0, sX7_keepFitting_1, sX7_keepFitting_2, sX7_keepFitting_5, sX7_keepFitting_8, sX7_keepFitting_9, sX7_keepFitting_10, sX7_keepFitting_12, sX7_keepFitting_13, sX7_keepFitting_16, sX7_keepFitting_19, sX7_keepFitting_22, sX7_keepFitting_23, sX7_keepFitting_24, sX7_keepFitting_27, sX7_keepFitting_29, sX7_keepFitting_30, sX7_keepFitting_31, sX7_keepFitting_32, sX7_keepFitting_35, sX7_keepFitting_38, sX7_keepFitting_41, sX7_keepFitting_42, sX7_keepFitting_45, sX7_keepFitting_46, sX7_keepFitting_49, sX7_keepFitting_50, sX7_keepFitting_53, sX7_keepFitting_55, kX7_keepFitting_58_AAIIJN, sX7_keepFitting_58, sX7_keepFitting_61, kX7_keepFitting_64_AAIINN, sX7_keepFitting_64, sX7_keepFitting_65, sX7_keepFitting_68, evK_n, evK_v, evK_x, gI_pI, gJ_pI, gR_pI, gI_pJ, gJ_pJ, gR_pJ, gI_pR, gJ_pR, gR_pR, n32_le, n32_lt, n32_add, n32_mul, n32_cl, if_true, if_false, not_true_eq_false, not_false_eq_true, and_true, true_and, and_false, false_and, and_self, or_true, true_or, or_false, false_or, or_self, ne_eq, Decidable.not_not, Nat.reduceEqDiff, Nat.reduceEqDiff, sa_307, sb_307, sa_61, sb_61, x2, x5, g1, e1, y2, y3, y4, e2, show ¬ (Int32.ofNat 1 = 0) by decide, e3, e5]
      exact f1
    · have hc : cFit w v k (D k) = [] := by unfold cFit; rw [if_neg c]
      rw [hc, addF_nil] at hnext
      rw [← hnext] at hP1
      obtain ⟨s', f1, f2, f3, f4⟩ := ih (i + 1) s1 (by omega) hP1 (hN.tr (CN.h hM1))
      refine ⟨s', ?_, f2, f3, f4⟩
      rw [bi_f c] at e2
      rw [sX7_keepFitting_11]
      simp (disch := first | exact jm_lt0 | (apply jm_ltx; (repeat (first | exact jw_0 | apply jw_i | apply jw_r | apply jw_l)); omega) | omega | assumption | exact sa_307 | exact sa_61 | exact n32_inA sb_307 (by omega) (by omega) | exact n32_inA sb_61 (by omega) (by omega) | (refine n32_inA (by assumption) ?_ ?_ <;> omega) | exact bi01 | (rw [sa_307]; omega) | (rw [sa_61]; omega) | decide) only [sX7_keepFitting_0, sX7_keepFitting_1, sX7_keepFitting_2, sX7_keepFitting_5, sX7_keepFitting_8, sX7_keepFitting_9, sX7_keepFitting_10, sX7_keepFitting_12, sX7_keepFitting_13, sX7_keepFitting_16, sX7_keepFitting_19, sX7_keepFitting_22, sX7_keepFitting_23, sX7_keepFitting_24, sX7_keepFitting_27, sX7_keepFitting_29, sX7_keepFitting_30, sX7_keepFitting_31, sX7_keepFitting_32, sX7_keepFitting_35, sX7_keepFitting_38, sX7_keepFitting_41, sX7_keepFitting_42, sX7_keepFitting_45, sX7_keepFitting_46, sX7_keepFitting_49, sX7_keepFitting_50, sX7_keepFitting_53, sX7_keepFitting_55, kX7_keepFitting_58_AAIIJN, sX7_keepFitting_58, sX7_keepFitting_61, kX7_keepFitting_64_AAIINN, sX7_keepFitting_64, sX7_keepFitting_65, sX7_keepFitting_68, evK_n, evK_v, evK_x, gI_pI, gJ_pI, gR_pI, gI_pJ, gJ_pJ, gR_pJ, gI_pR, gJ_pR, gR_pR, n32_le, n32_lt, n32_add, n32_mul, n32_cl, if_true, if_false, not_true_eq_false, not_false_eq_true, and_true, true_and, and_false, false_and, and_self, or_true, true_or, or_false, false_or, or_self, ne_eq, Decidable.not_not, Nat.reduceEqDiff, Nat.reduceEqDiff, sa_307, sb_307, sa_61, sb_61, x2, x5, g1, e1, y2, y3, y4, e2, z32]
      exact f1
theorem c7_keep {g : fm_g} {d v : Nat} {w : WD} {s : fm_S} (hF : FX s) (hB : TB s) (hO : OS s D) (hD : sumN D NS ≤ ONE) (hCW : CW s w) (hw : wOK w) (hE : HE s 310 w v) (hv : v < 24) (hsup : ∀ k, k < NS → D k ≠ 0 → kst k ≤ v + 1) : ∃ s', ev g (d + 3) mX7_keepFitting 0 [some (.ref (307 : Nat)), some (.ref (61 : Nat)), some (.int (Int32.ofNat v)), none, none, none] [] s = some (.inl none, s') ∧ RM pO qO rsw s s' ∧ OS s' (filD w v D) ∧ CN s s' := by
  have e1 : ev g (d + 2) mX0_tellsOf 0 [some (.ref (61 : Nat)), some (.int (Int32.ofNat v)), none] [] s = some (.inl (some (.int (bi (tlN w v (wl w) = true)))), s) := by
    rw [sX0_tellsOf_0, sX0_tellsOf_1]
    exact c0_tells (g := g) (d := d + 2) hF hCW hw hv (wl w) 0 (by omega) rfl
  cases c : tlN w v (wl w) with
  | false =>
    rw [bi_f (by rw [c]; decide)] at e1
    refine ⟨s, ?_, RM.rf, OS.congr hO (fun k _ => by unfold filD; rw [if_pos (fit_tl _ c)]), CN.rf⟩
    simp (disch := first | exact jm_lt0 | (apply jm_ltx; (repeat (first | exact jw_0 | apply jw_i | apply jw_r | apply jw_l)); omega) | omega | assumption | exact sa_307 | exact sa_61 | exact n32_inA sb_307 (by omega) (by omega) | exact n32_inA sb_61 (by omega) (by omega) | (refine n32_inA (by assumption) ?_ ?_ <;> omega) | exact bi01 | (rw [sa_307]; omega) | (rw [sa_61]; omega) | decide) only [sX7_keepFitting_0, sX7_keepFitting_1, sX7_keepFitting_2, sX7_keepFitting_5, sX7_keepFitting_8, sX7_keepFitting_9, sX7_keepFitting_10, sX7_keepFitting_12, sX7_keepFitting_13, sX7_keepFitting_16, sX7_keepFitting_19, sX7_keepFitting_22, sX7_keepFitting_23, sX7_keepFitting_24, sX7_keepFitting_27, sX7_keepFitting_29, sX7_keepFitting_30, sX7_keepFitting_31, sX7_keepFitting_32, sX7_keepFitting_35, sX7_keepFitting_38, sX7_keepFitting_41, sX7_keepFitting_42, sX7_keepFitting_45, sX7_keepFitting_46, sX7_keepFitting_49, sX7_keepFitting_50, sX7_keepFitting_53, sX7_keepFitting_55, kX7_keepFitting_58_AAIIJN, sX7_keepFitting_58, sX7_keepFitting_61, kX7_keepFitting_64_AAIINN, sX7_keepFitting_64, sX7_keepFitting_65, sX7_keepFitting_68, evK_n, evK_v, evK_x, gI_pI, gJ_pI, gR_pI, gI_pJ, gJ_pJ, gR_pJ, gI_pR, gJ_pR, gR_pR, n32_le, n32_lt, n32_add, n32_mul, n32_cl, if_true, if_false, not_true_eq_false, not_false_eq_true, and_true, true_and, and_false, false_and, and_self, or_true, true_or, or_false, false_or, or_self, ne_eq, Decidable.not_not, Nat.reduceEqDiff, Nat.reduceEqDiff, sa_307, sb_307, sa_61, sb_61, e1, z32]
  | true =>
    rw [bi_t c] at e1
    obtain ⟨A, A', l, o1, o2, o3⟩ := hO
    have hW : WB s A A' l D := ⟨hF, o1, hB, o2, o3, hD⟩
    obtain ⟨s', f1, f2, f3, f4⟩ := c7_keepLoop (g := g) (d := d) hW hCW hw hE hv hsup l.length 0 s (by omega) hW.ps CN.rf
    refine ⟨s', ?_, f2, OS.congr f3 (fun k hk => cFit_pas hk), f4⟩
    simp (disch := first | exact jm_lt0 | (apply jm_ltx; (repeat (first | exact jw_0 | apply jw_i | apply jw_r | apply jw_l)); omega) | omega | assumption | exact sa_307 | exact sa_61 | exact n32_inA sb_307 (by omega) (by omega) | exact n32_inA sb_61 (by omega) (by omega) | (refine n32_inA (by assumption) ?_ ?_ <;> omega) | exact bi01 | (rw [sa_307]; omega) | (rw [sa_61]; omega) | decide) only [sX7_keepFitting_0, sX7_keepFitting_1, sX7_keepFitting_2, sX7_keepFitting_5, sX7_keepFitting_8, sX7_keepFitting_9, sX7_keepFitting_10, sX7_keepFitting_12, sX7_keepFitting_13, sX7_keepFitting_16, sX7_keepFitting_19, sX7_keepFitting_22, sX7_keepFitting_23, sX7_keepFitting_24, sX7_keepFitting_27, sX7_keepFitting_29, sX7_keepFitting_30, sX7_keepFitting_31, sX7_keepFitting_32, sX7_keepFitting_35, sX7_keepFitting_38, sX7_keepFitting_41, sX7_keepFitting_42, sX7_keepFitting_45, sX7_keepFitting_46, sX7_keepFitting_49, sX7_keepFitting_50, sX7_keepFitting_53, sX7_keepFitting_55, kX7_keepFitting_58_AAIIJN, sX7_keepFitting_58, sX7_keepFitting_61, kX7_keepFitting_64_AAIINN, sX7_keepFitting_64, sX7_keepFitting_65, sX7_keepFitting_68, evK_n, evK_v, evK_x, gI_pI, gJ_pI, gR_pI, gI_pJ, gJ_pJ, gR_pJ, gI_pR, gJ_pR, gR_pR, n32_le, n32_lt, n32_add, n32_mul, n32_cl, if_true, if_false, not_true_eq_false, not_false_eq_true, and_true, true_and, and_false, false_and, and_self, or_true, true_or, or_false, false_or, or_self, ne_eq, Decidable.not_not, Nat.reduceEqDiff, Nat.reduceEqDiff, sa_307, sb_307, sa_61, sb_61, e1, show ¬ (Int32.ofNat 1 = 0) by decide]
    exact f1
end KF
