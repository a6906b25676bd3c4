/-! since, often, keeper, spoiler, fill on both sides -/
section AZ0
variable {g : fm_g} {d c ver : Nat} {w : WD} {G : GS} {s t : fm_S}
/-- the options but those at j and k -/
def OPe (j k : Nat) (t t' : fm_S) : Prop := ∀ i, 43 ≤ i → i ≤ 50 → i ≠ j → i ≠ k → gI t' 432 i = gI t 432 i
theorem OPe.p {j k : Nat} {x : Int32} {t t1 t2 : fm_S} (h : OPe j k t t1) (q : OPq (pI t1 432 j x) t2) : OPe j k t t2 := fun i h1 h2 h3 h4 => by rw [q i h1 h2, gI_pI, if_neg (by omega), h i h1 h2 h3 h4]
theorem PM.e1 {j : Nat} {x : Int32} {o : OPT} {t t1 : fm_S} (h : PM (pI t 432 j x) o false) (q : OPe j j t t1) : PM (pI t1 432 j x) o false := h.of (fun i h1 h2 => by
  by_cases c : i = j
  · rw [gI_pI, if_pos ⟨rfl, c⟩, gI_pI, if_pos ⟨rfl, c⟩]
  · rw [gI_pI, if_neg (by omega), gI_pI, if_neg (by omega), q i h1 h2 c c])
/-- the first VISIT behind which the card is true too seldom -/
def sncF (T : Nat → Nat) (n k : Nat) : Int32 := if h : k < n then (if T k < 549755813888 then Int32.ofNat k else sncF T n (k + 1)) else -1
termination_by n - k
def trF (w : WD) (v : Nat) : Nat := fctS w v 1 (zGo w (o00 w) (v + 1)).1
theorem trF_le {v : Nat} (hw : wOK w) (hv : v < wn w) : trF w v ≤ ONE := fct_le (Nat.le_of_eq (go_ok hw (o00_ok hw) (v + 1) (by omega)).2.2)
theorem c_since (hw : wOK w) : ∀ (m k : Nat) (s : fm_S), k + m = wn w → LI s w ver → ∃ s', ev g (d + 35) mX11_since 10 [some (.ref (0 : Nat)), some (.int (Int32.ofNat (wn w))), some (.int (Int32.ofNat k))] [] s = some (.inl (some (.int (sncF (trF w) (wn w) k))), s') ∧ LQ s s' w ver := by
  have hn24 : wn w ≤ 24 := hw.2.2.1
  intro m
  induction m with
  | zero =>
    intro k s hk h
    have hil : k = wn w := by omega
    refine ⟨s, ?_, LQ.rf h⟩
    rw [sncF, dif_neg (by omega), sX11_since_10]
    subst hil
    simp (disch := first | exact jm_lt0 | (apply jm_ltx; (repeat (first | exact jw_0 | apply jw_i | apply jw_r | apply jw_l)); omega) | omega | assumption | exact sa_0 | exact n32_inA sb_0 (by omega) (by omega) | (refine n32_inA (by assumption) ?_ ?_ <;> omega) | exact bi01 | (rw [sa_0]; omega) | decide) only [sX11_since_0, sX11_since_1, sX11_since_4, sX11_since_7, sX11_since_8, sX11_since_9, sX11_since_11, sX11_since_12, sX11_since_15, sX11_since_16, sX11_since_19, sX11_since_20, sX11_since_23, sX11_since_24, sX11_since_25, sX11_since_28, sX11_since_31, sX11_since_32, sX11_since_35, sX11_since_36, sX11_since_37, sX11_since_40, kX11_since_43_AII, sX11_since_43, sX11_since_44, evK_n, evK_v, evK_x, gI_pI, gJ_pI, gR_pI, gI_pJ, gJ_pJ, gR_pJ, gI_pR, gJ_pR, gR_pR, if_true, if_false, not_true_eq_false, not_false_eq_true, and_true, true_and, and_false, false_and, and_self, or_true, true_or, or_false, false_or, or_self, ne_eq, Decidable.not_not, Nat.reduceEqDiff, Nat.reduceEqDiff, n32_le, n32_lt, n32_add, n32_mul, n32_cl]
    rw [if_pos (Nat.le_refl _)]
  | succ m ih =>
    intro k s hk h
    have r01 := h.1.u 0 1 3 (by decide +kernel)
    have r06 := h.1.u 0 6 306 (by decide +kernel)
    obtain ⟨s1, e1, q1⟩ := c6_fact (g := g) (d := d + 28) h (show k < wn w by omega) (show 1 < 6 by decide)
    obtain ⟨s', f1, f2⟩ := ih (k + 1) s1 (by omega) q1.2
    have hb := trF_le hw (show k < wn w by omega)
    have hO : ONE = 1099511627776 := rfl
    have hlt : (Int64.ofNat 549755813888 ≤ Int64.ofNat (trF w k)) = (549755813888 ≤ trF w k) := n64_le (by omega) (by omega)
    have e1' : ev g (d + 34) mX6_factBehind 0 [some (.ref (306 : Nat)), some (.ref (3 : Nat)), some (.int (Int32.ofNat k)), some (.int (Int32.ofNat 1))] [] s = some (.inl (some (.long (Int64.ofNat (trF w k)))), s1) := e1
    have g1 : ¬ wn w ≤ k := by omega
    rw [sncF, dif_pos (by omega)]
    by_cases cc : trF w k < 549755813888
    · have cc' : ¬ 549755813888 ≤ trF w k := by omega
      refine ⟨s1, ?_, q1⟩
      rw [if_pos cc, sX11_since_10]
      simp (disch := first | exact jm_lt0 | (apply jm_ltx; (repeat (first | exact jw_0 | apply jw_i | apply jw_r | apply jw_l)); omega) | omega | assumption | exact sa_0 | exact sa_3 | exact sa_306 | exact n32_inA sb_0 (by omega) (by omega) | exact n32_inA sb_3 (by omega) (by omega) | exact n32_inA sb_306 (by omega) (by omega) | (refine n32_inA (by assumption) ?_ ?_ <;> omega) | exact bi01 | (rw [sa_0]; omega) | (rw [sa_3]; omega) | (rw [sa_306]; omega) | decide) only [sX11_since_0, sX11_since_1, sX11_since_4, sX11_since_7, sX11_since_8, sX11_since_9, sX11_since_11, sX11_since_12, sX11_since_15, sX11_since_16, sX11_since_19, sX11_since_20, sX11_since_23, sX11_since_24, sX11_since_25, sX11_since_28, sX11_since_31, sX11_since_32, sX11_since_35, sX11_since_36, sX11_since_37, sX11_since_40, kX11_since_43_AII, sX11_since_43, sX11_since_44, evK_n, evK_v, evK_x, gI_pI, gJ_pI, gR_pI, gI_pJ, gJ_pJ, gR_pJ, gI_pR, gJ_pR, gR_pR, if_true, if_false, not_true_eq_false, not_false_eq_true, and_true, true_and, and_false, false_and, and_self, or_true, true_or, or_false, false_or, or_self, ne_eq, Decidable.not_not, Nat.reduceEqDiff, Nat.reduceEqDiff, n32_le, n32_lt, n32_add, n32_mul, n32_cl, sa_0, sb_0, sa_3, sb_3, sa_306, sb_306, g1, r01, r06, e1', n64_cge, hlt, cc']
    · have cc' : 549755813888 ≤ trF w k := by omega
      refine ⟨s', ?_, q1.tr f2⟩
      rw [if_neg cc, sX11_since_10]
      simp (disch := first | exact jm_lt0 | (apply jm_ltx; (repeat (first | exact jw_0 | apply jw_i | apply jw_r | apply jw_l)); omega) | omega | assumption | exact sa_0 | exact sa_3 | exact sa_306 | exact n32_inA sb_0 (by omega) (by omega) | exact n32_inA sb_3 (by omega) (by omega) | exact n32_inA sb_306 (by omega) (by omega) | (refine n32_inA (by assumption) ?_ ?_ <;> omega) | exact bi01 | (rw [sa_0]; omega) | (rw [sa_3]; omega) | (rw [sa_306]; omega) | decide) only [sX11_since_0, sX11_since_1, sX11_since_4, sX11_since_7, sX11_since_8, sX11_since_9, sX11_since_11, sX11_since_12, sX11_since_15, sX11_since_16, sX11_since_19, sX11_since_20, sX11_since_23, sX11_since_24, sX11_since_25, sX11_since_28, sX11_since_31, sX11_since_32, sX11_since_35, sX11_since_36, sX11_since_37, sX11_since_40, kX11_since_43_AII, sX11_since_43, sX11_since_44, evK_n, evK_v, evK_x, gI_pI, gJ_pI, gR_pI, gI_pJ, gJ_pJ, gR_pJ, gI_pR, gJ_pR, gR_pR, if_true, if_false, not_true_eq_false, not_false_eq_true, and_true, true_and, and_false, false_and, and_self, or_true, true_or, or_false, false_or, or_self, ne_eq, Decidable.not_not, Nat.reduceEqDiff, Nat.reduceEqDiff, n32_le, n32_lt, n32_add, n32_mul, n32_cl, sa_0, sb_0, sa_3, sb_3, sa_306, sb_306, g1, r01, r06, e1', n64_cge, hlt, cc']
      exact f1
theorem m_since (hF : FX t) (hM : MW t w) (hw : wOK w) (hT : ∀ v, v < wn w → gJ t 456 v = Int64.ofNat (trF w v)) : ∀ (m k : Nat), k + m = wn w → ev g (d + 35) mX12_since 15 [some (.ref (432 : Nat)), some (.int (Int32.ofNat k))] [] t = some (.inl (some (.int (sncF (trF w) (wn w) k))), t) := by
  have hn24 : wn w ≤ 24 := hw.2.2.1
  have h19 := hM.2.2.2.1.1
  have r40 := hF.u 432 40 456 (by decide +kernel)
  intro m
  induction m with
  | zero =>
    intro k hk
    have hil : k = wn w := by omega
    rw [sncF, dif_neg (by omega), sX12_since_15]
    subst hil
    simp (disch := first | exact jm_lt0 | (apply jm_ltx; (repeat (first | exact jw_0 | apply jw_i | apply jw_r | apply jw_l)); omega) | omega | assumption | exact sa_432 | exact n32_inA sb_432 (by omega) (by omega) | (refine n32_inA (by assumption) ?_ ?_ <;> omega) | exact bi01 | (rw [sa_432]; omega) | decide) only [sX12_since_0, sX12_since_1, sX12_since_2, sX12_since_5, sX12_since_6, sX12_since_9, sX12_since_10, sX12_since_13, sX12_since_14, sX12_since_16, sX12_since_17, sX12_since_20, sX12_since_23, sX12_since_26, sX12_since_27, sX12_since_30, sX12_since_31, sX12_since_32, sX12_since_33, sX12_since_36, sX12_since_37, sX12_since_40, sX12_since_41, sX12_since_42, sX12_since_45, kX12_since_48_AI, sX12_since_48, sX12_since_49, evK_n, evK_v, evK_x, gI_pI, gJ_pI, gR_pI, gI_pJ, gJ_pJ, gR_pJ, gI_pR, gJ_pR, gR_pR, if_true, if_false, not_true_eq_false, not_false_eq_true, and_true, true_and, and_false, false_and, and_self, or_true, true_or, or_false, false_or, or_self, ne_eq, Decidable.not_not, Nat.reduceEqDiff, Nat.reduceEqDiff, n32_le, n32_lt, n32_add, n32_mul, n32_cl, sa_432, sb_432, h19]
    rw [if_pos (Nat.le_refl _)]
  | succ m ih =>
    intro k hk
    have ih := ih (k + 1) (by omega)
    have hb := trF_le hw (show k < wn w by omega)
    have hO : ONE = 1099511627776 := rfl
    have hJ := hT k (by omega)
    have hml : Int64.ofNat 2 * Int64.ofNat (trF w k) = Int64.ofNat (2 * trF w k) := n64_mul _ _
    have hlt : (Int64.ofNat 1099511627776 ≤ Int64.ofNat (2 * trF w k)) = (1099511627776 ≤ 2 * trF w k) := n64_le (by omega) (by omega)
    have g1 : ¬ wn w ≤ k := by omega
    rw [sncF, dif_pos (by omega), sX12_since_15]
    by_cases cc : trF w k < 549755813888
    · have cc' : ¬ 1099511627776 ≤ 2 * trF w k := by omega
      rw [if_pos cc]
      simp (disch := first | exact jm_lt0 | (apply jm_ltx; (repeat (first | exact jw_0 | apply jw_i | apply jw_r | apply jw_l)); omega) | omega | assumption | exact sa_432 | exact sa_456 | exact n32_inA sb_432 (by omega) (by omega) | exact n32_inA sb_456 (by omega) (by omega) | (refine n32_inA (by assumption) ?_ ?_ <;> omega) | exact bi01 | (rw [sa_432]; omega) | (rw [sa_456]; omega) | decide) only [sX12_since_0, sX12_since_1, sX12_since_2, sX12_since_5, sX12_since_6, sX12_since_9, sX12_since_10, sX12_since_13, sX12_since_14, sX12_since_16, sX12_since_17, sX12_since_20, sX12_since_23, sX12_since_26, sX12_since_27, sX12_since_30, sX12_since_31, sX12_since_32, sX12_since_33, sX12_since_36, sX12_since_37, sX12_since_40, sX12_since_41, sX12_since_42, sX12_since_45, kX12_since_48_AI, sX12_since_48, sX12_since_49, evK_n, evK_v, evK_x, gI_pI, gJ_pI, gR_pI, gI_pJ, gJ_pJ, gR_pJ, gI_pR, gJ_pR, gR_pR, if_true, if_false, not_true_eq_false, not_false_eq_true, and_true, true_and, and_false, false_and, and_self, or_true, true_or, or_false, false_or, or_self, ne_eq, Decidable.not_not, Nat.reduceEqDiff, Nat.reduceEqDiff, n32_le, n32_lt, n32_add, n32_mul, n32_cl, sa_432, sb_432, sa_456, sb_456, h19, g1, r40, hJ, hml, n64_cge, hlt, cc']
    · have cc' : 1099511627776 ≤ 2 * trF w k := by omega
      rw [if_neg cc]
      simp (disch := first | exact jm_lt0 | (apply jm_ltx; (repeat (first | exact jw_0 | apply jw_i | apply jw_r | apply jw_l)); omega) | omega | assumption | exact sa_432 | exact sa_456 | exact n32_inA sb_432 (by omega) (by omega) | exact n32_inA sb_456 (by omega) (by omega) | (refine n32_inA (by assumption) ?_ ?_ <;> omega) | exact bi01 | (rw [sa_432]; omega) | (rw [sa_456]; omega) | decide) only [sX12_since_0, sX12_since_1, sX12_since_2, sX12_since_5, sX12_since_6, sX12_since_9, sX12_since_10, sX12_since_13, sX12_since_14, sX12_since_16, sX12_since_17, sX12_since_20, sX12_since_23, sX12_since_26, sX12_since_27, sX12_since_30, sX12_since_31, sX12_since_32, sX12_since_33, sX12_since_36, sX12_since_37, sX12_since_40, sX12_since_41, sX12_since_42, sX12_since_45, kX12_since_48_AI, sX12_since_48, sX12_since_49, evK_n, evK_v, evK_x, gI_pI, gJ_pI, gR_pI, gI_pJ, gJ_pJ, gR_pJ, gI_pR, gJ_pR, gR_pR, if_true, if_false, not_true_eq_false, not_false_eq_true, and_true, true_and, and_false, false_and, and_self, or_true, true_or, or_false, false_or, or_self, ne_eq, Decidable.not_not, Nat.reduceEqDiff, Nat.reduceEqDiff, n32_le, n32_lt, n32_add, n32_mul, n32_cl, sa_432, sb_432, sa_456, sb_456, h19, g1, r40, hJ, hml, n64_cge, hlt, cc']
      exact ih
theorem opn_since (h : Inv c s t) : OpN g (d + 35) mX11_since mX12_since [some (.ref (0 : Nat)), none, none] [some (.ref (432 : Nat)), none] c s t := by
  obtain ⟨w, G, ver, hC, hM, hG, hw, hv⟩ := h
  have hF := hC.1.1
  have hM0 := hM.t0
  obtain ⟨s1, e1, q1⟩ := c_since (g := g) (d := d) hw (wn w) 0 s (by omega) hC.1
  obtain ⟨t1, t2, f1, f2, y1, y2, y3, hM2, y4⟩ := mq_all (g := g) (d := d + 29) hM0 hw
  have f3 := m_since (g := g) (d := d) hM2.1 hM2.2.2.1 hw y4 (wn w) 0 (by omega)
  refine ⟨sncF (trF w) (wn w) 0, s1, t2, ?_, ?_, ⟨w, G, ver, hC.q hG q1, hM2, hG, hw, by omega⟩, q1.clk, t0_mlk.tr (go_mlk y1)⟩
  · simp (disch := first | exact jm_lt0 | (apply jm_ltx; (repeat (first | exact jw_0 | apply jw_i | apply jw_r | apply jw_l)); omega) | omega | assumption | exact sa_0 | exact sa_5 | exact n32_inA sb_0 (by omega) (by omega) | exact n32_inA sb_5 (by omega) (by omega) | (refine n32_inA (by assumption) ?_ ?_ <;> omega) | exact bi01 | (rw [sa_0]; omega) | (rw [sa_5]; omega) | decide) only [sX11_since_0, sX11_since_1, sX11_since_4, sX11_since_7, sX11_since_8, sX11_since_9, sX11_since_11, sX11_since_12, sX11_since_15, sX11_since_16, sX11_since_19, sX11_since_20, sX11_since_23, sX11_since_24, sX11_since_25, sX11_since_28, sX11_since_31, sX11_since_32, sX11_since_35, sX11_since_36, sX11_since_37, sX11_since_40, kX11_since_43_AII, sX11_since_43, sX11_since_44, evK_n, evK_v, evK_x, gI_pI, gJ_pI, gR_pI, gI_pJ, gJ_pJ, gR_pJ, gI_pR, gJ_pR, gR_pR, if_true, if_false, not_true_eq_false, not_false_eq_true, and_true, true_and, and_false, false_and, and_self, or_true, true_or, or_false, false_or, or_self, ne_eq, Decidable.not_not, Nat.reduceEqDiff, Nat.reduceEqDiff, sa_0, sb_0, sa_5, sb_5, c11_diary hF, c11_total hC hG]
    exact e1
  · simp (disch := first | exact jm_lt0 | (apply jm_ltx; (repeat (first | exact jw_0 | apply jw_i | apply jw_r | apply jw_l)); omega) | omega | assumption | exact sa_432 | exact n32_inA sb_432 (by omega) (by omega) | (refine n32_inA (by assumption) ?_ ?_ <;> omega) | exact bi01 | (rw [sa_432]; omega) | decide) only [sX12_since_0, sX12_since_1, sX12_since_2, sX12_since_5, sX12_since_6, sX12_since_9, sX12_since_10, sX12_since_13, sX12_since_14, sX12_since_16, sX12_since_17, sX12_since_20, sX12_since_23, sX12_since_26, sX12_since_27, sX12_since_30, sX12_since_31, sX12_since_32, sX12_since_33, sX12_since_36, sX12_since_37, sX12_since_40, sX12_since_41, sX12_since_42, sX12_since_45, kX12_since_48_AI, sX12_since_48, sX12_since_49, evK_n, evK_v, evK_x, gI_pI, gJ_pI, gR_pI, gI_pJ, gJ_pJ, gR_pJ, gI_pR, gJ_pR, gR_pR, if_true, if_false, not_true_eq_false, not_false_eq_true, and_true, true_and, and_false, false_and, and_self, or_true, true_or, or_false, false_or, or_self, ne_eq, Decidable.not_not, Nat.reduceEqDiff, Nat.reduceEqDiff, sa_432, sb_432, f1, f2]
    exact f3
theorem c_often (hw : wOK w) {pa : Int32} : ∀ (m k : Nat) (s : fm_S), k + m = wn w → LI s w ver → ∃ s', ev g (d + 34) mX11_often 21 [some (.ref (0 : Nat)), some (.int pa), some (.int (Int32.ofNat (wn w))), some (.long (Int64.ofNat (sumN (trF w) k))), none, some (.int (Int32.ofNat k))] [] s = ev g (d + 34) mX11_often 50 [none, some (.int pa), some (.int (Int32.ofNat (wn w))), some (.long (Int64.ofNat (sumN (trF w) (wn w)))), none, none] [] s' ∧ LQ s s' w ver := by
  have hn24 : wn w ≤ 24 := hw.2.2.1
  intro m
  induction m with
  | zero =>
    intro k s hk h
    have hil : k = wn w := by omega
    subst hil
    refine ⟨s, ?_, LQ.rf h⟩
    rw [sX11_often_21]
    simp (disch := first | exact jm_lt0 | (apply jm_ltx; (repeat (first | exact jw_0 | apply jw_i | apply jw_r | apply jw_l)); omega) | omega | assumption | exact sa_0 | exact n32_inA sb_0 (by omega) (by omega) | (refine n32_inA (by assumption) ?_ ?_ <;> omega) | exact bi01 | (rw [sa_0]; omega) | decide) only [sX11_often_0, sX11_often_1, sX11_often_2, sX11_often_5, sX11_often_8, sX11_often_9, sX11_often_12, sX11_often_15, sX11_often_16, sX11_often_17, sX11_often_18, sX11_often_19, sX11_often_23, sX11_often_24, sX11_often_27, sX11_often_28, sX11_often_29, sX11_often_32, sX11_often_33, sX11_often_36, sX11_often_38, sX11_often_39, sX11_often_42, sX11_often_43, sX11_often_44, sX11_often_47, kX11_often_50_AIIJNI, sX11_often_51, sX11_often_52, sX11_often_53, sX11_often_56, sX11_often_57, sX11_often_58, sX11_often_61, evK_n, evK_v, evK_x, gI_pI, gJ_pI, gR_pI, gI_pJ, gJ_pJ, gR_pJ, gI_pR, gJ_pR, gR_pR, if_true, if_false, not_true_eq_false, not_false_eq_true, and_true, true_and, and_false, false_and, and_self, or_true, true_or, or_false, false_or, or_self, ne_eq, Decidable.not_not, Nat.reduceEqDiff, Nat.reduceEqDiff, n32_le, n32_lt, n32_add, n32_mul, n32_cl]
    rw [if_pos (Nat.le_refl _)]
  | succ m ih =>
    intro k s hk h
    have r01 := h.1.u 0 1 3 (by decide +kernel)
    have r06 := h.1.u 0 6 306 (by decide +kernel)
    obtain ⟨s1, e1, q1⟩ := c6_fact (g := g) (d := d + 27) h (show k < wn w by omega) (show 1 < 6 by decide)
    obtain ⟨s', f1, f2⟩ := ih (k + 1) s1 (by omega) q1.2
    have e1' : ev g (d + 33) mX6_factBehind 0 [some (.ref (306 : Nat)), some (.ref (3 : Nat)), some (.int (Int32.ofNat k)), some (.int (Int32.ofNat 1))] [] s = some (.inl (some (.long (Int64.ofNat (trF w k)))), s1) := e1
    have g1 : ¬ wn w ≤ k := by omega
    rw [show sumN (trF w) (k + 1) = sumN (trF w) k + trF w k from rfl, ← n64_add] at f1
    refine ⟨s', ?_, q1.tr f2⟩
    rw [sX11_often_21]
    simp (disch := first | exact jm_lt0 | (apply jm_ltx; (repeat (first | exact jw_0 | apply jw_i | apply jw_r | apply jw_l)); omega) | omega | assumption | exact sa_0 | exact sa_3 | exact sa_306 | exact n32_inA sb_0 (by omega) (by omega) | exact n32_inA sb_3 (by omega) (by omega) | exact n32_inA sb_306 (by omega) (by omega) | (refine n32_inA (by assumption) ?_ ?_ <;> omega) | exact bi01 | (rw [sa_0]; omega) | (rw [sa_3]; omega) | (rw [sa_306]; omega) | decide) only [sX11_often_0, sX11_often_1, sX11_often_2, sX11_often_5, sX11_often_8, sX11_often_9, sX11_often_12, sX11_often_15, sX11_often_16, sX11_often_17, sX11_often_18, sX11_often_19, sX11_often_23, sX11_often_24, sX11_often_27, sX11_often_28, sX11_often_29, sX11_often_32, sX11_often_33, sX11_often_36, sX11_often_38, sX11_often_39, sX11_often_42, sX11_often_43, sX11_often_44, sX11_often_47, kX11_often_50_AIIJNI, sX11_often_51, sX11_often_52, sX11_often_53, sX11_often_56, sX11_often_57, sX11_often_58, sX11_often_61, evK_n, evK_v, evK_x, gI_pI, gJ_pI, gR_pI, gI_pJ, gJ_pJ, gR_pJ, gI_pR, gJ_pR, gR_pR, if_true, if_false, not_true_eq_false, not_false_eq_true, and_true, true_and, and_false, false_and, and_self, or_true, true_or, or_false, false_or, or_self, ne_eq, Decidable.not_not, Nat.reduceEqDiff, Nat.reduceEqDiff, n32_le, n32_lt, n32_add, n32_mul, n32_cl, sa_0, sb_0, sa_3, sb_3, sa_306, sb_306, g1, r01, r06, e1']
    exact f1
theorem m_often (hF : FX t) (hM : MW t w) (hw : wOK w) {pa : Int32} (hT : ∀ v, v < wn w → gJ t 456 v = Int64.ofNat (trF w v)) : ∀ (m k : Nat), k + m = wn w → ev g (d + 35) mX12_often 38 [some (.ref (432 : Nat)), some (.int pa), some (.long (Int64.ofNat (sumN (trF w) k))), none, some (.int (Int32.ofNat k))] [] t = ev g (d + 35) mX12_often 63 [some (.ref (432 : Nat)), some (.int pa), some (.long (Int64.ofNat (sumN (trF w) (wn w)))), none, none] [] t := by
  have hn24 : wn w ≤ 24 := hw.2.2.1
  have h19 := hM.2.2.2.1.1
  have r40 := hF.u 432 40 456 (by decide +kernel)
  intro m
  induction m with
  | zero =>
    intro k hk
    have hil : k = wn w := by omega
    subst hil
    rw [sX12_often_38]
    simp (disch := first | exact jm_lt0 | (apply jm_ltx; (repeat (first | exact jw_0 | apply jw_i | apply jw_r | apply jw_l)); omega) | omega | assumption | exact sa_432 | exact n32_inA sb_432 (by omega) (by omega) | (refine n32_inA (by assumption) ?_ ?_ <;> omega) | exact bi01 | (rw [sa_432]; omega) | decide) only [sX12_often_0, sX12_often_1, sX12_often_2, sX12_often_5, sX12_often_6, sX12_often_7, sX12_often_10, sX12_often_13, sX12_often_14, sX12_often_15, sX12_often_16, sX12_often_19, sX12_often_22, sX12_often_23, sX12_often_24, sX12_often_25, sX12_often_26, sX12_often_29, sX12_often_30, sX12_often_33, sX12_often_34, sX12_often_35, sX12_often_36, sX12_often_40, sX12_often_41, sX12_often_44, sX12_often_47, sX12_often_48, sX12_often_49, sX12_often_52, sX12_often_54, sX12_often_55, sX12_often_56, sX12_often_57, sX12_often_60, kX12_often_63_AIJNI, sX12_often_64, sX12_often_67, sX12_often_68, sX12_often_71, sX12_often_72, sX12_often_73, sX12_often_74, sX12_often_77, evK_n, evK_v, evK_x, gI_pI, gJ_pI, gR_pI, gI_pJ, gJ_pJ, gR_pJ, gI_pR, gJ_pR, gR_pR, if_true, if_false, not_true_eq_false, not_false_eq_true, and_true, true_and, and_false, false_and, and_self, or_true, true_or, or_false, false_or, or_self, ne_eq, Decidable.not_not, Nat.reduceEqDiff, Nat.reduceEqDiff, n32_le, n32_lt, n32_add, n32_mul, n32_cl, sa_432, sb_432, h19]
    rw [if_pos (Nat.le_refl _)]
  | succ m ih =>
    intro k hk
    have ih := ih (k + 1) (by omega)
    have hJ := hT k (by omega)
    have g1 : ¬ wn w ≤ k := by omega
    rw [show sumN (trF w) (k + 1) = sumN (trF w) k + trF w k from rfl, ← n64_add] at ih
    rw [sX12_often_38]
    simp (disch := first | exact jm_lt0 | (apply jm_ltx; (repeat (first | exact jw_0 | apply jw_i | apply jw_r | apply jw_l)); omega) | omega | assumption | exact sa_432 | exact sa_456 | exact n32_inA sb_432 (by omega) (by omega) | exact n32_inA sb_456 (by omega) (by omega) | (refine n32_inA (by assumption) ?_ ?_ <;> omega) | exact bi01 | (rw [sa_432]; omega) | (rw [sa_456]; omega) | decide) only [sX12_often_0, sX12_often_1, sX12_often_2, sX12_often_5, sX12_often_6, sX12_often_7, sX12_often_10, sX12_often_13, sX12_often_14, sX12_often_15, sX12_often_16, sX12_often_19, sX12_often_22, sX12_often_23, sX12_often_24, sX12_often_25, sX12_often_26, sX12_often_29, sX12_often_30, sX12_often_33, sX12_often_34, sX12_often_35, sX12_often_36, sX12_often_40, sX12_often_41, sX12_often_44, sX12_often_47, sX12_often_48, sX12_often_49, sX12_often_52, sX12_often_54, sX12_often_55, sX12_often_56, sX12_often_57, sX12_often_60, kX12_often_63_AIJNI, sX12_often_64, sX12_often_67, sX12_often_68, sX12_often_71, sX12_often_72, sX12_often_73, sX12_often_74, sX12_often_77, evK_n, evK_v, evK_x, gI_pI, gJ_pI, gR_pI, gI_pJ, gJ_pJ, gR_pJ, gI_pR, gJ_pR, gR_pR, if_true, if_false, not_true_eq_false, not_false_eq_true, and_true, true_and, and_false, false_and, and_self, or_true, true_or, or_false, false_or, or_self, ne_eq, Decidable.not_not, Nat.reduceEqDiff, Nat.reduceEqDiff, n32_le, n32_lt, n32_add, n32_mul, n32_cl, sa_432, sb_432, sa_456, sb_456, h19, g1, r40, hJ]
    exact ih
theorem end_lt {o : OPT} (hw : wOK w) (ho : oOK o) : endS w o < BIG := by
  refine Nat.lt_of_le_of_lt ?_ one_big
  have := (go_ok hw ho (wn w) (Nat.le_refl _)).2.2
  unfold endS
  rw [← fct1 (w := w) (v := 0)]
  exact fct_le (Nat.le_of_eq this)
/-- keeper and spoiler, by what is to be least -/
theorem c_keep (hw : wOK w) : ∀ (m k : Nat) (s : fm_S), k + m = wT w 7 → LI s w ver → ∃ s', ev g (d + 35) mX11_keeper 9 [some (.ref (0 : Nat)), some (.int (Int32.ofNat (wT w 7))), some (.int (if k = 0 then -1 else Int32.ofNat (bst (fun p => endS w (opt w 1 p)) k))), some (.int (Int32.ofNat k))] [] s = some (.inl (some (.int (if wT w 7 = 0 then -1 else Int32.ofNat (bst (fun p => endS w (opt w 1 p)) (wT w 7))))), s') ∧ LQ s s' w ver := by
  have hB : BIG = 4611686018427387904 := rfl
  have hn6 : wT w 7 ≤ 6 := hw.1.2.2.2.2.2.2.2.2
  have hbd : ∀ k, k < 6 → endS w (opt w 1 k) < BIG := fun k hk => end_lt hw (opt_ok hw (Or.inr (Or.inl ⟨rfl, hk⟩)))
  intro m
  induction m with
  | zero =>
    intro k s hk h
    have hil : k = wT w 7 := by omega
    refine ⟨s, ?_, LQ.rf h⟩
    rw [← hil, sX11_keeper_9]
    simp (disch := first | exact jm_lt0 | (apply jm_ltx; (repeat (first | exact jw_0 | apply jw_i | apply jw_r | apply jw_l)); omega) | omega | assumption | exact sa_0 | exact n32_inA sb_0 (by omega) (by omega) | (refine n32_inA (by assumption) ?_ ?_ <;> omega) | exact bi01 | (rw [sa_0]; omega) | decide) only [sX11_keeper_0, sX11_keeper_1, sX11_keeper_4, sX11_keeper_5, sX11_keeper_6, sX11_keeper_7, sX11_keeper_8, sX11_keeper_10, sX11_keeper_11, sX11_keeper_14, sX11_keeper_15, sX11_keeper_16, sX11_keeper_19, sX11_keeper_20, sX11_keeper_23, sX11_keeper_24, sX11_keeper_27, sX11_keeper_28, sX11_keeper_29, sX11_keeper_32, sX11_keeper_33, sX11_keeper_36, sX11_keeper_37, sX11_keeper_40, sX11_keeper_41, sX11_keeper_42, sX11_keeper_45, sX11_keeper_46, kX11_keeper_49_AIII, sX11_keeper_49, sX11_keeper_50, sX11_keeper_51, sX11_keeper_54, kX11_keeper_57_AIII, sX11_keeper_57, sX11_keeper_58, evK_n, evK_v, evK_x, gI_pI, gJ_pI, gR_pI, gI_pJ, gJ_pJ, gR_pJ, gI_pR, gJ_pR, gR_pR, if_true, if_false, not_true_eq_false, not_false_eq_true, and_true, true_and, and_false, false_and, and_self, or_true, true_or, or_false, false_or, or_self, ne_eq, Decidable.not_not, Nat.reduceEqDiff, Nat.reduceEqDiff, n32_le, n32_lt, n32_add, n32_mul, n32_cl]
    rw [if_pos (Nat.le_refl _)]
  | succ m ih =>
    intro k s hk h
    have g1 : ¬ wT w 7 ≤ k := by omega
    rw [sX11_keeper_9]
    rcases Nat.eq_zero_or_pos k with h0 | h0
    · subst h0
      obtain ⟨s', f1, f2⟩ := ih 1 s (by omega) h
      have b1 : bst (fun p => endS w (opt w 1 p)) 1 = 0 := Nat.le_zero.mp (bst_lt 0)
      rw [if_neg (by decide), b1] at f1
      refine ⟨s', ?_, f2⟩
      rw [if_pos rfl]
      simp (disch := first | exact jm_lt0 | (apply jm_ltx; (repeat (first | exact jw_0 | apply jw_i | apply jw_r | apply jw_l)); omega) | omega | assumption | exact sa_0 | exact n32_inA sb_0 (by omega) (by omega) | (refine n32_inA (by assumption) ?_ ?_ <;> omega) | exact bi01 | (rw [sa_0]; omega) | decide) only [sX11_keeper_0, sX11_keeper_1, sX11_keeper_4, sX11_keeper_5, sX11_keeper_6, sX11_keeper_7, sX11_keeper_8, sX11_keeper_10, sX11_keeper_11, sX11_keeper_14, sX11_keeper_15, sX11_keeper_16, sX11_keeper_19, sX11_keeper_20, sX11_keeper_23, sX11_keeper_24, sX11_keeper_27, sX11_keeper_28, sX11_keeper_29, sX11_keeper_32, sX11_keeper_33, sX11_keeper_36, sX11_keeper_37, sX11_keeper_40, sX11_keeper_41, sX11_keeper_42, sX11_keeper_45, sX11_keeper_46, kX11_keeper_49_AIII, sX11_keeper_49, sX11_keeper_50, sX11_keeper_51, sX11_keeper_54, kX11_keeper_57_AIII, sX11_keeper_57, sX11_keeper_58, evK_n, evK_v, evK_x, gI_pI, gJ_pI, gR_pI, gI_pJ, gJ_pJ, gR_pJ, gI_pR, gJ_pR, gR_pR, if_true, if_false, not_true_eq_false, not_false_eq_true, and_true, true_and, and_false, false_and, and_self, or_true, true_or, or_false, false_or, or_self, ne_eq, Decidable.not_not, Nat.reduceEqDiff, Nat.reduceEqDiff, n32_le, n32_lt, n32_add, n32_mul, n32_cl, g1]
      exact f1
    · obtain ⟨k', rfl⟩ : ∃ j, k = j + 1 := ⟨k - 1, by omega⟩
      have hbl := bst_lt (f := fun p => endS w (opt w 1 p)) k'
      have r01 := h.1.u 0 1 3 (by decide +kernel)
      have r06 := h.1.u 0 6 306 (by decide +kernel)
      obtain ⟨s1, e1, q1⟩ := c6_endBy (g := g) (d := d + 28) h (ch := 1) (de := k' + 1) (Or.inr (Or.inl ⟨rfl, by omega⟩))
      have r01b := q1.2.1.u 0 1 3 (by decide +kernel)
      have r06b := q1.2.1.u 0 6 306 (by decide +kernel)
      obtain ⟨s2, e2, q2⟩ := c6_endBy (g := g) (d := d + 28) q1.2 (ch := 1) (de := bst (fun p => endS w (opt w 1 p)) (k' + 1)) (Or.inr (Or.inl ⟨rfl, by omega⟩))
      obtain ⟨s', f1, f2⟩ := ih (k' + 1 + 1) s2 (by omega) q2.2
      have b1 := hbd (k' + 1) (by omega)
      have b2 := hbd (bst (fun p => endS w (opt w 1 p)) (k' + 1)) (by omega)
      have hle : (Int64.ofNat (endS w (opt w 1 (bst (fun p => endS w (opt w 1 p)) (k' + 1)))) ≤ Int64.ofNat (endS w (opt w 1 (k' + 1)))) = (endS w (opt w 1 (bst (fun p => endS w (opt w 1 p)) (k' + 1))) ≤ endS w (opt w 1 (k' + 1))) := n64_le (by omega) (by omega)
      have hnn : ¬ Int32.ofNat (bst (fun p => endS w (opt w 1 p)) (k' + 1)) = -1 := of_eq_false (n32_neg (by omega))
      rw [if_neg (by omega), bst] at f1
      rw [if_neg (by omega)]
      generalize bst (fun p => endS w (opt w 1 p)) (k' + 1) = a at *
      refine ⟨s', ?_, (q1.tr q2).tr f2⟩
      by_cases cc : endS w (opt w 1 (k' + 1)) < endS w (opt w 1 a)
      · have cc' : ¬ endS w (opt w 1 a) ≤ endS w (opt w 1 (k' + 1)) := by omega
        rw [if_pos cc] at f1
        simp (disch := first | exact jm_lt0 | (apply jm_ltx; (repeat (first | exact jw_0 | apply jw_i | apply jw_r | apply jw_l)); omega) | omega | assumption | exact sa_0 | exact sa_3 | exact sa_306 | exact n32_inA sb_0 (by omega) (by omega) | exact n32_inA sb_3 (by omega) (by omega) | exact n32_inA sb_306 (by omega) (by omega) | (refine n32_inA (by assumption) ?_ ?_ <;> omega) | exact bi01 | (rw [sa_0]; omega) | (rw [sa_3]; omega) | (rw [sa_306]; omega) | decide) only [sX11_keeper_0, sX11_keeper_1, sX11_keeper_4, sX11_keeper_5, sX11_keeper_6, sX11_keeper_7, sX11_keeper_8, sX11_keeper_10, sX11_keeper_11, sX11_keeper_14, sX11_keeper_15, sX11_keeper_16, sX11_keeper_19, sX11_keeper_20, sX11_keeper_23, sX11_keeper_24, sX11_keeper_27, sX11_keeper_28, sX11_keeper_29, sX11_keeper_32, sX11_keeper_33, sX11_keeper_36, sX11_keeper_37, sX11_keeper_40, sX11_keeper_41, sX11_keeper_42, sX11_keeper_45, sX11_keeper_46, kX11_keeper_49_AIII, sX11_keeper_49, sX11_keeper_50, sX11_keeper_51, sX11_keeper_54, kX11_keeper_57_AIII, sX11_keeper_57, sX11_keeper_58, evK_n, evK_v, evK_x, gI_pI, gJ_pI, gR_pI, gI_pJ, gJ_pJ, gR_pJ, gI_pR, gJ_pR, gR_pR, if_true, if_false, not_true_eq_false, not_false_eq_true, and_true, true_and, and_false, false_and, and_self, or_true, true_or, or_false, false_or, or_self, ne_eq, Decidable.not_not, Nat.reduceEqDiff, Nat.reduceEqDiff, n32_le, n32_lt, n32_add, n32_mul, n32_cl, sa_0, sb_0, sa_3, sb_3, sa_306, sb_306, g1, hnn, r01, r06, e1, r01b, r06b, e2, n64_cge, hle, cc']
        exact f1
      · have cc' : endS w (opt w 1 a) ≤ endS w (opt w 1 (k' + 1)) := by omega
        rw [if_neg cc] at f1
        simp (disch := first | exact jm_lt0 | (apply jm_ltx; (repeat (first | exact jw_0 | apply jw_i | apply jw_r | apply jw_l)); omega) | omega | assumption | exact sa_0 | exact sa_3 | exact sa_306 | exact n32_inA sb_0 (by omega) (by omega) | exact n32_inA sb_3 (by omega) (by omega) | exact n32_inA sb_306 (by omega) (by omega) | (refine n32_inA (by assumption) ?_ ?_ <;> omega) | exact bi01 | (rw [sa_0]; omega) | (rw [sa_3]; omega) | (rw [sa_306]; omega) | decide) only [sX11_keeper_0, sX11_keeper_1, sX11_keeper_4, sX11_keeper_5, sX11_keeper_6, sX11_keeper_7, sX11_keeper_8, sX11_keeper_10, sX11_keeper_11, sX11_keeper_14, sX11_keeper_15, sX11_keeper_16, sX11_keeper_19, sX11_keeper_20, sX11_keeper_23, sX11_keeper_24, sX11_keeper_27, sX11_keeper_28, sX11_keeper_29, sX11_keeper_32, sX11_keeper_33, sX11_keeper_36, sX11_keeper_37, sX11_keeper_40, sX11_keeper_41, sX11_keeper_42, sX11_keeper_45, sX11_keeper_46, kX11_keeper_49_AIII, sX11_keeper_49, sX11_keeper_50, sX11_keeper_51, sX11_keeper_54, kX11_keeper_57_AIII, sX11_keeper_57, sX11_keeper_58, evK_n, evK_v, evK_x, gI_pI, gJ_pI, gR_pI, gI_pJ, gJ_pJ, gR_pJ, gI_pR, gJ_pR, gR_pR, if_true, if_false, not_true_eq_false, not_false_eq_true, and_true, true_and, and_false, false_and, and_self, or_true, true_or, or_false, false_or, or_self, ne_eq, Decidable.not_not, Nat.reduceEqDiff, Nat.reduceEqDiff, n32_le, n32_lt, n32_add, n32_mul, n32_cl, sa_0, sb_0, sa_3, sb_3, sa_306, sb_306, g1, hnn, r01, r06, e1, r01b, r06b, e2, n64_cge, hle, cc']
        exact f1
theorem c_spoil (hw : wOK w) : ∀ (m k : Nat) (s : fm_S), k + m = wT w 7 → LI s w ver → ∃ s', ev g (d + 35) mX11_spoiler 9 [some (.ref (0 : Nat)), some (.int (Int32.ofNat (wT w 7))), some (.int (if k = 0 then -1 else Int32.ofNat (bst (fun p => costS w (opt w 1 p)) k))), some (.int (Int32.ofNat k))] [] s = some (.inl (some (.int (if wT w 7 = 0 then -1 else Int32.ofNat (bst (fun p => costS w (opt w 1 p)) (wT w 7))))), s') ∧ LQ s s' w ver := by
  have hB : BIG = 4611686018427387904 := rfl
  have hn6 : wT w 7 ≤ 6 := hw.1.2.2.2.2.2.2.2.2
  have hbd : ∀ k, k < 6 → costS w (opt w 1 k) < BIG := fun k hk => cost_lt hw (opt_ok hw (Or.inr (Or.inl ⟨rfl, hk⟩)))
  intro m
  induction m with
  | zero =>
    intro k s hk h
    have hil : k = wT w 7 := by omega
    refine ⟨s, ?_, LQ.rf h⟩
    rw [← hil, sX11_spoiler_9]
    simp (disch := first | exact jm_lt0 | (apply jm_ltx; (repeat (first | exact jw_0 | apply jw_i | apply jw_r | apply jw_l)); omega) | omega | assumption | exact sa_0 | exact n32_inA sb_0 (by omega) (by omega) | (refine n32_inA (by assumption) ?_ ?_ <;> omega) | exact bi01 | (rw [sa_0]; omega) | decide) only [sX11_spoiler_0, sX11_spoiler_1, sX11_spoiler_4, sX11_spoiler_5, sX11_spoiler_6, sX11_spoiler_7, sX11_spoiler_8, sX11_spoiler_10, sX11_spoiler_11, sX11_spoiler_14, sX11_spoiler_15, sX11_spoiler_16, sX11_spoiler_19, sX11_spoiler_20, sX11_spoiler_23, sX11_spoiler_24, sX11_spoiler_27, sX11_spoiler_28, sX11_spoiler_29, sX11_spoiler_32, sX11_spoiler_33, sX11_spoiler_36, sX11_spoiler_37, sX11_spoiler_40, sX11_spoiler_41, sX11_spoiler_42, sX11_spoiler_45, sX11_spoiler_46, kX11_spoiler_49_AIII, sX11_spoiler_49, sX11_spoiler_50, sX11_spoiler_51, sX11_spoiler_54, kX11_spoiler_57_AIII, sX11_spoiler_57, sX11_spoiler_58, evK_n, evK_v, evK_x, gI_pI, gJ_pI, gR_pI, gI_pJ, gJ_pJ, gR_pJ, gI_pR, gJ_pR, gR_pR, if_true, if_false, not_true_eq_false, not_false_eq_true, and_true, true_and, and_false, false_and, and_self, or_true, true_or, or_false, false_or, or_self, ne_eq, Decidable.not_not, Nat.reduceEqDiff, Nat.reduceEqDiff, n32_le, n32_lt, n32_add, n32_mul, n32_cl]
    rw [if_pos (Nat.le_refl _)]
  | succ m ih =>
    intro k s hk h
    have g1 : ¬ wT w 7 ≤ k := by omega
    rw [sX11_spoiler_9]
    rcases Nat.eq_zero_or_pos k with h0 | h0
    · subst h0
      obtain ⟨s', f1, f2⟩ := ih 1 s (by omega) h
      have b1 : bst (fun p => costS w (opt w 1 p)) 1 = 0 := Nat.le_zero.mp (bst_lt 0)
      rw [if_neg (by decide), b1] at f1
      refine ⟨s', ?_, f2⟩
      rw [if_pos rfl]
      simp (disch := first | exact jm_lt0 | (apply jm_ltx; (repeat (first | exact jw_0 | apply jw_i | apply jw_r | apply jw_l)); omega) | omega | assumption | exact sa_0 | exact n32_inA sb_0 (by omega) (by omega) | (refine n32_inA (by assumption) ?_ ?_ <;> omega) | exact bi01 | (rw [sa_0]; omega) | decide) only [sX11_spoiler_0, sX11_spoiler_1, sX11_spoiler_4, sX11_spoiler_5, sX11_spoiler_6, sX11_spoiler_7, sX11_spoiler_8, sX11_spoiler_10, sX11_spoiler_11, sX11_spoiler_14, sX11_spoiler_15, sX11_spoiler_16, sX11_spoiler_19, sX11_spoiler_20, sX11_spoiler_23, sX11_spoiler_24, sX11_spoiler_27, sX11_spoiler_28, sX11_spoiler_29, sX11_spoiler_32, sX11_spoiler_33, sX11_spoiler_36, sX11_spoiler_37, sX11_spoiler_40, sX11_spoiler_41, sX11_spoiler_42, sX11_spoiler_45, sX11_spoiler_46, kX11_spoiler_49_AIII, sX11_spoiler_49, sX11_spoiler_50, sX11_spoiler_51, sX11_spoiler_54, kX11_spoiler_57_AIII, sX11_spoiler_57, sX11_spoiler_58, evK_n, evK_v, evK_x, gI_pI, gJ_pI, gR_pI, gI_pJ, gJ_pJ, gR_pJ, gI_pR, gJ_pR, gR_pR, if_true, if_false, not_true_eq_false, not_false_eq_true, and_true, true_and, and_false, false_and, and_self, or_true, true_or, or_false, false_or, or_self, ne_eq, Decidable.not_not, Nat.reduceEqDiff, Nat.reduceEqDiff, n32_le, n32_lt, n32_add, n32_mul, n32_cl, g1]
      exact f1
    · obtain ⟨k', rfl⟩ : ∃ j, k = j + 1 := ⟨k - 1, by omega⟩
      have hbl := bst_lt (f := fun p => costS w (opt w 1 p)) k'
      have r01 := h.1.u 0 1 3 (by decide +kernel)
      have r06 := h.1.u 0 6 306 (by decide +kernel)
      obtain ⟨s1, e1, q1⟩ := c6_costBy (g := g) (d := d + 28) h (ch := 1) (de := k' + 1) (Or.inr (Or.inl ⟨rfl, by omega⟩))
      have r01b := q1.2.1.u 0 1 3 (by decide +kernel)
      have r06b := q1.2.1.u 0 6 306 (by decide +kernel)
      obtain ⟨s2, e2, q2⟩ := c6_costBy (g := g) (d := d + 28) q1.2 (ch := 1) (de := bst (fun p => costS w (opt w 1 p)) (k' + 1)) (Or.inr (Or.inl ⟨rfl, by omega⟩))
      obtain ⟨s', f1, f2⟩ := ih (k' + 1 + 1) s2 (by omega) q2.2
      have b1 := hbd (k' + 1) (by omega)
      have b2 := hbd (bst (fun p => costS w (opt w 1 p)) (k' + 1)) (by omega)
      have hle : (Int64.ofNat (costS w (opt w 1 (bst (fun p => costS w (opt w 1 p)) (k' + 1)))) ≤ Int64.ofNat (costS w (opt w 1 (k' + 1)))) = (costS w (opt w 1 (bst (fun p => costS w (opt w 1 p)) (k' + 1))) ≤ costS w (opt w 1 (k' + 1))) := n64_le (by omega) (by omega)
      have hnn : ¬ Int32.ofNat (bst (fun p => costS w (opt w 1 p)) (k' + 1)) = -1 := of_eq_false (n32_neg (by omega))
      rw [if_neg (by omega), bst] at f1
      rw [if_neg (by omega)]
      generalize bst (fun p => costS w (opt w 1 p)) (k' + 1) = a at *
      refine ⟨s', ?_, (q1.tr q2).tr f2⟩
      by_cases cc : costS w (opt w 1 (k' + 1)) < costS w (opt w 1 a)
      · have cc' : ¬ costS w (opt w 1 a) ≤ costS w (opt w 1 (k' + 1)) := by omega
        rw [if_pos cc] at f1
        simp (disch := first | exact jm_lt0 | (apply jm_ltx; (repeat (first | exact jw_0 | apply jw_i | apply jw_r | apply jw_l)); omega) | omega | assumption | exact sa_0 | exact sa_3 | exact sa_306 | exact n32_inA sb_0 (by omega) (by omega) | exact n32_inA sb_3 (by omega) (by omega) | exact n32_inA sb_306 (by omega) (by omega) | (refine n32_inA (by assumption) ?_ ?_ <;> omega) | exact bi01 | (rw [sa_0]; omega) | (rw [sa_3]; omega) | (rw [sa_306]; omega) | decide) only [sX11_spoiler_0, sX11_spoiler_1, sX11_spoiler_4, sX11_spoiler_5, sX11_spoiler_6, sX11_spoiler_7, sX11_spoiler_8, sX11_spoiler_10, sX11_spoiler_11, sX11_spoiler_14, sX11_spoiler_15, sX11_spoiler_16, sX11_spoiler_19, sX11_spoiler_20, sX11_spoiler_23, sX11_spoiler_24, sX11_spoiler_27, sX11_spoiler_28, sX11_spoiler_29, sX11_spoiler_32, sX11_spoiler_33, sX11_spoiler_36, sX11_spoiler_37, sX11_spoiler_40, sX11_spoiler_41, sX11_spoiler_42, sX11_spoiler_45, sX11_spoiler_46, kX11_spoiler_49_AIII, sX11_spoiler_49, sX11_spoiler_50, sX11_spoiler_51, sX11_spoiler_54, kX11_spoiler_57_AIII, sX11_spoiler_57, sX11_spoiler_58, evK_n, evK_v, evK_x, gI_pI, gJ_pI, gR_pI, gI_pJ, gJ_pJ, gR_pJ, gI_pR, gJ_pR, gR_pR, if_true, if_false, not_true_eq_false, not_false_eq_true, and_true, true_and, and_false, false_and, and_self, or_true, true_or, or_false, false_or, or_self, ne_eq, Decidable.not_not, Nat.reduceEqDiff, Nat.reduceEqDiff, n32_le, n32_lt, n32_add, n32_mul, n32_cl, sa_0, sb_0, sa_3, sb_3, sa_306, sb_306, g1, hnn, r01, r06, e1, r01b, r06b, e2, n64_cge, hle, cc']
        exact f1
      · have cc' : costS w (opt w 1 a) ≤ costS w (opt w 1 (k' + 1)) := by omega
        rw [if_neg cc] at f1
        simp (disch := first | exact jm_lt0 | (apply jm_ltx; (repeat (first | exact jw_0 | apply jw_i | apply jw_r | apply jw_l)); omega) | omega | assumption | exact sa_0 | exact sa_3 | exact sa_306 | exact n32_inA sb_0 (by omega) (by omega) | exact n32_inA sb_3 (by omega) (by omega) | exact n32_inA sb_306 (by omega) (by omega) | (refine n32_inA (by assumption) ?_ ?_ <;> omega) | exact bi01 | (rw [sa_0]; omega) | (rw [sa_3]; omega) | (rw [sa_306]; omega) | decide) only [sX11_spoiler_0, sX11_spoiler_1, sX11_spoiler_4, sX11_spoiler_5, sX11_spoiler_6, sX11_spoiler_7, sX11_spoiler_8, sX11_spoiler_10, sX11_spoiler_11, sX11_spoiler_14, sX11_spoiler_15, sX11_spoiler_16, sX11_spoiler_19, sX11_spoiler_20, sX11_spoiler_23, sX11_spoiler_24, sX11_spoiler_27, sX11_spoiler_28, sX11_spoiler_29, sX11_spoiler_32, sX11_spoiler_33, sX11_spoiler_36, sX11_spoiler_37, sX11_spoiler_40, sX11_spoiler_41, sX11_spoiler_42, sX11_spoiler_45, sX11_spoiler_46, kX11_spoiler_49_AIII, sX11_spoiler_49, sX11_spoiler_50, sX11_spoiler_51, sX11_spoiler_54, kX11_spoiler_57_AIII, sX11_spoiler_57, sX11_spoiler_58, evK_n, evK_v, evK_x, gI_pI, gJ_pI, gR_pI, gI_pJ, gJ_pJ, gR_pJ, gI_pR, gJ_pR, gR_pR, if_true, if_false, not_true_eq_false, not_false_eq_true, and_true, true_and, and_false, false_and, and_self, or_true, true_or, or_false, false_or, or_self, ne_eq, Decidable.not_not, Nat.reduceEqDiff, Nat.reduceEqDiff, n32_le, n32_lt, n32_add, n32_mul, n32_cl, sa_0, sb_0, sa_3, sb_3, sa_306, sb_306, g1, hnn, r01, r06, e1, r01b, r06b, e2, n64_cge, hle, cc']
        exact f1
theorem m_lw (hw : wOK w) {bt : Bool} {f : Nat → Nat} (hf : f = if bt = true then (fun p => endS w (opt w 1 p)) else (fun p => costS w (opt w 1 p))) {t0 : fm_S} (hP : ∀ p, p < 6 → PM (pI t0 432 46 (Int32.ofNat p)) (opt w 1 p) false) : ∀ (m k : Nat) (t : fm_S), k + m = wT w 7 → MI t w G → OPe 46 46 t0 t → ∃ t', ev g (d + 34) mX12_leastWithout 11 [some (.ref (432 : Nat)), some (.int (bi (bt = true))), some (.int (if k = 0 then -1 else Int32.ofNat (bst f k))), some (.long (Int64.ofNat (if k = 0 then 0 else f (bst f k)))), none, some (.int (Int32.ofNat k)), none, none] [] t = some (.inl (some (.int (if wT w 7 = 0 then -1 else Int32.ofNat (bst f (wT w 7))))), t') ∧ FM pM qMT t t' ∧ MI t' w G := by
  have hB : BIG = 4611686018427387904 := rfl
  have hn6 : wT w 7 ≤ 6 := hw.1.2.2.2.2.2.2.2.2
  intro m
  induction m with
  | zero =>
    intro k t hk h hO
    have hil : k = wT w 7 := by omega
    have h18 := h.2.2.1.2.2.1
    refine ⟨t, ?_, FM.rf, h⟩
    rw [← hil] at h18 ⊢
    rw [sX12_leastWithout_11]
    simp (disch := first | exact jm_lt0 | (apply jm_ltx; (repeat (first | exact jw_0 | apply jw_i | apply jw_r | apply jw_l)); omega) | omega | assumption | exact sa_432 | exact n32_inA sb_432 (by omega) (by omega) | (refine n32_inA (by assumption) ?_ ?_ <;> omega) | exact bi01 | (rw [sa_432]; omega) | decide) only [sX12_leastWithout_0, sX12_leastWithout_1, sX12_leastWithout_4, sX12_leastWithout_5, sX12_leastWithout_6, sX12_leastWithout_7, sX12_leastWithout_8, sX12_leastWithout_9, sX12_leastWithout_13, sX12_leastWithout_14, sX12_leastWithout_17, sX12_leastWithout_20, sX12_leastWithout_21, sX12_leastWithout_23, sX12_leastWithout_26, sX12_leastWithout_27, sX12_leastWithout_30, sX12_leastWithout_31, sX12_leastWithout_34, sX12_leastWithout_37, sX12_leastWithout_38, sX12_leastWithout_41, sX12_leastWithout_43, sX12_leastWithout_44, sX12_leastWithout_45, sX12_leastWithout_48, sX12_leastWithout_50, sX12_leastWithout_51, sX12_leastWithout_52, sX12_leastWithout_55, kX12_leastWithout_58_AIIJNIJN, sX12_leastWithout_58, sX12_leastWithout_60, sX12_leastWithout_61, sX12_leastWithout_63, kX12_leastWithout_64_AIIJNIJN, sX12_leastWithout_64, sX12_leastWithout_67, kX12_leastWithout_70_AIIJNINN, sX12_leastWithout_70, sX12_leastWithout_71, evK_n, evK_v, evK_x, gI_pI, gJ_pI, gR_pI, gI_pJ, gJ_pJ, gR_pJ, gI_pR, gJ_pR, gR_pR, if_true, if_false, not_true_eq_false, not_false_eq_true, and_true, true_and, and_false, false_and, and_self, or_true, true_or, or_false, false_or, or_self, ne_eq, Decidable.not_not, Nat.reduceEqDiff, Nat.reduceEqDiff, n32_le, n32_lt, n32_add, n32_mul, n32_cl, sa_432, sb_432, h18]
    rw [if_pos (Nat.le_refl _)]
  | succ m ih =>
    intro k t hk h hO
    have h18 := h.2.2.1.2.2.1
    have hok : cOK 1 k := Or.inr (Or.inl ⟨rfl, by omega⟩)
    have hP1 := (hP k (by omega)).e1 hO
    have hM1 := h.opt (j := 46) (x := Int32.ofNat k) (by omega)
    have hbd : ∀ k, k < 6 → f k < BIG := fun k hk => by
      rw [hf]
      split
      · exact end_lt hw (opt_ok hw (Or.inr (Or.inl ⟨rfl, hk⟩)))
      · exact cost_lt hw (opt_ok hw (Or.inr (Or.inl ⟨rfl, hk⟩)))
    have stepA : ∃ t2, ev g (d + 34) mX12_leastWithout 26 [some (.ref (432 : Nat)), some (.int (bi (bt = true))), some (.int (if k = 0 then -1 else Int32.ofNat (bst f k))), some (.long (Int64.ofNat (if k = 0 then 0 else f (bst f k)))), none, some (.int (Int32.ofNat k)), none, none] [] (pI t 432 46 (Int32.ofNat k)) = ev g (d + 34) mX12_leastWithout 41 [some (.ref (432 : Nat)), some (.int (bi (bt = true))), some (.int (if k = 0 then -1 else Int32.ofNat (bst f k))), some (.long (Int64.ofNat (if k = 0 then 0 else f (bst f k)))), none, some (.int (Int32.ofNat k)), none, none] [.long (Int64.ofNat (f k))] t2 ∧ FM pM qMT (pI t 432 46 (Int32.ofNat k)) t2 ∧ MI t2 w G ∧ OPq (pI t 432 46 (Int32.ofNat k)) t2 := by
      cases bt with
      | true =>
        rw [if_pos rfl] at hf
        obtain ⟨t2, f2, y2, hM2, o2⟩ := mq_true (g := g) (d := d + 27) hM1 hw hP1 (opt_ok hw hok)
        refine ⟨t2, ?_, y2, hM2, o2⟩
        have hfk : f k = endS w (opt w 1 k) := by rw [hf]
        rw [hfk, bi_t rfl]
        generalize (if k = 0 then (-1 : Int32) else Int32.ofNat (bst f k)) = A
        generalize Int64.ofNat (if k = 0 then 0 else f (bst f k)) = L
        simp (disch := first | exact jm_lt0 | (apply jm_ltx; (repeat (first | exact jw_0 | apply jw_i | apply jw_r | apply jw_l)); omega) | omega | assumption | exact sa_432 | exact n32_inA sb_432 (by omega) (by omega) | (refine n32_inA (by assumption) ?_ ?_ <;> omega) | exact bi01 | (rw [sa_432]; omega) | decide) only [sX12_leastWithout_0, sX12_leastWithout_1, sX12_leastWithout_4, sX12_leastWithout_5, sX12_leastWithout_6, sX12_leastWithout_7, sX12_leastWithout_8, sX12_leastWithout_9, sX12_leastWithout_13, sX12_leastWithout_14, sX12_leastWithout_17, sX12_leastWithout_20, sX12_leastWithout_21, sX12_leastWithout_23, sX12_leastWithout_26, sX12_leastWithout_27, sX12_leastWithout_30, sX12_leastWithout_31, sX12_leastWithout_34, sX12_leastWithout_37, sX12_leastWithout_38, sX12_leastWithout_43, sX12_leastWithout_44, sX12_leastWithout_45, sX12_leastWithout_48, sX12_leastWithout_50, sX12_leastWithout_51, sX12_leastWithout_52, sX12_leastWithout_55, kX12_leastWithout_58_AIIJNIJN, sX12_leastWithout_58, sX12_leastWithout_60, sX12_leastWithout_61, sX12_leastWithout_63, kX12_leastWithout_64_AIIJNIJN, sX12_leastWithout_64, sX12_leastWithout_67, kX12_leastWithout_70_AIIJNINN, sX12_leastWithout_70, sX12_leastWithout_71, evK_n, evK_v, evK_x, gI_pI, gJ_pI, gR_pI, gI_pJ, gJ_pJ, gR_pJ, gI_pR, gJ_pR, gR_pR, if_true, if_false, not_true_eq_false, not_false_eq_true, and_true, true_and, and_false, false_and, and_self, or_true, true_or, or_false, false_or, or_self, ne_eq, Decidable.not_not, Nat.reduceEqDiff, Nat.reduceEqDiff, n32_le, n32_lt, n32_add, n32_mul, n32_cl, sa_432, sb_432, f2, show ¬ (Int32.ofNat 1 = 0) by decide]
      | false =>
        rw [if_neg (by decide)] at hf
        obtain ⟨t2, f2, y2, hM2, o2⟩ := mq_cost (g := g) (d := d + 27) hM1 hw hP1 (opt_ok hw hok)
        refine ⟨t2, ?_, y2, hM2, o2⟩
        have hfk : f k = costS w (opt w 1 k) := by rw [hf]
        rw [hfk, bi_f (by decide)]
        generalize (if k = 0 then (-1 : Int32) else Int32.ofNat (bst f k)) = A
        generalize Int64.ofNat (if k = 0 then 0 else f (bst f k)) = L
        simp (disch := first | exact jm_lt0 | (apply jm_ltx; (repeat (first | exact jw_0 | apply jw_i | apply jw_r | apply jw_l)); omega) | omega | assumption | exact sa_432 | exact n32_inA sb_432 (by omega) (by omega) | (refine n32_inA (by assumption) ?_ ?_ <;> omega) | exact bi01 | (rw [sa_432]; omega) | decide) only [sX12_leastWithout_0, sX12_leastWithout_1, sX12_leastWithout_4, sX12_leastWithout_5, sX12_leastWithout_6, sX12_leastWithout_7, sX12_leastWithout_8, sX12_leastWithout_9, sX12_leastWithout_13, sX12_leastWithout_14, sX12_leastWithout_17, sX12_leastWithout_20, sX12_leastWithout_21, sX12_leastWithout_23, sX12_leastWithout_26, sX12_leastWithout_27, sX12_leastWithout_30, sX12_leastWithout_31, sX12_leastWithout_34, sX12_leastWithout_37, sX12_leastWithout_38, sX12_leastWithout_43, sX12_leastWithout_44, sX12_leastWithout_45, sX12_leastWithout_48, sX12_leastWithout_50, sX12_leastWithout_51, sX12_leastWithout_52, sX12_leastWithout_55, kX12_leastWithout_58_AIIJNIJN, sX12_leastWithout_58, sX12_leastWithout_60, sX12_leastWithout_61, sX12_leastWithout_63, kX12_leastWithout_64_AIIJNIJN, sX12_leastWithout_64, sX12_leastWithout_67, kX12_leastWithout_70_AIIJNINN, sX12_leastWithout_70, sX12_leastWithout_71, evK_n, evK_v, evK_x, gI_pI, gJ_pI, gR_pI, gI_pJ, gJ_pJ, gR_pJ, gI_pR, gJ_pR, gR_pR, if_true, if_false, not_true_eq_false, not_false_eq_true, and_true, true_and, and_false, false_and, and_self, or_true, true_or, or_false, false_or, or_self, ne_eq, Decidable.not_not, Nat.reduceEqDiff, Nat.reduceEqDiff, n32_le, n32_lt, n32_add, n32_mul, n32_cl, sa_432, sb_432, f2, z32]
    obtain ⟨t2, f2, y2, hM2, o2⟩ := stepA
    obtain ⟨t', i1, i2, i3⟩ := ih (k + 1) t2 (by omega) hM2 (hO.p o2)
    have g1 : ¬ wT w 7 ≤ k := by omega
    have hbk := hbd k (by omega)
    have p1 : ev g (d + 34) mX12_leastWithout 11 [some (.ref (432 : Nat)), some (.int (bi (bt = true))), some (.int (if k = 0 then -1 else Int32.ofNat (bst f k))), some (.long (Int64.ofNat (if k = 0 then 0 else f (bst f k)))), none, some (.int (Int32.ofNat k)), none, none] [] t = ev g (d + 34) mX12_leastWithout 41 [some (.ref (432 : Nat)), some (.int (bi (bt = true))), some (.int (if k = 0 then -1 else Int32.ofNat (bst f k))), some (.long (Int64.ofNat (if k = 0 then 0 else f (bst f k)))), none, some (.int (Int32.ofNat k)), none, none] [.long (Int64.ofNat (f k))] t2 := by
      rw [← f2]
      generalize (if k = 0 then (-1 : Int32) else Int32.ofNat (bst f k)) = A
      generalize Int64.ofNat (if k = 0 then 0 else f (bst f k)) = L
      rw [sX12_leastWithout_11]
      simp (disch := first | exact jm_lt0 | (apply jm_ltx; (repeat (first | exact jw_0 | apply jw_i | apply jw_r | apply jw_l)); omega) | omega | assumption | exact sa_432 | exact n32_inA sb_432 (by omega) (by omega) | (refine n32_inA (by assumption) ?_ ?_ <;> omega) | exact bi01 | (rw [sa_432]; omega) | decide) only [sX12_leastWithout_0, sX12_leastWithout_1, sX12_leastWithout_4, sX12_leastWithout_5, sX12_leastWithout_6, sX12_leastWithout_7, sX12_leastWithout_8, sX12_leastWithout_9, sX12_leastWithout_13, sX12_leastWithout_14, sX12_leastWithout_17, sX12_leastWithout_20, sX12_leastWithout_21, sX12_leastWithout_23, sX12_leastWithout_27, sX12_leastWithout_30, sX12_leastWithout_31, sX12_leastWithout_34, sX12_leastWithout_37, sX12_leastWithout_38, sX12_leastWithout_41, sX12_leastWithout_43, sX12_leastWithout_44, sX12_leastWithout_45, sX12_leastWithout_48, sX12_leastWithout_50, sX12_leastWithout_51, sX12_leastWithout_52, sX12_leastWithout_55, kX12_leastWithout_58_AIIJNIJN, sX12_leastWithout_58, sX12_leastWithout_60, sX12_leastWithout_61, sX12_leastWithout_63, kX12_leastWithout_64_AIIJNIJN, sX12_leastWithout_64, sX12_leastWithout_67, kX12_leastWithout_70_AIIJNINN, sX12_leastWithout_70, sX12_leastWithout_71, evK_n, evK_v, evK_x, gI_pI, gJ_pI, gR_pI, gI_pJ, gJ_pJ, gR_pJ, gI_pR, gJ_pR, gR_pR, if_true, if_false, not_true_eq_false, not_false_eq_true, and_true, true_and, and_false, false_and, and_self, or_true, true_or, or_false, false_or, or_self, ne_eq, Decidable.not_not, Nat.reduceEqDiff, Nat.reduceEqDiff, n32_le, n32_lt, n32_add, n32_mul, n32_cl, sa_432, sb_432, h18, g1]
    refine ⟨t', ?_, ((fmo (j := 46) (x := Int32.ofNat k) (by omega)).tr y2).tr i2, i3⟩
    rw [p1]
    generalize bi (bt = true) = bb at *
    rcases Nat.eq_zero_or_pos k with h0 | h0
    · subst h0
      have b1 : bst f 1 = 0 := Nat.le_zero.mp (bst_lt 0)
      rw [if_neg (by decide), if_neg (by decide), show 0 + 1 = 1 from rfl, b1] at i1
      rw [if_pos rfl, if_pos rfl]
      simp (disch := first | exact jm_lt0 | (apply jm_ltx; (repeat (first | exact jw_0 | apply jw_i | apply jw_r | apply jw_l)); omega) | omega | assumption | exact sa_432 | exact n32_inA sb_432 (by omega) (by omega) | (refine n32_inA (by assumption) ?_ ?_ <;> omega) | exact bi01 | (rw [sa_432]; omega) | decide) only [sX12_leastWithout_0, sX12_leastWithout_1, sX12_leastWithout_4, sX12_leastWithout_5, sX12_leastWithout_6, sX12_leastWithout_7, sX12_leastWithout_8, sX12_leastWithout_9, sX12_leastWithout_13, sX12_leastWithout_14, sX12_leastWithout_17, sX12_leastWithout_20, sX12_leastWithout_21, sX12_leastWithout_23, sX12_leastWithout_26, sX12_leastWithout_27, sX12_leastWithout_30, sX12_leastWithout_31, sX12_leastWithout_34, sX12_leastWithout_37, sX12_leastWithout_38, sX12_leastWithout_41, sX12_leastWithout_43, sX12_leastWithout_44, sX12_leastWithout_45, sX12_leastWithout_48, sX12_leastWithout_50, sX12_leastWithout_51, sX12_leastWithout_52, sX12_leastWithout_55, kX12_leastWithout_58_AIIJNIJN, sX12_leastWithout_58, sX12_leastWithout_60, sX12_leastWithout_61, sX12_leastWithout_63, kX12_leastWithout_64_AIIJNIJN, sX12_leastWithout_64, sX12_leastWithout_67, kX12_leastWithout_70_AIIJNINN, sX12_leastWithout_70, sX12_leastWithout_71, evK_n, evK_v, evK_x, gI_pI, gJ_pI, gR_pI, gI_pJ, gJ_pJ, gR_pJ, gI_pR, gJ_pR, gR_pR, if_true, if_false, not_true_eq_false, not_false_eq_true, and_true, true_and, and_false, false_and, and_self, or_true, true_or, or_false, false_or, or_self, ne_eq, Decidable.not_not, Nat.reduceEqDiff, Nat.reduceEqDiff, n32_le, n32_lt, n32_add, n32_mul, n32_cl, sa_432, sb_432]
      exact i1
    · obtain ⟨k', rfl⟩ : ∃ j, k = j + 1 := ⟨k - 1, by omega⟩
      have hbl := bst_lt (f := f) k'
      have hbb := hbd (bst f (k' + 1)) (by omega)
      rw [if_neg (by omega), if_neg (by omega), bst] at i1
      rw [if_neg (by omega), if_neg (by omega)]
      have hlt : (Int64.ofNat (f (k' + 1)) < Int64.ofNat (f (bst f (k' + 1)))) = (f (k' + 1) < f (bst f (k' + 1))) := n64_lt (by omega) (by omega)
      have hnn : ¬ Int32.ofNat (bst f (k' + 1)) = -1 := of_eq_false (n32_neg (by omega))
      generalize bst f (k' + 1) = a at *
      by_cases cc : f (k' + 1) < f a
      · rw [if_pos cc] at i1
        simp (disch := first | exact jm_lt0 | (apply jm_ltx; (repeat (first | exact jw_0 | apply jw_i | apply jw_r | apply jw_l)); omega) | omega | assumption | exact sa_432 | exact n32_inA sb_432 (by omega) (by omega) | (refine n32_inA (by assumption) ?_ ?_ <;> omega) | exact bi01 | (rw [sa_432]; omega) | decide) only [sX12_leastWithout_0, sX12_leastWithout_1, sX12_leastWithout_4, sX12_leastWithout_5, sX12_leastWithout_6, sX12_leastWithout_7, sX12_leastWithout_8, sX12_leastWithout_9, sX12_leastWithout_13, sX12_leastWithout_14, sX12_leastWithout_17, sX12_leastWithout_20, sX12_leastWithout_21, sX12_leastWithout_23, sX12_leastWithout_26, sX12_leastWithout_27, sX12_leastWithout_30, sX12_leastWithout_31, sX12_leastWithout_34, sX12_leastWithout_37, sX12_leastWithout_38, sX12_leastWithout_41, sX12_leastWithout_43, sX12_leastWithout_44, sX12_leastWithout_45, sX12_leastWithout_48, sX12_leastWithout_50, sX12_leastWithout_51, sX12_leastWithout_52, sX12_leastWithout_55, kX12_leastWithout_58_AIIJNIJN, sX12_leastWithout_58, sX12_leastWithout_60, sX12_leastWithout_61, sX12_leastWithout_63, kX12_leastWithout_64_AIIJNIJN, sX12_leastWithout_64, sX12_leastWithout_67, kX12_leastWithout_70_AIIJNINN, sX12_leastWithout_70, sX12_leastWithout_71, evK_n, evK_v, evK_x, gI_pI, gJ_pI, gR_pI, gI_pJ, gJ_pJ, gR_pJ, gI_pR, gJ_pR, gR_pR, if_true, if_false, not_true_eq_false, not_false_eq_true, and_true, true_and, and_false, false_and, and_self, or_true, true_or, or_false, false_or, or_self, ne_eq, Decidable.not_not, Nat.reduceEqDiff, Nat.reduceEqDiff, n32_le, n32_lt, n32_add, n32_mul, n32_cl, sa_432, sb_432, hnn, n64_clt, hlt, cc]
        exact i1
      · rw [if_neg cc] at i1
        simp (disch := first | exact jm_lt0 | (apply jm_ltx; (repeat (first | exact jw_0 | apply jw_i | apply jw_r | apply jw_l)); omega) | omega | assumption | exact sa_432 | exact n32_inA sb_432 (by omega) (by omega) | (refine n32_inA (by assumption) ?_ ?_ <;> omega) | exact bi01 | (rw [sa_432]; omega) | decide) only [sX12_leastWithout_0, sX12_leastWithout_1, sX12_leastWithout_4, sX12_leastWithout_5, sX12_leastWithout_6, sX12_leastWithout_7, sX12_leastWithout_8, sX12_leastWithout_9, sX12_leastWithout_13, sX12_leastWithout_14, sX12_leastWithout_17, sX12_leastWithout_20, sX12_leastWithout_21, sX12_leastWithout_23, sX12_leastWithout_26, sX12_leastWithout_27, sX12_leastWithout_30, sX12_leastWithout_31, sX12_leastWithout_34, sX12_leastWithout_37, sX12_leastWithout_38, sX12_leastWithout_41, sX12_leastWithout_43, sX12_leastWithout_44, sX12_leastWithout_45, sX12_leastWithout_48, sX12_leastWithout_50, sX12_leastWithout_51, sX12_leastWithout_52, sX12_leastWithout_55, kX12_leastWithout_58_AIIJNIJN, sX12_leastWithout_58, sX12_leastWithout_60, sX12_leastWithout_61, sX12_leastWithout_63, kX12_leastWithout_64_AIIJNIJN, sX12_leastWithout_64, sX12_leastWithout_67, kX12_leastWithout_70_AIIJNINN, sX12_leastWithout_70, sX12_leastWithout_71, evK_n, evK_v, evK_x, gI_pI, gJ_pI, gR_pI, gI_pJ, gJ_pJ, gR_pJ, gI_pR, gJ_pR, gR_pR, if_true, if_false, not_true_eq_false, not_false_eq_true, and_true, true_and, and_false, false_and, and_self, or_true, true_or, or_false, false_or, or_self, ne_eq, Decidable.not_not, Nat.reduceEqDiff, Nat.reduceEqDiff, n32_le, n32_lt, n32_add, n32_mul, n32_cl, sa_432, sb_432, hnn, n64_clt, hlt, cc]
        exact i1
theorem opn_keeper (h : Inv c s t) : OpN g (d + 35) mX11_keeper mX12_keeper [some (.ref (0 : Nat)), none, none, none] [some (.ref (432 : Nat))] c s t := by
  obtain ⟨w, G, ver, hC, hM, hG, hw, hv⟩ := h
  have hF := hC.1.1
  have hM0 := hM.t0
  obtain ⟨s1, e1, q1⟩ := c_keep (g := g) (d := d) hw (wT w 7) 0 s (by omega) hC.1
  obtain ⟨t1, f1, y1, hM1, hP1⟩ := mq_plain (g := g) (d := d + 33) hM0
  obtain ⟨t2, f2, y2, hM2⟩ := m_lw (g := g) (d := d) hw (bt := true) (f := fun p => endS w (opt w 1 p)) (if_pos rfl).symm (t0 := t1) (fun p hp => hP1.wo hp) (wT w 7) 0 t1 (by omega) hM1 (fun _ _ _ _ _ => rfl)
  rw [if_pos rfl, if_pos rfl, bi_t rfl] at f2
  rw [if_pos rfl] at e1
  have y3 := y1.tr y2
  refine ⟨if wT w 7 = 0 then -1 else Int32.ofNat (bst (fun p => endS w (opt w 1 p)) (wT w 7)), s1, t2, ?_, ?_, ⟨w, G, ver, hC.q hG q1, hM2, hG, hw, by omega⟩, q1.clk, t0_mlk.tr (go_mlk y3)⟩
  · simp (disch := first | exact jm_lt0 | (apply jm_ltx; (repeat (first | exact jw_0 | apply jw_i | apply jw_r | apply jw_l)); omega) | omega | assumption | exact sa_0 | exact n32_inA sb_0 (by omega) (by omega) | (refine n32_inA (by assumption) ?_ ?_ <;> omega) | exact bi01 | (rw [sa_0]; omega) | decide) only [sX11_keeper_0, sX11_keeper_1, sX11_keeper_4, sX11_keeper_5, sX11_keeper_6, sX11_keeper_7, sX11_keeper_8, sX11_keeper_10, sX11_keeper_11, sX11_keeper_14, sX11_keeper_15, sX11_keeper_16, sX11_keeper_19, sX11_keeper_20, sX11_keeper_23, sX11_keeper_24, sX11_keeper_27, sX11_keeper_28, sX11_keeper_29, sX11_keeper_32, sX11_keeper_33, sX11_keeper_36, sX11_keeper_37, sX11_keeper_40, sX11_keeper_41, sX11_keeper_42, sX11_keeper_45, sX11_keeper_46, kX11_keeper_49_AIII, sX11_keeper_49, sX11_keeper_50, sX11_keeper_51, sX11_keeper_54, kX11_keeper_57_AIII, sX11_keeper_57, sX11_keeper_58, evK_n, evK_v, evK_x, gI_pI, gJ_pI, gR_pI, gI_pJ, gJ_pJ, gR_pJ, gI_pR, gJ_pR, gR_pR, if_true, if_false, not_true_eq_false, not_false_eq_true, and_true, true_and, and_false, false_and, and_self, or_true, true_or, or_false, false_or, or_self, ne_eq, Decidable.not_not, Nat.reduceEqDiff, Nat.reduceEqDiff, n32_le, n32_lt, n32_add, n32_mul, n32_cl, sa_0, sb_0, c11_people hF hC.1.2.2.1 hw]
    exact e1
  · simp (disch := first | exact jm_lt0 | (apply jm_ltx; (repeat (first | exact jw_0 | apply jw_i | apply jw_r | apply jw_l)); omega) | omega | assumption | exact sa_432 | exact n32_inA sb_432 (by omega) (by omega) | (refine n32_inA (by assumption) ?_ ?_ <;> omega) | exact bi01 | (rw [sa_432]; omega) | decide) only [sX12_keeper_0, sX12_keeper_1, sX12_keeper_2, sX12_keeper_5, sX12_keeper_6, sX12_keeper_7, sX12_keeper_10, sX12_leastWithout_0, sX12_leastWithout_1, sX12_leastWithout_4, sX12_leastWithout_5, sX12_leastWithout_6, sX12_leastWithout_7, sX12_leastWithout_8, sX12_leastWithout_9, sX12_leastWithout_13, sX12_leastWithout_14, sX12_leastWithout_17, sX12_leastWithout_20, sX12_leastWithout_21, sX12_leastWithout_23, sX12_leastWithout_26, sX12_leastWithout_27, sX12_leastWithout_30, sX12_leastWithout_31, sX12_leastWithout_34, sX12_leastWithout_37, sX12_leastWithout_38, sX12_leastWithout_41, sX12_leastWithout_43, sX12_leastWithout_44, sX12_leastWithout_45, sX12_leastWithout_48, sX12_leastWithout_50, sX12_leastWithout_51, sX12_leastWithout_52, sX12_leastWithout_55, kX12_leastWithout_58_AIIJNIJN, sX12_leastWithout_58, sX12_leastWithout_60, sX12_leastWithout_61, sX12_leastWithout_63, kX12_leastWithout_64_AIIJNIJN, sX12_leastWithout_64, sX12_leastWithout_67, kX12_leastWithout_70_AIIJNINN, sX12_leastWithout_70, sX12_leastWithout_71, evK_n, evK_v, evK_x, gI_pI, gJ_pI, gR_pI, gI_pJ, gJ_pJ, gR_pJ, gI_pR, gJ_pR, gR_pR, if_true, if_false, not_true_eq_false, not_false_eq_true, and_true, true_and, and_false, false_and, and_self, or_true, true_or, or_false, false_or, or_self, ne_eq, Decidable.not_not, Nat.reduceEqDiff, Nat.reduceEqDiff, n32_le, n32_lt, n32_add, n32_mul, n32_cl, sa_432, sb_432, f1]
    rw [f2]
    simp only [evK_n, evK_v, evK_x, gI_pI, gJ_pI, gR_pI, gI_pJ, gJ_pJ, gR_pJ, gI_pR, gJ_pR, gR_pR, sX12_keeper_0, sX12_keeper_1, sX12_keeper_2, sX12_keeper_5, sX12_keeper_6, sX12_keeper_7, sX12_keeper_10]
theorem opn_spoiler (h : Inv c s t) : OpN g (d + 35) mX11_spoiler mX12_spoiler [some (.ref (0 : Nat)), none, none, none] [some (.ref (432 : Nat))] c s t := by
  obtain ⟨w, G, ver, hC, hM, hG, hw, hv⟩ := h
  have hF := hC.1.1
  have hM0 := hM.t0
  obtain ⟨s1, e1, q1⟩ := c_spoil (g := g) (d := d) hw (wT w 7) 0 s (by omega) hC.1
  obtain ⟨t1, f1, y1, hM1, hP1⟩ := mq_plain (g := g) (d := d + 33) hM0
  obtain ⟨t2, f2, y2, hM2⟩ := m_lw (g := g) (d := d) hw (bt := false) (f := fun p => costS w (opt w 1 p)) (if_neg (by decide)).symm (t0 := t1) (fun p hp => hP1.wo hp) (wT w 7) 0 t1 (by omega) hM1 (fun _ _ _ _ _ => rfl)
  rw [if_pos rfl, if_pos rfl, bi_f (by decide)] at f2
  rw [if_pos rfl] at e1
  have y3 := y1.tr y2
  refine ⟨if wT w 7 = 0 then -1 else Int32.ofNat (bst (fun p => costS w (opt w 1 p)) (wT w 7)), s1, t2, ?_, ?_, ⟨w, G, ver, hC.q hG q1, hM2, hG, hw, by omega⟩, q1.clk, t0_mlk.tr (go_mlk y3)⟩
  · simp (disch := first | exact jm_lt0 | (apply jm_ltx; (repeat (first | exact jw_0 | apply jw_i | apply jw_r | apply jw_l)); omega) | omega | assumption | exact sa_0 | exact n32_inA sb_0 (by omega) (by omega) | (refine n32_inA (by assumption) ?_ ?_ <;> omega) | exact bi01 | (rw [sa_0]; omega) | decide) only [sX11_spoiler_0, sX11_spoiler_1, sX11_spoiler_4, sX11_spoiler_5, sX11_spoiler_6, sX11_spoiler_7, sX11_spoiler_8, sX11_spoiler_10, sX11_spoiler_11, sX11_spoiler_14, sX11_spoiler_15, sX11_spoiler_16, sX11_spoiler_19, sX11_spoiler_20, sX11_spoiler_23, sX11_spoiler_24, sX11_spoiler_27, sX11_spoiler_28, sX11_spoiler_29, sX11_spoiler_32, sX11_spoiler_33, sX11_spoiler_36, sX11_spoiler_37, sX11_spoiler_40, sX11_spoiler_41, sX11_spoiler_42, sX11_spoiler_45, sX11_spoiler_46, kX11_spoiler_49_AIII, sX11_spoiler_49, sX11_spoiler_50, sX11_spoiler_51, sX11_spoiler_54, kX11_spoiler_57_AIII, sX11_spoiler_57, sX11_spoiler_58, evK_n, evK_v, evK_x, gI_pI, gJ_pI, gR_pI, gI_pJ, gJ_pJ, gR_pJ, gI_pR, gJ_pR, gR_pR, if_true, if_false, not_true_eq_false, not_false_eq_true, and_true, true_and, and_false, false_and, and_self, or_true, true_or, or_false, false_or, or_self, ne_eq, Decidable.not_not, Nat.reduceEqDiff, Nat.reduceEqDiff, n32_le, n32_lt, n32_add, n32_mul, n32_cl, sa_0, sb_0, c11_people hF hC.1.2.2.1 hw]
    exact e1
  · simp (disch := first | exact jm_lt0 | (apply jm_ltx; (repeat (first | exact jw_0 | apply jw_i | apply jw_r | apply jw_l)); omega) | omega | assumption | exact sa_432 | exact n32_inA sb_432 (by omega) (by omega) | (refine n32_inA (by assumption) ?_ ?_ <;> omega) | exact bi01 | (rw [sa_432]; omega) | decide) only [sX12_spoiler_0, sX12_spoiler_1, sX12_spoiler_2, sX12_spoiler_5, sX12_spoiler_6, sX12_spoiler_7, sX12_spoiler_10, sX12_leastWithout_0, sX12_leastWithout_1, sX12_leastWithout_4, sX12_leastWithout_5, sX12_leastWithout_6, sX12_leastWithout_7, sX12_leastWithout_8, sX12_leastWithout_9, sX12_leastWithout_13, sX12_leastWithout_14, sX12_leastWithout_17, sX12_leastWithout_20, sX12_leastWithout_21, sX12_leastWithout_23, sX12_leastWithout_26, sX12_leastWithout_27, sX12_leastWithout_30, sX12_leastWithout_31, sX12_leastWithout_34, sX12_leastWithout_37, sX12_leastWithout_38, sX12_leastWithout_41, sX12_leastWithout_43, sX12_leastWithout_44, sX12_leastWithout_45, sX12_leastWithout_48, sX12_leastWithout_50, sX12_leastWithout_51, sX12_leastWithout_52, sX12_leastWithout_55, kX12_leastWithout_58_AIIJNIJN, sX12_leastWithout_58, sX12_leastWithout_60, sX12_leastWithout_61, sX12_leastWithout_63, kX12_leastWithout_64_AIIJNIJN, sX12_leastWithout_64, sX12_leastWithout_67, kX12_leastWithout_70_AIIJNINN, sX12_leastWithout_70, sX12_leastWithout_71, evK_n, evK_v, evK_x, gI_pI, gJ_pI, gR_pI, gI_pJ, gJ_pJ, gR_pJ, gI_pR, gJ_pR, gR_pR, if_true, if_false, not_true_eq_false, not_false_eq_true, and_true, true_and, and_false, false_and, and_self, or_true, true_or, or_false, false_or, or_self, ne_eq, Decidable.not_not, Nat.reduceEqDiff, Nat.reduceEqDiff, n32_le, n32_lt, n32_add, n32_mul, n32_cl, sa_432, sb_432, f1]
    rw [f2]
    simp only [evK_n, evK_v, evK_x, gI_pI, gJ_pI, gR_pI, gI_pJ, gJ_pJ, gR_pJ, gI_pR, gJ_pR, gR_pR, sX12_spoiler_0, sX12_spoiler_1, sX12_spoiler_2, sX12_spoiler_5, sX12_spoiler_6, sX12_spoiler_7, sX12_spoiler_10]
/-- how full a STARTER had best be -/
def fiF (w : WD) (i : Nat) : Nat := costS w (opt w 4 (i + 1))
theorem c_fill (hw : wOK w) : ∀ (m k : Nat) (s : fm_S), k + m = wT w 0 → 1 ≤ k → LI s w ver → ∃ s', ev g (d + 35) mX11_fill 16 [some (.ref (0 : Nat)), some (.int (Int32.ofNat (wT w 0))), some (.int (Int32.ofNat (bst (fiF w) k + 1))), some (.int (Int32.ofNat (k + 1)))] [] s = some (.inl (some (.int (Int32.ofNat (bst (fiF w) (wT w 0) + 1)))), s') ∧ LQ s s' w ver := by
  have hB : BIG = 4611686018427387904 := rfl
  have h12 := hw.1.2.1
  have hbd : ∀ k, k < 12 → fiF w k < BIG := fun k hk => cost_lt hw (opt_ok hw (Or.inr (Or.inr (Or.inr (Or.inr (Or.inl ⟨rfl, by omega, by omega⟩))))))
  intro m
  induction m with
  | zero =>
    intro k s hk h1 h
    have hil : k = wT w 0 := by omega
    refine ⟨s, ?_, LQ.rf h⟩
    rw [← hil, sX11_fill_16]
    simp (disch := first | exact jm_lt0 | (apply jm_ltx; (repeat (first | exact jw_0 | apply jw_i | apply jw_r | apply jw_l)); omega) | omega | assumption | exact sa_0 | exact n32_inA sb_0 (by omega) (by omega) | (refine n32_inA (by assumption) ?_ ?_ <;> omega) | exact bi01 | (rw [sa_0]; omega) | decide) only [sX11_fill_0, sX11_fill_1, sX11_fill_4, sX11_fill_7, sX11_fill_8, sX11_fill_11, sX11_fill_12, sX11_fill_13, sX11_fill_14, sX11_fill_15, sX11_fill_17, sX11_fill_18, sX11_fill_21, sX11_fill_22, sX11_fill_25, sX11_fill_26, sX11_fill_29, sX11_fill_30, sX11_fill_31, sX11_fill_34, sX11_fill_35, sX11_fill_38, sX11_fill_39, sX11_fill_42, sX11_fill_43, sX11_fill_44, sX11_fill_47, sX11_fill_48, sX11_fill_51, sX11_fill_52, sX11_fill_53, sX11_fill_56, kX11_fill_59_AIII, sX11_fill_59, sX11_fill_60, evK_n, evK_v, evK_x, gI_pI, gJ_pI, gR_pI, gI_pJ, gJ_pJ, gR_pJ, gI_pR, gJ_pR, gR_pR, if_true, if_false, not_true_eq_false, not_false_eq_true, and_true, true_and, and_false, false_and, and_self, or_true, true_or, or_false, false_or, or_self, ne_eq, Decidable.not_not, Nat.reduceEqDiff, Nat.reduceEqDiff, n32_le, n32_lt, n32_add, n32_mul, n32_cl]
    rw [if_pos (by omega)]
  | succ m ih =>
    intro k s hk h1 h
    obtain ⟨k', rfl⟩ : ∃ j, k = j + 1 := ⟨k - 1, by omega⟩
    have hbl := bst_lt (f := fiF w) k'
    have r01 := h.1.u 0 1 3 (by decide +kernel)
    have r06 := h.1.u 0 6 306 (by decide +kernel)
    obtain ⟨s1, e1, q1⟩ := c6_costBy (g := g) (d := d + 28) h (ch := 4) (de := k' + 1 + 1) (Or.inr (Or.inr (Or.inr (Or.inr (Or.inl ⟨rfl, by omega, by omega⟩)))))
    have r01b := q1.2.1.u 0 1 3 (by decide +kernel)
    have r06b := q1.2.1.u 0 6 306 (by decide +kernel)
    obtain ⟨s2, e2, q2⟩ := c6_costBy (g := g) (d := d + 28) q1.2 (ch := 4) (de := bst (fiF w) (k' + 1) + 1) (Or.inr (Or.inr (Or.inr (Or.inr (Or.inl ⟨rfl, by omega, by omega⟩)))))
    obtain ⟨s', f1, f2⟩ := ih (k' + 1 + 1) s2 (by omega) (by omega) q2.2
    have e1' : ev g (d + 34) mX6_costBy 0 [some (.ref (306 : Nat)), some (.ref (3 : Nat)), some (.int (Int32.ofNat 4)), some (.int (Int32.ofNat (k' + 1 + 1))), none] [] s = some (.inl (some (.long (Int64.ofNat (fiF w (k' + 1))))), s1) := e1
    have e2' : ev g (d + 34) mX6_costBy 0 [some (.ref (306 : Nat)), some (.ref (3 : Nat)), some (.int (Int32.ofNat 4)), some (.int (Int32.ofNat (bst (fiF w) (k' + 1) + 1))), none] [] s1 = some (.inl (some (.long (Int64.ofNat (fiF w (bst (fiF w) (k' + 1)))))), s2) := e2
    have b1 := hbd (k' + 1) (by omega)
    have b2 := hbd (bst (fiF w) (k' + 1)) (by omega)
    have hle : (Int64.ofNat (fiF w (bst (fiF w) (k' + 1))) ≤ Int64.ofNat (fiF w (k' + 1))) = (fiF w (bst (fiF w) (k' + 1)) ≤ fiF w (k' + 1)) := n64_le (by omega) (by omega)
    have g1 : ¬ wT w 0 < k' + 1 + 1 := by omega
    rw [bst] at f1
    generalize bst (fiF w) (k' + 1) = a at *
    refine ⟨s', ?_, (q1.tr q2).tr f2⟩
    rw [sX11_fill_16]
    by_cases cc : fiF w (k' + 1) < fiF w a
    · have cc' : ¬ fiF w a ≤ fiF w (k' + 1) := by omega
      rw [if_pos cc] at f1
      simp (disch := first | exact jm_lt0 | (apply jm_ltx; (repeat (first | exact jw_0 | apply jw_i | apply jw_r | apply jw_l)); omega) | omega | assumption | exact sa_0 | exact sa_3 | exact sa_306 | exact n32_inA sb_0 (by omega) (by omega) | exact n32_inA sb_3 (by omega) (by omega) | exact n32_inA sb_306 (by omega) (by omega) | (refine n32_inA (by assumption) ?_ ?_ <;> omega) | exact bi01 | (rw [sa_0]; omega) | (rw [sa_3]; omega) | (rw [sa_306]; omega) | decide) only [sX11_fill_0, sX11_fill_1, sX11_fill_4, sX11_fill_7, sX11_fill_8, sX11_fill_11, sX11_fill_12, sX11_fill_13, sX11_fill_14, sX11_fill_15, sX11_fill_17, sX11_fill_18, sX11_fill_21, sX11_fill_22, sX11_fill_25, sX11_fill_26, sX11_fill_29, sX11_fill_30, sX11_fill_31, sX11_fill_34, sX11_fill_35, sX11_fill_38, sX11_fill_39, sX11_fill_42, sX11_fill_43, sX11_fill_44, sX11_fill_47, sX11_fill_48, sX11_fill_51, sX11_fill_52, sX11_fill_53, sX11_fill_56, kX11_fill_59_AIII, sX11_fill_59, sX11_fill_60, evK_n, evK_v, evK_x, gI_pI, gJ_pI, gR_pI, gI_pJ, gJ_pJ, gR_pJ, gI_pR, gJ_pR, gR_pR, if_true, if_false, not_true_eq_false, not_false_eq_true, and_true, true_and, and_false, false_and, and_self, or_true, true_or, or_false, false_or, or_self, ne_eq, Decidable.not_not, Nat.reduceEqDiff, Nat.reduceEqDiff, n32_le, n32_lt, n32_add, n32_mul, n32_cl, sa_0, sb_0, sa_3, sb_3, sa_306, sb_306, g1, r01, r06, e1', r01b, r06b, e2', n64_cge, hle, cc']
      exact f1
    · have cc' : fiF w a ≤ fiF w (k' + 1) := by omega
      rw [if_neg cc] at f1
      simp (disch := first | exact jm_lt0 | (apply jm_ltx; (repeat (first | exact jw_0 | apply jw_i | apply jw_r | apply jw_l)); omega) | omega | assumption | exact sa_0 | exact sa_3 | exact sa_306 | exact n32_inA sb_0 (by omega) (by omega) | exact n32_inA sb_3 (by omega) (by omega) | exact n32_inA sb_306 (by omega) (by omega) | (refine n32_inA (by assumption) ?_ ?_ <;> omega) | exact bi01 | (rw [sa_0]; omega) | (rw [sa_3]; omega) | (rw [sa_306]; omega) | decide) only [sX11_fill_0, sX11_fill_1, sX11_fill_4, sX11_fill_7, sX11_fill_8, sX11_fill_11, sX11_fill_12, sX11_fill_13, sX11_fill_14, sX11_fill_15, sX11_fill_17, sX11_fill_18, sX11_fill_21, sX11_fill_22, sX11_fill_25, sX11_fill_26, sX11_fill_29, sX11_fill_30, sX11_fill_31, sX11_fill_34, sX11_fill_35, sX11_fill_38, sX11_fill_39, sX11_fill_42, sX11_fill_43, sX11_fill_44, sX11_fill_47, sX11_fill_48, sX11_fill_51, sX11_fill_52, sX11_fill_53, sX11_fill_56, kX11_fill_59_AIII, sX11_fill_59, sX11_fill_60, evK_n, evK_v, evK_x, gI_pI, gJ_pI, gR_pI, gI_pJ, gJ_pJ, gR_pJ, gI_pR, gJ_pR, gR_pR, if_true, if_false, not_true_eq_false, not_false_eq_true, and_true, true_and, and_false, false_and, and_self, or_true, true_or, or_false, false_or, or_self, ne_eq, Decidable.not_not, Nat.reduceEqDiff, Nat.reduceEqDiff, n32_le, n32_lt, n32_add, n32_mul, n32_cl, sa_0, sb_0, sa_3, sb_3, sa_306, sb_306, g1, r01, r06, e1', r01b, r06b, e2', n64_cge, hle, cc']
      exact f1
theorem m_fill (hw : wOK w) {t0 : fm_S} (hP : ∀ p, PM (pI t0 432 45 (Int32.ofNat p)) (opt w 4 p) false) : ∀ (m k : Nat) (t : fm_S), k + m = wT w 0 → MI t w G → OPe 45 45 t0 t → ∃ t', ev g (d + 35) mX12_fill 16 [some (.ref (432 : Nat)), some (.int (if k = 0 then -1 else Int32.ofNat (bst (fiF w) k + 1))), some (.long (Int64.ofNat (if k = 0 then 0 else fiF w (bst (fiF w) k)))), none, some (.int (Int32.ofNat (k + 1))), none, none] [] t = some (.inl (some (.int (if wT w 0 = 0 then -1 else Int32.ofNat (bst (fiF w) (wT w 0) + 1)))), t') ∧ FM pM qMT t t' ∧ MI t' w G := by
  have hB : BIG = 4611686018427387904 := rfl
  have h12 := hw.1.2.1
  have hbd : ∀ k, k < 12 → fiF w k < BIG := fun k hk => cost_lt hw (opt_ok hw (Or.inr (Or.inr (Or.inr (Or.inr (Or.inl ⟨rfl, by omega, by omega⟩))))))
  intro m
  induction m with
  | zero =>
    intro k t hk h hO
    have hil : k = wT w 0 := by omega
    have h0 := h.2.2.1.1 0 (by decide)
    have r11 := h.1.u 432 11 436 (by decide +kernel)
    refine ⟨t, ?_, FM.rf, h⟩
    rw [← hil] at h0 ⊢
    rw [sX12_fill_16]
    simp (disch := first | exact jm_lt0 | (apply jm_ltx; (repeat (first | exact jw_0 | apply jw_i | apply jw_r | apply jw_l)); omega) | omega | assumption | exact sa_432 | exact sa_436 | exact n32_inA sb_432 (by omega) (by omega) | exact n32_inA sb_436 (by omega) (by omega) | (refine n32_inA (by assumption) ?_ ?_ <;> omega) | exact bi01 | (rw [sa_432]; omega) | (rw [sa_436]; omega) | decide) only [sX12_fill_0, sX12_fill_1, sX12_fill_2, sX12_fill_5, sX12_fill_6, sX12_fill_9, sX12_fill_10, sX12_fill_11, sX12_fill_12, sX12_fill_13, sX12_fill_14, sX12_fill_18, sX12_fill_19, sX12_fill_22, sX12_fill_23, sX12_fill_24, sX12_fill_27, sX12_fill_28, sX12_fill_30, sX12_fill_33, sX12_fill_34, sX12_fill_37, sX12_fill_39, sX12_fill_40, sX12_fill_41, sX12_fill_44, sX12_fill_46, sX12_fill_47, sX12_fill_48, sX12_fill_51, kX12_fill_54_AIJNIJN, sX12_fill_54, sX12_fill_56, sX12_fill_57, sX12_fill_59, kX12_fill_60_AIJNIJN, sX12_fill_60, sX12_fill_63, kX12_fill_66_AIJNINN, sX12_fill_66, sX12_fill_67, evK_n, evK_v, evK_x, gI_pI, gJ_pI, gR_pI, gI_pJ, gJ_pJ, gR_pJ, gI_pR, gJ_pR, gR_pR, if_true, if_false, not_true_eq_false, not_false_eq_true, and_true, true_and, and_false, false_and, and_self, or_true, true_or, or_false, false_or, or_self, ne_eq, Decidable.not_not, Nat.reduceEqDiff, Nat.reduceEqDiff, n32_le, n32_lt, n32_add, n32_mul, n32_cl, sa_432, sb_432, sa_436, sb_436, r11, h0]
    rw [if_pos (by omega)]
  | succ m ih =>
    intro k t hk h hO
    have h0 := h.2.2.1.1 0 (by decide)
    have r11 := h.1.u 432 11 436 (by decide +kernel)
    have hok : cOK 4 (k + 1) := Or.inr (Or.inr (Or.inr (Or.inr (Or.inl ⟨rfl, by omega, by omega⟩))))
    have hP1 := (hP (k + 1)).e1 hO
    have hM1 := h.opt (j := 45) (x := Int32.ofNat (k + 1)) (by omega)
    obtain ⟨t2, f2, y2, hM2, o2⟩ := mq_cost (g := g) (d := d + 28) hM1 hw hP1 (opt_ok hw hok)
    have f2' : ev g (d + 34) mX12_costNow 0 [some (.ref (432 : Nat)), none, none, none] [] (pI t 432 45 (Int32.ofNat (k + 1))) = some (.inl (some (.long (Int64.ofNat (fiF w k)))), t2) := f2
    obtain ⟨t', i1, i2, i3⟩ := ih (k + 1) t2 (by omega) hM2 (hO.p o2)
    have g1 : ¬ wT w 0 < k + 1 := by omega
    have hbk := hbd k (by omega)
    refine ⟨t', ?_, ((fmo (j := 45) (x := Int32.ofNat (k + 1)) (by omega)).tr y2).tr i2, i3⟩
    rw [sX12_fill_16]
    rcases Nat.eq_zero_or_pos k with h0k | h0k
    · subst h0k
      have b1 : bst (fiF w) 1 = 0 := Nat.le_zero.mp (bst_lt 0)
      rw [if_neg (by decide), if_neg (by decide), show 0 + 1 = 1 from rfl, b1] at i1
      rw [if_pos rfl, if_pos rfl]
      have f2'' : ev g (d + 34) mX12_costNow 0 [some (.ref (432 : Nat)), none, none, none] [] (pI t 432 45 (Int32.ofNat 1)) = some (.inl (some (.long (Int64.ofNat (fiF w 0)))), t2) := f2'
      simp (disch := first | exact jm_lt0 | (apply jm_ltx; (repeat (first | exact jw_0 | apply jw_i | apply jw_r | apply jw_l)); omega) | omega | assumption | exact sa_432 | exact sa_436 | exact n32_inA sb_432 (by omega) (by omega) | exact n32_inA sb_436 (by omega) (by omega) | (refine n32_inA (by assumption) ?_ ?_ <;> omega) | exact bi01 | (rw [sa_432]; omega) | (rw [sa_436]; omega) | decide) only [sX12_fill_0, sX12_fill_1, sX12_fill_2, sX12_fill_5, sX12_fill_6, sX12_fill_9, sX12_fill_10, sX12_fill_11, sX12_fill_12, sX12_fill_13, sX12_fill_14, sX12_fill_18, sX12_fill_19, sX12_fill_22, sX12_fill_23, sX12_fill_24, sX12_fill_27, sX12_fill_28, sX12_fill_30, sX12_fill_33, sX12_fill_34, sX12_fill_37, sX12_fill_39, sX12_fill_40, sX12_fill_41, sX12_fill_44, sX12_fill_46, sX12_fill_47, sX12_fill_48, sX12_fill_51, kX12_fill_54_AIJNIJN, sX12_fill_54, sX12_fill_56, sX12_fill_57, sX12_fill_59, kX12_fill_60_AIJNIJN, sX12_fill_60, sX12_fill_63, kX12_fill_66_AIJNINN, sX12_fill_66, sX12_fill_67, evK_n, evK_v, evK_x, gI_pI, gJ_pI, gR_pI, gI_pJ, gJ_pJ, gR_pJ, gI_pR, gJ_pR, gR_pR, if_true, if_false, not_true_eq_false, not_false_eq_true, and_true, true_and, and_false, false_and, and_self, or_true, true_or, or_false, false_or, or_self, ne_eq, Decidable.not_not, Nat.reduceEqDiff, Nat.reduceEqDiff, n32_le, n32_lt, n32_add, n32_mul, n32_cl, sa_432, sb_432, sa_436, sb_436, r11, h0, g1, f2'', Nat.zero_add]
      first
        | exact i1
        | (rw [if_neg (by omega)]; exact i1)
    · obtain ⟨k', rfl⟩ : ∃ j, k = j + 1 := ⟨k - 1, by omega⟩
      have hbl := bst_lt (f := fiF w) k'
      have hbb := hbd (bst (fiF w) (k' + 1)) (by omega)
      rw [if_neg (by omega), if_neg (by omega), bst] at i1
      rw [if_neg (by omega), if_neg (by omega)]
      have hlt : (Int64.ofNat (fiF w (k' + 1)) < Int64.ofNat (fiF w (bst (fiF w) (k' + 1)))) = (fiF w (k' + 1) < fiF w (bst (fiF w) (k' + 1))) := n64_lt (by omega) (by omega)
      have hnn : ¬ Int32.ofNat (bst (fiF w) (k' + 1) + 1) = -1 := of_eq_false (n32_neg (by omega))
      generalize bst (fiF w) (k' + 1) = a at *
      by_cases cc : fiF w (k' + 1) < fiF w a
      · rw [if_pos cc] at i1
        simp (disch := first | exact jm_lt0 | (apply jm_ltx; (repeat (first | exact jw_0 | apply jw_i | apply jw_r | apply jw_l)); omega) | omega | assumption | exact sa_432 | exact sa_436 | exact n32_inA sb_432 (by omega) (by omega) | exact n32_inA sb_436 (by omega) (by omega) | (refine n32_inA (by assumption) ?_ ?_ <;> omega) | exact bi01 | (rw [sa_432]; omega) | (rw [sa_436]; omega) | decide) only [sX12_fill_0, sX12_fill_1, sX12_fill_2, sX12_fill_5, sX12_fill_6, sX12_fill_9, sX12_fill_10, sX12_fill_11, sX12_fill_12, sX12_fill_13, sX12_fill_14, sX12_fill_18, sX12_fill_19, sX12_fill_22, sX12_fill_23, sX12_fill_24, sX12_fill_27, sX12_fill_28, sX12_fill_30, sX12_fill_33, sX12_fill_34, sX12_fill_37, sX12_fill_39, sX12_fill_40, sX12_fill_41, sX12_fill_44, sX12_fill_46, sX12_fill_47, sX12_fill_48, sX12_fill_51, kX12_fill_54_AIJNIJN, sX12_fill_54, sX12_fill_56, sX12_fill_57, sX12_fill_59, kX12_fill_60_AIJNIJN, sX12_fill_60, sX12_fill_63, kX12_fill_66_AIJNINN, sX12_fill_66, sX12_fill_67, evK_n, evK_v, evK_x, gI_pI, gJ_pI, gR_pI, gI_pJ, gJ_pJ, gR_pJ, gI_pR, gJ_pR, gR_pR, if_true, if_false, not_true_eq_false, not_false_eq_true, and_true, true_and, and_false, false_and, and_self, or_true, true_or, or_false, false_or, or_self, ne_eq, Decidable.not_not, Nat.reduceEqDiff, Nat.reduceEqDiff, n32_le, n32_lt, n32_add, n32_mul, n32_cl, sa_432, sb_432, sa_436, sb_436, r11, h0, g1, f2', hnn, n64_clt, hlt, cc]
        exact i1
      · rw [if_neg cc] at i1
        simp (disch := first | exact jm_lt0 | (apply jm_ltx; (repeat (first | exact jw_0 | apply jw_i | apply jw_r | apply jw_l)); omega) | omega | assumption | exact sa_432 | exact sa_436 | exact n32_inA sb_432 (by omega) (by omega) | exact n32_inA sb_436 (by omega) (by omega) | (refine n32_inA (by assumption) ?_ ?_ <;> omega) | exact bi01 | (rw [sa_432]; omega) | (rw [sa_436]; omega) | decide) only [sX12_fill_0, sX12_fill_1, sX12_fill_2, sX12_fill_5, sX12_fill_6, sX12_fill_9, sX12_fill_10, sX12_fill_11, sX12_fill_12, sX12_fill_13, sX12_fill_14, sX12_fill_18, sX12_fill_19, sX12_fill_22, sX12_fill_23, sX12_fill_24, sX12_fill_27, sX12_fill_28, sX12_fill_30, sX12_fill_33, sX12_fill_34, sX12_fill_37, sX12_fill_39, sX12_fill_40, sX12_fill_41, sX12_fill_44, sX12_fill_46, sX12_fill_47, sX12_fill_48, sX12_fill_51, kX12_fill_54_AIJNIJN, sX12_fill_54, sX12_fill_56, sX12_fill_57, sX12_fill_59, kX12_fill_60_AIJNIJN, sX12_fill_60, sX12_fill_63, kX12_fill_66_AIJNINN, sX12_fill_66, sX12_fill_67, evK_n, evK_v, evK_x, gI_pI, gJ_pI, gR_pI, gI_pJ, gJ_pJ, gR_pJ, gI_pR, gJ_pR, gR_pR, if_true, if_false, not_true_eq_false, not_false_eq_true, and_true, true_and, and_false, false_and, and_self, or_true, true_or, or_false, false_or, or_self, ne_eq, Decidable.not_not, Nat.reduceEqDiff, Nat.reduceEqDiff, n32_le, n32_lt, n32_add, n32_mul, n32_cl, sa_432, sb_432, sa_436, sb_436, r11, h0, g1, f2', hnn, n64_clt, hlt, cc]
        exact i1
theorem opn_fill (h : Inv c s t) : OpN g (d + 35) mX11_fill mX12_fill [some (.ref (0 : Nat)), none, none, none] [some (.ref (432 : Nat)), none, none, none, none, none, none] c s t := by
  obtain ⟨w, G, ver, hC, hM, hG, hw, hv⟩ := h
  have hF := hC.1.1
  have hM0 := hM.t0
  have h1 := hw.1.1
  have r01 := hF.u 0 1 3 (by decide +kernel)
  have r30 := hF.u 3 0 4 (by decide +kernel)
  have k1 := w_told (g := g) (d := d + 34) (i := 0) hF hC.1.2.2.1 (by decide)
  obtain ⟨s1, e1, q1⟩ := c_fill (g := g) (d := d) hw (wT w 0 - 1) 1 s (by omega) (by decide) hC.1
  obtain ⟨t1, f1, y1, hM1, hP1⟩ := mq_plain (g := g) (d := d + 34) hM0
  obtain ⟨t2, f2, y2, hM2⟩ := m_fill (g := g) (d := d) hw (t0 := t1) (fun p => hP1.fi) (wT w 0) 0 t1 (by omega) hM1 (fun _ _ _ _ _ => rfl)
  rw [if_pos rfl, if_pos rfl, if_neg (by omega)] at f2
  have b1 : bst (fiF w) 1 = 0 := Nat.le_zero.mp (bst_lt 0)
  rw [b1] at e1
  have y3 := y1.tr y2
  refine ⟨Int32.ofNat (bst (fiF w) (wT w 0) + 1), s1, t2, ?_, ?_, ⟨w, G, ver, hC.q hG q1, hM2, hG, hw, by omega⟩, q1.clk, t0_mlk.tr (go_mlk y3)⟩
  · simp (disch := first | exact jm_lt0 | (apply jm_ltx; (repeat (first | exact jw_0 | apply jw_i | apply jw_r | apply jw_l)); omega) | omega | assumption | exact sa_0 | exact sa_3 | exact sa_4 | exact n32_inA sb_0 (by omega) (by omega) | exact n32_inA sb_3 (by omega) (by omega) | exact n32_inA sb_4 (by omega) (by omega) | (refine n32_inA (by assumption) ?_ ?_ <;> omega) | exact bi01 | (rw [sa_0]; omega) | (rw [sa_3]; omega) | (rw [sa_4]; omega) | decide) only [sX11_fill_0, sX11_fill_1, sX11_fill_4, sX11_fill_7, sX11_fill_8, sX11_fill_11, sX11_fill_12, sX11_fill_13, sX11_fill_14, sX11_fill_15, sX11_fill_17, sX11_fill_18, sX11_fill_21, sX11_fill_22, sX11_fill_25, sX11_fill_26, sX11_fill_29, sX11_fill_30, sX11_fill_31, sX11_fill_34, sX11_fill_35, sX11_fill_38, sX11_fill_39, sX11_fill_42, sX11_fill_43, sX11_fill_44, sX11_fill_47, sX11_fill_48, sX11_fill_51, sX11_fill_52, sX11_fill_53, sX11_fill_56, kX11_fill_59_AIII, sX11_fill_59, sX11_fill_60, evK_n, evK_v, evK_x, gI_pI, gJ_pI, gR_pI, gI_pJ, gJ_pJ, gR_pJ, gI_pR, gJ_pR, gR_pR, if_true, if_false, not_true_eq_false, not_false_eq_true, and_true, true_and, and_false, false_and, and_self, or_true, true_or, or_false, false_or, or_self, ne_eq, Decidable.not_not, Nat.reduceEqDiff, Nat.reduceEqDiff, n32_le, n32_lt, n32_add, n32_mul, n32_cl, sa_0, sb_0, sa_3, sb_3, sa_4, sb_4, r01, r30, k1]
    exact e1
  · simp (disch := first | exact jm_lt0 | (apply jm_ltx; (repeat (first | exact jw_0 | apply jw_i | apply jw_r | apply jw_l)); omega) | omega | assumption | exact sa_432 | exact n32_inA sb_432 (by omega) (by omega) | (refine n32_inA (by assumption) ?_ ?_ <;> omega) | exact bi01 | (rw [sa_432]; omega) | decide) only [sX12_fill_0, sX12_fill_1, sX12_fill_2, sX12_fill_5, sX12_fill_6, sX12_fill_9, sX12_fill_10, sX12_fill_11, sX12_fill_12, sX12_fill_13, sX12_fill_14, sX12_fill_18, sX12_fill_19, sX12_fill_22, sX12_fill_23, sX12_fill_24, sX12_fill_27, sX12_fill_28, sX12_fill_30, sX12_fill_33, sX12_fill_34, sX12_fill_37, sX12_fill_39, sX12_fill_40, sX12_fill_41, sX12_fill_44, sX12_fill_46, sX12_fill_47, sX12_fill_48, sX12_fill_51, kX12_fill_54_AIJNIJN, sX12_fill_54, sX12_fill_56, sX12_fill_57, sX12_fill_59, kX12_fill_60_AIJNIJN, sX12_fill_60, sX12_fill_63, kX12_fill_66_AIJNINN, sX12_fill_66, sX12_fill_67, evK_n, evK_v, evK_x, gI_pI, gJ_pI, gR_pI, gI_pJ, gJ_pJ, gR_pJ, gI_pR, gJ_pR, gR_pR, if_true, if_false, not_true_eq_false, not_false_eq_true, and_true, true_and, and_false, false_and, and_self, or_true, true_or, or_false, false_or, or_self, ne_eq, Decidable.not_not, Nat.reduceEqDiff, Nat.reduceEqDiff, n32_le, n32_lt, n32_add, n32_mul, n32_cl, sa_432, sb_432, f1]
    exact f2
end AZ0
section AZ1
variable {g : fm_g} {d c : Nat} {s t : fm_S}
theorem op_often {x1 : Int32} (h : Inv c s t) : OpK g (d + 35) mL_often mX12_often [some (.ref (0 : Nat)), some (.int x1), some (.ref (460 : Nat)), none] [some (.ref (432 : Nat)), some (.int x1), none, none, none] c s t := by
  obtain ⟨w, G, ver, hC, hM, hG, hw, hv⟩ := h
  have hF := hC.1.1
  have hM0 := hM.t0
  have hFt := hM0.1
  have hn24 : wn w ≤ 24 := hw.2.2.1
  have hn6 : wT w 7 ≤ 6 := hw.1.2.2.2.2.2.2.2.2
  by_cases h1 : win x1 (Int32.ofNat 0) (Int32.ofNat 1)
  · obtain ⟨wh, -, hwh, rfl⟩ := (win_n (by decide) (by decide)).mp h1
    have r01 := hF.u 0 1 3 (by decide +kernel)
    have r06 := hF.u 0 6 306 (by decide +kernel)
    obtain ⟨s1, e1, q1⟩ := c_often (g := g) (d := d) hw (pa := Int32.ofNat wh) (wn w) 0 s (by omega) hC.1
    have hle : ∀ n, n ≤ wn w → sumN (trF w) n ≤ n * ONE := fun n hn => by
      induction n with
      | zero => exact Nat.zero_le _
      | succ n ih =>
        have := ih (by omega)
        have := trF_le hw (show n < wn w by omega)
        show sumN (trF w) n + trF w n ≤ _
        rw [Nat.succ_mul]
        omega
    have hs := hle (wn w) (Nat.le_refl _)
    have hO1 : ONE = 1099511627776 := rfl
    have hB1 : BIG = 4611686018427387904 := rfl
    have hm1 := Nat.mul_le_mul hn24 (Nat.le_refl ONE)
    have hbb : sumN (trF w) (wn w) < BIG := by omega
    have hbb2 : wn w * 1099511627776 < BIG := by omega
    have cl := c11_least (g := g) (d := d + 32) (s := s1) hbb hbb2 (show wh < 2 by omega)
    have hmul : Int64.ofNat (wn w) * Int64.ofNat 1099511627776 = Int64.ofNat (wn w * 1099511627776) := n64_mul _ _
    have hmul2 : Int64.ofNat 1099511627776 * Int64.ofNat (wn w) = Int64.ofNat (wn w * 1099511627776) := by rw [n64_mul, Nat.mul_comm]
    have h64 : (Int32.ofNat (wn w)).toInt64 = Int64.ofNat (wn w) := n32_64 (by omega)
    have hcls : ev g (d + 34) mX11_often 0 [some (.ref (0 : Nat)), some (.int (Int32.ofNat wh)), none, none, none, none] [] s = some (.inl (some (.long (Int64.ofNat (shr (sumN (trF w) (wn w)) (wn w * 1099511627776) wh)))), s1) := by
      have e0 : ev g (d + 34) mX11_often 0 [some (.ref (0 : Nat)), some (.int (Int32.ofNat wh)), none, none, none, none] [] s = ev g (d + 34) mX11_often 21 [some (.ref (0 : Nat)), some (.int (Int32.ofNat wh)), some (.int (Int32.ofNat (wn w))), some (.long (Int64.ofNat (sumN (trF w) 0))), none, some (.int (Int32.ofNat 0))] [] s := by
        simp (disch := first | exact jm_lt0 | (apply jm_ltx; (repeat (first | exact jw_0 | apply jw_i | apply jw_r | apply jw_l)); omega) | omega | assumption | exact sa_0 | exact sa_5 | exact n32_inA sb_0 (by omega) (by omega) | exact n32_inA sb_5 (by omega) (by omega) | (refine n32_inA (by assumption) ?_ ?_ <;> omega) | exact bi01 | (rw [sa_0]; omega) | (rw [sa_5]; omega) | decide) only [sX11_often_0, sX11_often_1, sX11_often_2, sX11_often_5, sX11_often_8, sX11_often_9, sX11_often_12, sX11_often_15, sX11_often_16, sX11_often_17, sX11_often_18, sX11_often_19, sX11_often_23, sX11_often_24, sX11_often_27, sX11_often_28, sX11_often_29, sX11_often_32, sX11_often_33, sX11_often_36, sX11_often_38, sX11_often_39, sX11_often_42, sX11_often_43, sX11_often_44, sX11_often_47, kX11_often_50_AIIJNI, sX11_often_51, sX11_often_52, sX11_often_53, sX11_often_56, sX11_often_57, sX11_often_58, sX11_often_61, sa_0, sb_0, sa_5, sb_5, evK_n, evK_v, evK_x, gI_pI, gJ_pI, gR_pI, gI_pJ, gJ_pJ, gR_pJ, gI_pR, gJ_pR, gR_pR, if_true, if_false, not_true_eq_false, not_false_eq_true, and_true, true_and, and_false, false_and, and_self, or_true, true_or, or_false, false_or, or_self, ne_eq, Decidable.not_not, Nat.reduceEqDiff, Nat.reduceEqDiff, n32_le, n32_lt, n32_add, n32_mul, n32_cl, c11_need1, show ¬ (Int32.ofNat 1 = 0) by decide, z32, c11_pt h1, c11_diary hF, c11_total hC hG]
        rfl
      rw [e0, e1]
      simp (disch := first | exact jm_lt0 | (apply jm_ltx; (repeat (first | exact jw_0 | apply jw_i | apply jw_r | apply jw_l)); omega) | omega | assumption | exact sa_0 | exact n32_inA sb_0 (by omega) (by omega) | (refine n32_inA (by assumption) ?_ ?_ <;> omega) | exact bi01 | (rw [sa_0]; omega) | decide) only [sX11_often_0, sX11_often_1, sX11_often_2, sX11_often_5, sX11_often_8, sX11_often_9, sX11_often_12, sX11_often_15, sX11_often_16, sX11_often_17, sX11_often_18, sX11_often_19, sX11_often_23, sX11_often_24, sX11_often_27, sX11_often_28, sX11_often_29, sX11_often_32, sX11_often_33, sX11_often_36, sX11_often_38, sX11_often_39, sX11_often_42, sX11_often_43, sX11_often_44, sX11_often_47, kX11_often_50_AIIJNI, sX11_often_50, sX11_often_51, sX11_often_52, sX11_often_53, sX11_often_56, sX11_often_57, sX11_often_58, sX11_often_61, evK_n, evK_v, evK_x, gI_pI, gJ_pI, gR_pI, gI_pJ, gJ_pJ, gR_pJ, gI_pR, gJ_pR, gR_pR, if_true, if_false, not_true_eq_false, not_false_eq_true, and_true, true_and, and_false, false_and, and_self, or_true, true_or, or_false, false_or, or_self, ne_eq, Decidable.not_not, Nat.reduceEqDiff, Nat.reduceEqDiff, n32_le, n32_lt, n32_add, n32_mul, n32_cl, h64, hmul, cl]
    by_cases c0 : wn w = 0
    · refine opk_fine (x := Int64.ofNat (shr (sumN (trF w) (wn w)) (wn w * 1099511627776) wh)) (b := .long (Int64.ofNat (shr (sumN (trF w) (wn w)) (wn w * 1099511627776) wh))) (hl_often_v hcls) ?_ rfl t0_0 (hC.q hG q1) hM0 hG hw (by omega) q1.clk t0_mlk
      have h19 := hM0.2.2.1.2.2.2.1.1
      have w64 : (Int32.ofNat wh).toInt64 = Int64.ofNat wh := n32_64 (by omega)
      rw [c0] at h19 ⊢
      unfold shr
      rw [if_pos (by decide)]
      simp (disch := first | exact jm_lt0 | (apply jm_ltx; (repeat (first | exact jw_0 | apply jw_i | apply jw_r | apply jw_l)); omega) | omega | assumption | exact sa_432 | exact n32_inA sb_432 (by omega) (by omega) | (refine n32_inA (by assumption) ?_ ?_ <;> omega) | exact bi01 | (rw [sa_432]; omega) | decide) only [sX12_often_0, sX12_often_1, sX12_often_2, sX12_often_5, sX12_often_6, sX12_often_7, sX12_often_10, sX12_often_13, sX12_often_14, sX12_often_15, sX12_often_16, sX12_often_19, sX12_often_22, sX12_often_23, sX12_often_24, sX12_often_25, sX12_often_26, sX12_often_29, sX12_often_30, sX12_often_33, sX12_often_34, sX12_often_35, sX12_often_36, sX12_often_40, sX12_often_41, sX12_often_44, sX12_often_47, sX12_often_48, sX12_often_49, sX12_often_52, sX12_often_54, sX12_often_55, sX12_often_56, sX12_often_57, sX12_often_60, kX12_often_63_AIJNI, sX12_often_63, sX12_often_64, sX12_often_67, sX12_often_68, sX12_often_71, sX12_often_72, sX12_often_73, sX12_often_74, sX12_often_77, sa_432, sb_432, evK_n, evK_v, evK_x, gI_pI, gJ_pI, gR_pI, gI_pJ, gJ_pJ, gR_pJ, gI_pR, gJ_pR, gR_pR, if_true, if_false, not_true_eq_false, not_false_eq_true, and_true, true_and, and_false, false_and, and_self, or_true, true_or, or_false, false_or, or_self, ne_eq, Decidable.not_not, Nat.reduceEqDiff, Nat.reduceEqDiff, n32_le, n32_lt, n32_add, n32_mul, n32_cl, m_may1 t0_0, show ¬ (Int32.ofNat 1 = 0) by decide, z32, m_wt h1, m_pt1 t0_0 h1, h19, w64]
    · obtain ⟨t1, t2, f1, f2, y1, y2, y3, hM2, y4⟩ := mq_all (g := g) (d := d + 29) hM0 hw
      have f3 := m_often (g := g) (d := d) hM2.1 hM2.2.2.1 hw (pa := Int32.ofNat wh) y4 (wn w) 0 (by omega)
      have ml := m_least (g := g) (d := d + 34) (t := t2) (a := sumN (trF w) (wn w)) (b := wn w * 1099511627776) (wh := wh) hbb hbb2 (Nat.gcd_pos_of_pos_right _ (by omega)) (by omega)
      have hsh : shr (sumN (trF w) (wn w)) (wn w * 1099511627776) wh = (if wh = 0 then sumN (trF w) (wn w) else wn w * 1099511627776) / Nat.gcd (sumN (trF w) (wn w)) (wn w * 1099511627776) := by
        unfold shr
        rw [if_neg (by omega)]
      rw [← hsh] at ml
      have h19 := hM0.2.2.1.2.2.2.1.1
      have h19b := hM2.2.2.1.2.2.2.1.1
      have c0' : ¬ Int32.ofNat (wn w) = 0 := by rw [n32_eq0 (by omega)]; exact c0
      refine opk_fine (x := Int64.ofNat (shr (sumN (trF w) (wn w)) (wn w * 1099511627776) wh)) (b := .long (Int64.ofNat (shr (sumN (trF w) (wn w)) (wn w * 1099511627776) wh))) (hl_often_v hcls) ?_ rfl ((go_0 y1).trans t0_0) (hC.q hG q1) hM2 hG hw (by omega) q1.clk (t0_mlk.tr (go_mlk y1))
      have e0 : ev g (d + 35) mX12_often 0 [some (.ref (432 : Nat)), some (.int (Int32.ofNat wh)), none, none, none] [] t = ev g (d + 35) mX12_often 38 [some (.ref (432 : Nat)), some (.int (Int32.ofNat wh)), some (.long (Int64.ofNat (sumN (trF w) 0))), none, some (.int (Int32.ofNat 0))] [] t2 := by
        simp (disch := first | exact jm_lt0 | (apply jm_ltx; (repeat (first | exact jw_0 | apply jw_i | apply jw_r | apply jw_l)); omega) | omega | assumption | exact sa_432 | exact n32_inA sb_432 (by omega) (by omega) | (refine n32_inA (by assumption) ?_ ?_ <;> omega) | exact bi01 | (rw [sa_432]; omega) | decide) only [sX12_often_0, sX12_often_1, sX12_often_2, sX12_often_5, sX12_often_6, sX12_often_7, sX12_often_10, sX12_often_13, sX12_often_14, sX12_often_15, sX12_often_16, sX12_often_19, sX12_often_22, sX12_often_23, sX12_often_24, sX12_often_25, sX12_often_26, sX12_often_29, sX12_often_30, sX12_often_33, sX12_often_34, sX12_often_35, sX12_often_36, sX12_often_40, sX12_often_41, sX12_often_44, sX12_often_47, sX12_often_48, sX12_often_49, sX12_often_52, sX12_often_54, sX12_often_55, sX12_often_56, sX12_often_57, sX12_often_60, kX12_often_63_AIJNI, sX12_often_64, sX12_often_67, sX12_often_68, sX12_often_71, sX12_often_72, sX12_often_73, sX12_often_74, sX12_often_77, sa_432, sb_432, evK_n, evK_v, evK_x, gI_pI, gJ_pI, gR_pI, gI_pJ, gJ_pJ, gR_pJ, gI_pR, gJ_pR, gR_pR, if_true, if_false, not_true_eq_false, not_false_eq_true, and_true, true_and, and_false, false_and, and_self, or_true, true_or, or_false, false_or, or_self, ne_eq, Decidable.not_not, Nat.reduceEqDiff, Nat.reduceEqDiff, n32_le, n32_lt, n32_add, n32_mul, n32_cl, m_may1 t0_0, show ¬ (Int32.ofNat 1 = 0) by decide, z32, m_wt h1, m_pt1 t0_0 h1, h19, c0', f1, f2]
        rfl
      rw [e0, f3]
      simp (disch := first | exact jm_lt0 | (apply jm_ltx; (repeat (first | exact jw_0 | apply jw_i | apply jw_r | apply jw_l)); omega) | omega | assumption | exact sa_432 | exact n32_inA sb_432 (by omega) (by omega) | (refine n32_inA (by assumption) ?_ ?_ <;> omega) | exact bi01 | (rw [sa_432]; omega) | decide) only [sX12_often_0, sX12_often_1, sX12_often_2, sX12_often_5, sX12_often_6, sX12_often_7, sX12_often_10, sX12_often_13, sX12_often_14, sX12_often_15, sX12_often_16, sX12_often_19, sX12_often_22, sX12_often_23, sX12_often_24, sX12_often_25, sX12_often_26, sX12_often_29, sX12_often_30, sX12_often_33, sX12_often_34, sX12_often_35, sX12_often_36, sX12_often_40, sX12_often_41, sX12_often_44, sX12_often_47, sX12_often_48, sX12_often_49, sX12_often_52, sX12_often_54, sX12_often_55, sX12_often_56, sX12_often_57, sX12_often_60, kX12_often_63_AIJNI, sX12_often_63, sX12_often_64, sX12_often_67, sX12_often_68, sX12_often_71, sX12_often_72, sX12_often_73, sX12_often_74, sX12_often_77, evK_n, evK_v, evK_x, gI_pI, gJ_pI, gR_pI, gI_pJ, gJ_pJ, gR_pJ, gI_pR, gJ_pR, gR_pR, if_true, if_false, not_true_eq_false, not_false_eq_true, and_true, true_and, and_false, false_and, and_self, or_true, true_or, or_false, false_or, or_self, ne_eq, Decidable.not_not, Nat.reduceEqDiff, Nat.reduceEqDiff, n32_le, n32_lt, n32_add, n32_mul, n32_cl, sa_432, sb_432, h19b, h64, hmul2, ml]
  · refine opk_na (k := 1) (by decide) (hl_often_a ?_) (b := .long (Int64.ofNat 0)) ?_ (by decide) hC hM hG hw hv
    · simp (disch := first | exact jm_lt0 | (apply jm_ltx; (repeat (first | exact jw_0 | apply jw_i | apply jw_r | apply jw_l)); omega) | omega | assumption | exact sa_0 | exact n32_inA sb_0 (by omega) (by omega) | (refine n32_inA (by assumption) ?_ ?_ <;> omega) | exact bi01 | (rw [sa_0]; omega) | decide) only [sX11_often_0, sX11_often_1, sX11_often_2, sX11_often_5, sX11_often_8, sX11_often_9, sX11_often_12, sX11_often_15, sX11_often_16, sX11_often_17, sX11_often_18, sX11_often_19, sX11_often_23, sX11_often_24, sX11_often_27, sX11_often_28, sX11_often_29, sX11_often_32, sX11_often_33, sX11_often_36, sX11_often_38, sX11_often_39, sX11_often_42, sX11_often_43, sX11_often_44, sX11_often_47, kX11_often_50_AIIJNI, sX11_often_50, sX11_often_51, sX11_often_52, sX11_often_53, sX11_often_56, sX11_often_57, sX11_often_58, sX11_often_61, evK_n, evK_v, evK_x, gI_pI, gJ_pI, gR_pI, gI_pJ, gJ_pJ, gR_pJ, gI_pR, gJ_pR, gR_pR, if_true, if_false, not_true_eq_false, not_false_eq_true, and_true, true_and, and_false, false_and, and_self, or_true, true_or, or_false, false_or, or_self, ne_eq, Decidable.not_not, Nat.reduceEqDiff, Nat.reduceEqDiff, n32_le, n32_lt, n32_add, n32_mul, n32_cl, sa_0, sb_0, c11_pf h1, c11_need1, c11_need0, z32, show ¬ (Int32.ofNat 1 = 0) by decide]
    · simp (disch := first | exact jm_lt0 | (apply jm_ltx; (repeat (first | exact jw_0 | apply jw_i | apply jw_r | apply jw_l)); omega) | omega | assumption | exact sa_432 | exact n32_inA sb_432 (by omega) (by omega) | (refine n32_inA (by assumption) ?_ ?_ <;> omega) | exact bi01 | (rw [sa_432]; omega) | decide) only [sX12_often_0, sX12_often_1, sX12_often_2, sX12_often_5, sX12_often_6, sX12_often_7, sX12_often_10, sX12_often_13, sX12_often_14, sX12_often_15, sX12_often_16, sX12_often_19, sX12_often_22, sX12_often_23, sX12_often_24, sX12_often_25, sX12_often_26, sX12_often_29, sX12_often_30, sX12_often_33, sX12_often_34, sX12_often_35, sX12_often_36, sX12_often_40, sX12_often_41, sX12_often_44, sX12_often_47, sX12_often_48, sX12_often_49, sX12_often_52, sX12_often_54, sX12_often_55, sX12_often_56, sX12_often_57, sX12_often_60, kX12_often_63_AIJNI, sX12_often_63, sX12_often_64, sX12_often_67, sX12_often_68, sX12_often_71, sX12_often_72, sX12_often_73, sX12_often_74, sX12_often_77, evK_n, evK_v, evK_x, gI_pI, gJ_pI, gR_pI, gI_pJ, gJ_pJ, gR_pJ, gI_pR, gJ_pR, gR_pR, if_true, if_false, not_true_eq_false, not_false_eq_true, and_true, true_and, and_false, false_and, and_self, or_true, true_or, or_false, false_or, or_self, ne_eq, Decidable.not_not, Nat.reduceEqDiff, Nat.reduceEqDiff, n32_le, n32_lt, n32_add, n32_mul, n32_cl, sa_432, sb_432, m_wf h1, m_pt0 hFt t0_0 h1, m_may1 t0_0, m_may0 hFt (show 1 < 2 by decide) (show ¬ Int32.ofNat 1 = 0 by decide) t0_0, z32, show ¬ (Int32.ofNat 1 = 0) by decide]
end AZ1
