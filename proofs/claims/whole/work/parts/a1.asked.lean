/-! the class: what is asked of the ledger -/
def LI (s : fm_S) (w : WD) (ver : Nat) : Prop := FX s ∧ OB s ∧ CW s w ∧ wOK w ∧ LG s w ver
def LQ (s s' : fm_S) (w : WD) (ver : Nat) : Prop := RM p9 q9 r9 s s' ∧ LI s' w ver
theorem LI.q {s s' : fm_S} {w : WD} {ver : Nat} (h : LI s w ver) (x : RM p9 q9 r9 s s') (hB : OB s') (hL : LG s' w ver) : LQ s s' w ver := ⟨x, x.fx9 h.1, hB, h.2.2.1.of h.2.2.2.1 (fun b j hb => x.2.1 b j (fun q => hb (p9_TC q))), h.2.2.2.1, hL⟩
theorem LQ.tr {a b c : fm_S} {w : WD} {ver : Nat} (x : LQ a b w ver) (y : LQ b c w ver) : LQ a c w ver := ⟨x.1.tr y.1, y.2⟩
theorem LQ.rf {s : fm_S} {w : WD} {ver : Nat} (h : LI s w ver) : LQ s s w ver := ⟨RM.rf, h⟩
def o00 (w : WD) : OPT := opt w 0 0
section LA
variable {g : fm_g} {d ver : Nat} {w : WD} {s : fm_S}
theorem li_reckon (h : LI s w ver) {ch de : Nat} (hc : cOK ch de) : ∃ s', ev g (d + 5) mX6_reckon 0 [some (.ref (306 : Nat)), some (.ref (3 : Nat)), some (.int (Int32.ofNat ch)), some (.int (Int32.ofNat de)), none, none, none] [] s = some (.inl (some (.int (Int32.ofNat (ch * 36 + de)))), s') ∧ LQ s s' w ver ∧ gI s' 322 (ch * 36 + de) = Int32.ofNat ver := by
  obtain ⟨s', f1, f2, f3, f4, f5⟩ := c6_reckon (g := g) (d := d) h.1 h.2.1 h.2.2.1 h.2.2.2.1 h.2.2.2.2 hc
  exact ⟨s', f1, h.q f2 f3 f4, f5⟩
theorem li_given (h : LI s w ver) : ∃ s', ev g (d + 5) mX6_reckonGiven 0 [some (.ref (306 : Nat)), some (.ref (3 : Nat)), none, none] [] s = some (.inl none, s') ∧ LQ s s' w ver ∧ GVx s' w := by
  obtain ⟨s', f1, f2, f3, f4, f5⟩ := c6_given (g := g) (d := d) h.1 h.2.1 h.2.2.1 h.2.2.2.1 h.2.2.2.2
  exact ⟨s', f1, h.q f2 f3 f4, f4.2.2.2.2.2.2 f5⟩
theorem li_0 (h : LI s w ver) : ∃ s', ev g (d + 5) mX6_reckon 0 [some (.ref (306 : Nat)), some (.ref (3 : Nat)), some (.int (Int32.ofNat 0)), some (.int (Int32.ofNat 0)), none, none, none] [] s = some (.inl (some (.int (Int32.ofNat 0))), s') ∧ LQ s s' w ver ∧ ASx s' w := by
  obtain ⟨s', f1, f2, f3⟩ := li_reckon (g := g) (d := d) h (ch := 0) (de := 0) (by unfold cOK; omega)
  exact ⟨s', f1, f2, f2.2.2.2.2.2.2.2.2.2.2.1 f3⟩
theorem c6_isVisit {v : Nat} (hv : v < 24) : ev g d mX6_isVisit 0 [some (.int (Int32.ofNat v))] [] s = some (.inl (some (.int (Int32.ofNat 1))), s) := by
  have n1 : ¬ 24 ≤ v := by omega
  simp (disch := first | exact jm_lt0 | (apply jm_ltx; (repeat (first | exact jw_0 | apply jw_i | apply jw_r | apply jw_l)); omega) | omega | assumption | (refine n32_inA (by assumption) ?_ ?_ <;> omega) | exact bi01 | decide) only [sX6_isVisit_0, sX6_isVisit_1, sX6_isVisit_4, sX6_isVisit_5, sX6_isVisit_7, sX6_isVisit_10, sX6_isVisit_11, kX6_isVisit_14_I, sX6_isVisit_14, kX6_isVisit_15_I, sX6_isVisit_15, n32_le, n32_lt, n32_add, n32_mul, n32_cl, if_true, if_false, not_true_eq_false, not_false_eq_true, and_true, true_and, and_false, false_and, and_self, or_true, true_or, or_false, false_or, or_self, ne_eq, Decidable.not_not, Nat.reduceEqDiff, Nat.reduceEqDiff, n32_lt0, n1]
theorem c6_endBy (h : LI s w ver) {ch de : Nat} (hc : cOK ch de) : ∃ s', ev g (d + 6) mX6_endBy 0 [some (.ref (306 : Nat)), some (.ref (3 : Nat)), some (.int (Int32.ofNat ch)), some (.int (Int32.ofNat de)), none] [] s = some (.inl (some (.long (Int64.ofNat (endS w (opt w ch de))))), s') ∧ LQ s s' w ver := by
  obtain ⟨s', f1, f2, f3⟩ := li_reckon (g := g) (d := d) h hc
  have hcd : ch < 7 ∧ de < 36 := by unfold cOK at hc; omega
  obtain ⟨e1, e2⟩ := f2.2.2.2.2.2.2.2.2.2.1 ch de hc f3
  have r3 := f2.2.1.u 306 3 323 (by decide +kernel)
  have n1 : ¬ 252 ≤ ch * 36 + de := by omega
  refine ⟨s', ?_, f2⟩
  simp (disch := first | exact jm_lt0 | (apply jm_ltx; (repeat (first | exact jw_0 | apply jw_i | apply jw_r | apply jw_l)); omega) | omega | assumption | exact sa_306 | exact sa_323 | exact n32_inA sb_306 (by omega) (by omega) | exact n32_inA sb_323 (by omega) (by omega) | (refine n32_inA (by assumption) ?_ ?_ <;> omega) | exact bi01 | (rw [sa_306]; omega) | (rw [sa_323]; omega) | decide) only [sX6_endBy_0, sX6_endBy_1, sX6_endBy_2, sX6_endBy_3, sX6_endBy_4, sX6_endBy_7, sX6_endBy_9, sX6_endBy_11, sX6_endBy_14, sX6_endBy_16, sX6_endBy_19, sX6_endBy_22, sX6_endBy_23, sX6_endBy_26, sX6_endBy_28, sX6_endBy_29, kX6_endBy_32_AAIII, sX6_endBy_32, kX6_endBy_33_AAIII, sX6_endBy_33, evK_n, evK_v, evK_x, gI_pI, gJ_pI, gR_pI, gI_pJ, gJ_pJ, gR_pJ, gI_pR, gJ_pR, gR_pR, n32_le, n32_lt, n32_add, n32_mul, n32_cl, if_true, if_false, not_true_eq_false, not_false_eq_true, and_true, true_and, and_false, false_and, and_self, or_true, true_or, or_false, false_or, or_self, ne_eq, Decidable.not_not, Nat.reduceEqDiff, Nat.reduceEqDiff, sa_306, sb_306, sa_323, sb_323, f1, n32_lt0, n1, r3, e1]
theorem c6_costBy (h : LI s w ver) {ch de : Nat} (hc : cOK ch de) : ∃ s', ev g (d + 6) mX6_costBy 0 [some (.ref (306 : Nat)), some (.ref (3 : Nat)), some (.int (Int32.ofNat ch)), some (.int (Int32.ofNat de)), none] [] s = some (.inl (some (.long (Int64.ofNat (costS w (opt w ch de))))), s') ∧ LQ s s' w ver := by
  obtain ⟨s', f1, f2, f3⟩ := li_reckon (g := g) (d := d) h hc
  have hcd : ch < 7 ∧ de < 36 := by unfold cOK at hc; omega
  obtain ⟨e1, e2⟩ := f2.2.2.2.2.2.2.2.2.2.1 ch de hc f3
  have r4 := f2.2.1.u 306 4 324 (by decide +kernel)
  have n1 : ¬ 252 ≤ ch * 36 + de := by omega
  refine ⟨s', ?_, f2⟩
  simp (disch := first | exact jm_lt0 | (apply jm_ltx; (repeat (first | exact jw_0 | apply jw_i | apply jw_r | apply jw_l)); omega) | omega | assumption | exact sa_306 | exact sa_324 | exact n32_inA sb_306 (by omega) (by omega) | exact n32_inA sb_324 (by omega) (by omega) | (refine n32_inA (by assumption) ?_ ?_ <;> omega) | exact bi01 | (rw [sa_306]; omega) | (rw [sa_324]; omega) | decide) only [sX6_costBy_0, sX6_costBy_1, sX6_costBy_2, sX6_costBy_3, sX6_costBy_4, sX6_costBy_7, sX6_costBy_9, sX6_costBy_11, sX6_costBy_14, sX6_costBy_16, sX6_costBy_19, sX6_costBy_22, sX6_costBy_23, sX6_costBy_26, sX6_costBy_28, sX6_costBy_29, kX6_costBy_32_AAIII, sX6_costBy_32, kX6_costBy_33_AAIII, sX6_costBy_33, evK_n, evK_v, evK_x, gI_pI, gJ_pI, gR_pI, gI_pJ, gJ_pJ, gR_pJ, gI_pR, gJ_pR, gR_pR, n32_le, n32_lt, n32_add, n32_mul, n32_cl, if_true, if_false, not_true_eq_false, not_false_eq_true, and_true, true_and, and_false, false_and, and_self, or_true, true_or, or_false, false_or, or_self, ne_eq, Decidable.not_not, Nat.reduceEqDiff, Nat.reduceEqDiff, sa_306, sb_306, sa_324, sb_324, f1, n32_lt0, n1, r4, e2]
theorem c6_states (h : LI s w ver) {v : Nat} (hv : v < wn w) : ∃ s', ev g (d + 6) mX6_statesBehind 0 [some (.ref (306 : Nat)), some (.ref (3 : Nat)), some (.int (Int32.ofNat v))] [] s = some (.inl (some (.int (Int32.ofNat (cntS (zGo w (o00 w) (v + 1)).1)))), s') ∧ LQ s s' w ver := by
  have hn : wn w ≤ 24 := h.2.2.2.1.2.2.1
  obtain ⟨s', f1, f2, f3⟩ := li_0 (g := g) (d := d) h
  have e1 := (f3.1 v hv).2.2
  have r7 := f2.2.1.u 306 7 375 (by decide +kernel)
  have k1 := c6_isVisit (g := g) (d := d + 5) (s := s') (show v < 24 by omega)
  refine ⟨s', ?_, f2⟩
  simp (disch := first | exact jm_lt0 | (apply jm_ltx; (repeat (first | exact jw_0 | apply jw_i | apply jw_r | apply jw_l)); omega) | omega | assumption | exact sa_306 | exact sa_375 | exact n32_inA sb_306 (by omega) (by omega) | exact n32_inA sb_375 (by omega) (by omega) | (refine n32_inA (by assumption) ?_ ?_ <;> omega) | exact bi01 | (rw [sa_306]; omega) | (rw [sa_375]; omega) | decide) only [sX6_statesBehind_0, sX6_statesBehind_1, sX6_statesBehind_2, sX6_statesBehind_3, sX6_statesBehind_4, sX6_statesBehind_7, sX6_statesBehind_8, sX6_statesBehind_9, sX6_statesBehind_12, sX6_statesBehind_15, sX6_statesBehind_16, sX6_statesBehind_19, sX6_statesBehind_20, sX6_statesBehind_21, kX6_statesBehind_24_AAI, sX6_statesBehind_24, kX6_statesBehind_25_AAI, sX6_statesBehind_25, evK_n, evK_v, evK_x, gI_pI, gJ_pI, gR_pI, gI_pJ, gJ_pJ, gR_pJ, gI_pR, gJ_pR, gR_pR, n32_le, n32_lt, n32_add, n32_mul, n32_cl, if_true, if_false, not_true_eq_false, not_false_eq_true, and_true, true_and, and_false, false_and, and_self, or_true, true_or, or_false, false_or, or_self, ne_eq, Decidable.not_not, Nat.reduceEqDiff, Nat.reduceEqDiff, sa_306, sb_306, sa_375, sb_375, f1, k1, show ¬ (Int32.ofNat 1 = 0) by decide, r7, e1]
  rfl
theorem c6_fact (h : LI s w ver) {v x : Nat} (hv : v < wn w) (hx : x < 6) : ∃ s', ev g (d + 6) mX6_factBehind 0 [some (.ref (306 : Nat)), some (.ref (3 : Nat)), some (.int (Int32.ofNat v)), some (.int (Int32.ofNat x))] [] s = some (.inl (some (.long (Int64.ofNat (fctS w v x (zGo w (o00 w) (v + 1)).1)))), s') ∧ LQ s s' w ver := by
  have hn : wn w ≤ 24 := h.2.2.2.1.2.2.1
  obtain ⟨s', f1, f2, f3⟩ := li_0 (g := g) (d := d) h
  have e1 := (f3.1 v hv).1 x hx
  have r5 := f2.2.1.u 306 5 325 (by decide +kernel)
  have k1 := c6_isVisit (g := g) (d := d + 5) (s := s') (show v < 24 by omega)
  obtain ⟨q1, -⟩ := rows_a v (by omega)
  obtain ⟨q5, q6, -⟩ := rows_c v (by omega)
  have rv : gR s' 325 v = 326 + v := f2.2.1 _ q1
  have rn : gR s' 325 (Int32.ofNat v).toNatClampNeg ≠ 0 := by rw [n32_cl (by omega), rv]; omega
  have n1 : ¬ 6 ≤ x := by omega
  refine ⟨s', ?_, f2⟩
  simp (disch := first | exact jm_lt0 | (apply jm_ltx; (repeat (first | exact jw_0 | apply jw_i | apply jw_r | apply jw_l)); omega) | omega | assumption | exact sa_306 | exact sa_325 | exact n32_inA sb_306 (by omega) (by omega) | exact n32_inA sb_325 (by omega) (by omega) | (refine n32_inA (by assumption) ?_ ?_ <;> omega) | exact bi01 | (rw [sa_306]; omega) | (rw [sa_325]; omega) | decide) only [sX6_factBehind_0, sX6_factBehind_1, sX6_factBehind_2, sX6_factBehind_3, sX6_factBehind_4, sX6_factBehind_7, sX6_factBehind_8, sX6_factBehind_9, sX6_factBehind_12, sX6_factBehind_15, sX6_factBehind_16, sX6_factBehind_19, sX6_factBehind_20, sX6_factBehind_22, sX6_factBehind_25, sX6_factBehind_26, sX6_factBehind_29, sX6_factBehind_30, sX6_factBehind_31, sX6_factBehind_32, sX6_factBehind_33, kX6_factBehind_36_AAII, sX6_factBehind_36, kX6_factBehind_37_AAII, sX6_factBehind_37, evK_n, evK_v, evK_x, gI_pI, gJ_pI, gR_pI, gI_pJ, gJ_pJ, gR_pJ, gI_pR, gJ_pR, gR_pR, n32_le, n32_lt, n32_add, n32_mul, n32_cl, if_true, if_false, not_true_eq_false, not_false_eq_true, and_true, true_and, and_false, false_and, and_self, or_true, true_or, or_false, false_or, or_self, ne_eq, Decidable.not_not, Nat.reduceEqDiff, Nat.reduceEqDiff, sa_306, sb_306, sa_325, sb_325, f1, k1, show ¬ (Int32.ofNat 1 = 0) by decide, n32_lt0, n1, r5, rv, q5, q6, e1]
  rfl
theorem c6_parts (h : LI s w ver) {v c di ca : Nat} (hv : v < wn w) (hcd : c + di ≤ 12) (hca : ca < 2) : ∃ s', ev g (d + 6) mX6_partsBehind 0 [some (.ref (306 : Nat)), some (.ref (3 : Nat)), some (.int (Int32.ofNat v)), some (.int (Int32.ofNat c)), some (.int (Int32.ofNat di)), some (.int (Int32.ofNat ca)), none] [] s = some (.inl (some (.long (Int64.ofNat (behS (zGo w (o00 w) (v + 1)).1 (pno c di * 2 + ca))))), s') ∧ LQ s s' w ver := by
  have hn : wn w ≤ 24 := h.2.2.2.1.2.2.1
  have hp := (pno_ok hcd).1
  obtain ⟨s', f1, f2, f3⟩ := li_0 (g := g) (d := d) h
  have e1 := (f3.1 v hv).2.1 (pno c di * 2 + ca) (by omega)
  have r6 := f2.2.1.u 306 6 350 (by decide +kernel)
  have k1 := c6_isVisit (g := g) (d := d + 5) (s := s') (show v < 24 by omega)
  have k2 := c1_pairOf (g := g) (d := d + 5) (s := s') hcd
  obtain ⟨-, q2⟩ := rows_a v (by omega)
  obtain ⟨-, -, q7, q8⟩ := rows_c v (by omega)
  have rv : gR s' 350 v = 351 + v := f2.2.1 _ q2
  have rn : gR s' 350 (Int32.ofNat v).toNatClampNeg ≠ 0 := by rw [n32_cl (by omega), rv]; omega
  have n1 : ¬ 182 ≤ pno c di * 2 + ca := by omega
  refine ⟨s', ?_, f2⟩
  simp (disch := first | exact jm_lt0 | (apply jm_ltx; (repeat (first | exact jw_0 | apply jw_i | apply jw_r | apply jw_l)); omega) | omega | assumption | exact sa_306 | exact sa_350 | exact n32_inA sb_306 (by omega) (by omega) | exact n32_inA sb_350 (by omega) (by omega) | (refine n32_inA (by assumption) ?_ ?_ <;> omega) | exact bi01 | (rw [sa_306]; omega) | (rw [sa_350]; omega) | decide) only [sX6_partsBehind_0, sX6_partsBehind_1, sX6_partsBehind_2, sX6_partsBehind_3, sX6_partsBehind_4, sX6_partsBehind_7, sX6_partsBehind_8, sX6_partsBehind_9, sX6_partsBehind_11, sX6_partsBehind_14, sX6_partsBehind_15, sX6_partsBehind_16, sX6_partsBehind_18, sX6_partsBehind_19, sX6_partsBehind_21, sX6_partsBehind_22, sX6_partsBehind_25, sX6_partsBehind_28, sX6_partsBehind_30, sX6_partsBehind_33, sX6_partsBehind_35, sX6_partsBehind_38, sX6_partsBehind_41, sX6_partsBehind_42, sX6_partsBehind_45, sX6_partsBehind_46, sX6_partsBehind_47, sX6_partsBehind_49, sX6_partsBehind_50, kX6_partsBehind_53_AAIIIII, sX6_partsBehind_53, kX6_partsBehind_54_AAIIIII, sX6_partsBehind_54, evK_n, evK_v, evK_x, gI_pI, gJ_pI, gR_pI, gI_pJ, gJ_pJ, gR_pJ, gI_pR, gJ_pR, gR_pR, n32_le, n32_lt, n32_add, n32_mul, n32_cl, if_true, if_false, not_true_eq_false, not_false_eq_true, and_true, true_and, and_false, false_and, and_self, or_true, true_or, or_false, false_or, or_self, ne_eq, Decidable.not_not, Nat.reduceEqDiff, Nat.reduceEqDiff, sa_306, sb_306, sa_350, sb_350, f1, k1, k2, show ¬ (Int32.ofNat 1 = 0) by decide, n32_lt0, n1, r6, rv, q7, q8, e1]
  rfl
theorem c6_drunkBy (h : LI s w ver) {p : Nat} (hp : p < 6) : ∃ s', ev g (d + 6) mX6_drunkBy 0 [some (.ref (306 : Nat)), some (.ref (3 : Nat)), some (.int (Int32.ofNat p))] [] s = some (.inl (some (.long (Int64.ofNat ((zGo w (o00 w) (wn w)).2.1 p)))), s') ∧ LQ s s' w ver := by
  obtain ⟨s', f1, f2, f3⟩ := li_0 (g := g) (d := d) h
  have e1 := f3.2.1 p hp
  have r8 := f2.2.1.u 306 8 376 (by decide +kernel)
  have n1 : ¬ 6 ≤ p := by omega
  refine ⟨s', ?_, f2⟩
  simp (disch := first | exact jm_lt0 | (apply jm_ltx; (repeat (first | exact jw_0 | apply jw_i | apply jw_r | apply jw_l)); omega) | omega | assumption | exact sa_306 | exact sa_376 | exact n32_inA sb_306 (by omega) (by omega) | exact n32_inA sb_376 (by omega) (by omega) | (refine n32_inA (by assumption) ?_ ?_ <;> omega) | exact bi01 | (rw [sa_306]; omega) | (rw [sa_376]; omega) | decide) only [sX6_drunkBy_0, sX6_drunkBy_1, sX6_drunkBy_2, sX6_drunkBy_3, sX6_drunkBy_4, sX6_drunkBy_7, sX6_drunkBy_8, sX6_drunkBy_9, sX6_drunkBy_12, sX6_drunkBy_13, sX6_drunkBy_15, sX6_drunkBy_18, sX6_drunkBy_19, sX6_drunkBy_22, sX6_drunkBy_23, sX6_drunkBy_24, kX6_drunkBy_27_AAI, sX6_drunkBy_27, kX6_drunkBy_28_AAI, sX6_drunkBy_28, evK_n, evK_v, evK_x, gI_pI, gJ_pI, gR_pI, gI_pJ, gJ_pJ, gR_pJ, gI_pR, gJ_pR, gR_pR, n32_le, n32_lt, n32_add, n32_mul, n32_cl, if_true, if_false, not_true_eq_false, not_false_eq_true, and_true, true_and, and_false, false_and, and_self, or_true, true_or, or_false, false_or, or_self, ne_eq, Decidable.not_not, Nat.reduceEqDiff, Nat.reduceEqDiff, sa_306, sb_306, sa_376, sb_376, f1, n32_lt0, n1, hp, r8, e1]
  rfl
theorem c6_washed (h : LI s w ver) : ∃ s', ev g (d + 6) mX6_washedAgain 0 [some (.ref (306 : Nat)), some (.ref (3 : Nat))] [] s = some (.inl (some (.long (Int64.ofNat (zGo w (o00 w) (wn w)).2.2.1))), s') ∧ LQ s s' w ver := by
  obtain ⟨s', f1, f2, f3⟩ := li_0 (g := g) (d := d) h
  have e1 := f3.2.2.1
  refine ⟨s', ?_, f2⟩
  simp (disch := first | exact jm_lt0 | (apply jm_ltx; (repeat (first | exact jw_0 | apply jw_i | apply jw_r | apply jw_l)); omega) | omega | assumption | exact sa_306 | exact n32_inA sb_306 (by omega) (by omega) | (refine n32_inA (by assumption) ?_ ?_ <;> omega) | exact bi01 | (rw [sa_306]; omega) | decide) only [sX6_washedAgain_0, sX6_washedAgain_1, sX6_washedAgain_2, sX6_washedAgain_3, sX6_washedAgain_4, sX6_washedAgain_7, sX6_washedAgain_8, sX6_washedAgain_9, sX6_washedAgain_12, evK_n, evK_v, evK_x, gI_pI, gJ_pI, gR_pI, gI_pJ, gJ_pJ, gR_pJ, gI_pR, gJ_pR, gR_pR, n32_le, n32_lt, n32_add, n32_mul, n32_cl, if_true, if_false, not_true_eq_false, not_false_eq_true, and_true, true_and, and_false, false_and, and_self, or_true, true_or, or_false, false_or, or_self, ne_eq, Decidable.not_not, Nat.reduceEqDiff, Nat.reduceEqDiff, sa_306, sb_306, f1, e1]
  rfl
theorem c6_looks (h : LI s w ver) : ∃ s', ev g (d + 6) mX6_looksTaken 0 [some (.ref (306 : Nat)), some (.ref (3 : Nat))] [] s = some (.inl (some (.long (Int64.ofNat (zGo w (o00 w) (wn w)).2.2.2))), s') ∧ LQ s s' w ver := by
  obtain ⟨s', f1, f2, f3⟩ := li_0 (g := g) (d := d) h
  have e1 := f3.2.2.2
  refine ⟨s', ?_, f2⟩
  simp (disch := first | exact jm_lt0 | (apply jm_ltx; (repeat (first | exact jw_0 | apply jw_i | apply jw_r | apply jw_l)); omega) | omega | assumption | exact sa_306 | exact n32_inA sb_306 (by omega) (by omega) | (refine n32_inA (by assumption) ?_ ?_ <;> omega) | exact bi01 | (rw [sa_306]; omega) | decide) only [sX6_looksTaken_0, sX6_looksTaken_1, sX6_looksTaken_2, sX6_looksTaken_3, sX6_looksTaken_4, sX6_looksTaken_7, sX6_looksTaken_8, sX6_looksTaken_9, sX6_looksTaken_12, evK_n, evK_v, evK_x, gI_pI, gJ_pI, gR_pI, gI_pJ, gJ_pJ, gR_pJ, gI_pR, gJ_pR, gR_pR, n32_le, n32_lt, n32_add, n32_mul, n32_cl, if_true, if_false, not_true_eq_false, not_false_eq_true, and_true, true_and, and_false, false_and, and_self, or_true, true_or, or_false, false_or, or_self, ne_eq, Decidable.not_not, Nat.reduceEqDiff, Nat.reduceEqDiff, sa_306, sb_306, f1, e1]
  rfl
theorem c6_gFact (h : LI s w ver) {v x : Nat} (hv : v < wn w) (hx : x < 6) : ∃ s', ev g (d + 6) mX6_factGiven 0 [some (.ref (306 : Nat)), some (.ref (3 : Nat)), some (.int (Int32.ofNat v)), some (.int (Int32.ofNat x))] [] s = some (.inl (some (.long (Int64.ofNat (fctS w v x (gDs w v))))), s') ∧ LQ s s' w ver := by
  have hn : wn w ≤ 24 := h.2.2.2.1.2.2.1
  obtain ⟨s', f1, f2, f3⟩ := li_given (g := g) (d := d) h
  have e1 := (f3.1 v hv).2.1 x hx
  have rc := f2.2.1.u 306 12 377 (by decide +kernel)
  have k1 := c6_isVisit (g := g) (d := d + 5) (s := s') (show v < 24 by omega)
  obtain ⟨q1, -⟩ := rows_b v (by omega)
  obtain ⟨q5, q6, -⟩ := rows_d v (by omega)
  have rv : gR s' 377 v = 378 + v := f2.2.1 _ q1
  have rn : gR s' 377 (Int32.ofNat v).toNatClampNeg ≠ 0 := by rw [n32_cl (by omega), rv]; omega
  have n1 : ¬ 6 ≤ x := by omega
  refine ⟨s', ?_, f2⟩
  simp (disch := first | exact jm_lt0 | (apply jm_ltx; (repeat (first | exact jw_0 | apply jw_i | apply jw_r | apply jw_l)); omega) | omega | assumption | exact sa_306 | exact sa_377 | exact n32_inA sb_306 (by omega) (by omega) | exact n32_inA sb_377 (by omega) (by omega) | (refine n32_inA (by assumption) ?_ ?_ <;> omega) | exact bi01 | (rw [sa_306]; omega) | (rw [sa_377]; omega) | decide) only [sX6_factGiven_0, sX6_factGiven_1, sX6_factGiven_2, sX6_factGiven_5, sX6_factGiven_6, sX6_factGiven_9, sX6_factGiven_12, sX6_factGiven_13, sX6_factGiven_16, sX6_factGiven_17, sX6_factGiven_19, sX6_factGiven_22, sX6_factGiven_23, sX6_factGiven_26, sX6_factGiven_27, sX6_factGiven_28, sX6_factGiven_29, sX6_factGiven_30, kX6_factGiven_33_AAII, sX6_factGiven_33, kX6_factGiven_34_AAII, sX6_factGiven_34, evK_n, evK_v, evK_x, gI_pI, gJ_pI, gR_pI, gI_pJ, gJ_pJ, gR_pJ, gI_pR, gJ_pR, gR_pR, n32_le, n32_lt, n32_add, n32_mul, n32_cl, if_true, if_false, not_true_eq_false, not_false_eq_true, and_true, true_and, and_false, false_and, and_self, or_true, true_or, or_false, false_or, or_self, ne_eq, Decidable.not_not, Nat.reduceEqDiff, Nat.reduceEqDiff, sa_306, sb_306, sa_377, sb_377, f1, k1, show ¬ (Int32.ofNat 1 = 0) by decide, n32_lt0, n1, rc, rv, q5, q6, e1]
theorem c6_gWay (h : LI s w ver) {v x : Nat} (hv : v < wn w) (hx : x < 4) : ∃ s', ev g (d + 6) mX6_wayGiven 0 [some (.ref (306 : Nat)), some (.ref (3 : Nat)), some (.int (Int32.ofNat v)), some (.int (Int32.ofNat x))] [] s = some (.inl (some (.long (Int64.ofNat (wyS w (gDs w v) x)))), s') ∧ LQ s s' w ver := by
  have hn : wn w ≤ 24 := h.2.2.2.1.2.2.1
  obtain ⟨s', f1, f2, f3⟩ := li_given (g := g) (d := d) h
  have e1 := (f3.1 v hv).2.2 x hx
  have rc := f2.2.1.u 306 13 402 (by decide +kernel)
  have k1 := c6_isVisit (g := g) (d := d + 5) (s := s') (show v < 24 by omega)
  obtain ⟨-, q2⟩ := rows_b v (by omega)
  obtain ⟨-, -, q7, q8⟩ := rows_d v (by omega)
  have rv : gR s' 402 v = 403 + v := f2.2.1 _ q2
  have rn : gR s' 402 (Int32.ofNat v).toNatClampNeg ≠ 0 := by rw [n32_cl (by omega), rv]; omega
  have n1 : ¬ 4 ≤ x := by omega
  refine ⟨s', ?_, f2⟩
  simp (disch := first | exact jm_lt0 | (apply jm_ltx; (repeat (first | exact jw_0 | apply jw_i | apply jw_r | apply jw_l)); omega) | omega | assumption | exact sa_306 | exact sa_402 | exact n32_inA sb_306 (by omega) (by omega) | exact n32_inA sb_402 (by omega) (by omega) | (refine n32_inA (by assumption) ?_ ?_ <;> omega) | exact bi01 | (rw [sa_306]; omega) | (rw [sa_402]; omega) | decide) only [sX6_wayGiven_0, sX6_wayGiven_1, sX6_wayGiven_2, sX6_wayGiven_5, sX6_wayGiven_6, sX6_wayGiven_9, sX6_wayGiven_12, sX6_wayGiven_13, sX6_wayGiven_16, sX6_wayGiven_17, sX6_wayGiven_18, sX6_wayGiven_21, sX6_wayGiven_22, sX6_wayGiven_25, sX6_wayGiven_26, sX6_wayGiven_27, sX6_wayGiven_28, sX6_wayGiven_29, kX6_wayGiven_32_AAII, sX6_wayGiven_32, kX6_wayGiven_33_AAII, sX6_wayGiven_33, evK_n, evK_v, evK_x, gI_pI, gJ_pI, gR_pI, gI_pJ, gJ_pJ, gR_pJ, gI_pR, gJ_pR, gR_pR, n32_le, n32_lt, n32_add, n32_mul, n32_cl, if_true, if_false, not_true_eq_false, not_false_eq_true, and_true, true_and, and_false, false_and, and_self, or_true, true_or, or_false, false_or, or_self, ne_eq, Decidable.not_not, Nat.reduceEqDiff, Nat.reduceEqDiff, sa_306, sb_306, sa_402, sb_402, f1, k1, show ¬ (Int32.ofNat 1 = 0) by decide, n32_lt0, n1, rc, rv, q7, q8, e1]
theorem c6_gAll (h : LI s w ver) {v : Nat} (hv : v < wn w) : ∃ s', ev g (d + 6) mX6_allGiven 0 [some (.ref (306 : Nat)), some (.ref (3 : Nat)), some (.int (Int32.ofNat v))] [] s = some (.inl (some (.long (Int64.ofNat (sumN (gDs w v) NS)))), s') ∧ LQ s s' w ver := by
  have hn : wn w ≤ 24 := h.2.2.2.1.2.2.1
  obtain ⟨s', f1, f2, f3⟩ := li_given (g := g) (d := d) h
  have e1 := (f3.1 v hv).1
  have re := f2.2.1.u 306 14 427 (by decide +kernel)
  have k1 := c6_isVisit (g := g) (d := d + 5) (s := s') (show v < 24 by omega)
  refine ⟨s', ?_, f2⟩
  simp (disch := first | exact jm_lt0 | (apply jm_ltx; (repeat (first | exact jw_0 | apply jw_i | apply jw_r | apply jw_l)); omega) | omega | assumption | exact sa_306 | exact sa_427 | exact n32_inA sb_306 (by omega) (by omega) | exact n32_inA sb_427 (by omega) (by omega) | (refine n32_inA (by assumption) ?_ ?_ <;> omega) | exact bi01 | (rw [sa_306]; omega) | (rw [sa_427]; omega) | decide) only [sX6_allGiven_0, sX6_allGiven_1, sX6_allGiven_2, sX6_allGiven_5, sX6_allGiven_6, sX6_allGiven_9, sX6_allGiven_12, sX6_allGiven_13, sX6_allGiven_16, sX6_allGiven_17, sX6_allGiven_18, kX6_allGiven_21_AAI, sX6_allGiven_21, kX6_allGiven_22_AAI, sX6_allGiven_22, evK_n, evK_v, evK_x, gI_pI, gJ_pI, gR_pI, gI_pJ, gJ_pJ, gR_pJ, gI_pR, gJ_pR, gR_pR, n32_le, n32_lt, n32_add, n32_mul, n32_cl, if_true, if_false, not_true_eq_false, not_false_eq_true, and_true, true_and, and_false, false_and, and_self, or_true, true_or, or_false, false_or, or_self, ne_eq, Decidable.not_not, Nat.reduceEqDiff, Nat.reduceEqDiff, sa_306, sb_306, sa_427, sb_427, f1, k1, show ¬ (Int32.ofNat 1 = 0) by decide, re, e1]
theorem c6_gLeft (h : LI s w ver) : ∃ s', ev g (d + 6) mX6_fitting 0 [some (.ref (306 : Nat)), some (.ref (3 : Nat))] [] s = some (.inl (some (.long (Int64.ofNat (sumN (zGb w (o00 w) (wn w)).1 NS)))), s') ∧ LQ s s' w ver := by
  obtain ⟨s', f1, f2, f3⟩ := li_given (g := g) (d := d) h
  have e1 := f3.2
  refine ⟨s', ?_, f2⟩
  simp (disch := first | exact jm_lt0 | (apply jm_ltx; (repeat (first | exact jw_0 | apply jw_i | apply jw_r | apply jw_l)); omega) | omega | assumption | exact sa_306 | exact n32_inA sb_306 (by omega) (by omega) | (refine n32_inA (by assumption) ?_ ?_ <;> omega) | exact bi01 | (rw [sa_306]; omega) | decide) only [sX6_fitting_0, sX6_fitting_1, sX6_fitting_2, sX6_fitting_5, sX6_fitting_6, sX6_fitting_9, evK_n, evK_v, evK_x, gI_pI, gJ_pI, gR_pI, gI_pJ, gJ_pJ, gR_pJ, gI_pR, gJ_pR, gR_pR, n32_le, n32_lt, n32_add, n32_mul, n32_cl, if_true, if_false, not_true_eq_false, not_false_eq_true, and_true, true_and, and_false, false_and, and_self, or_true, true_or, or_false, false_or, or_self, ne_eq, Decidable.not_not, Nat.reduceEqDiff, Nat.reduceEqDiff, sa_306, sb_306, f1, e1]
  rfl
theorem c6_forget (h1 : gI s 306 1 = Int32.ofNat ver) : ev g d mX6_forget 0 [some (.ref (306 : Nat))] [] s = some (.inl none, pI s 306 1 (Int32.ofNat (ver + 1))) := by
  simp (disch := first | exact jm_lt0 | (apply jm_ltx; (repeat (first | exact jw_0 | apply jw_i | apply jw_r | apply jw_l)); omega) | omega | assumption | exact sa_306 | exact n32_inA sb_306 (by omega) (by omega) | (refine n32_inA (by assumption) ?_ ?_ <;> omega) | exact bi01 | (rw [sa_306]; omega) | decide) only [sX6_forget_0, sX6_forget_1, sX6_forget_2, sX6_forget_5, sX6_forget_6, sX6_forget_7, sX6_forget_10, evK_n, evK_v, evK_x, gI_pI, gJ_pI, gR_pI, gI_pJ, gJ_pJ, gR_pJ, gI_pR, gJ_pR, gR_pR, n32_le, n32_lt, n32_add, n32_mul, n32_cl, if_true, if_false, not_true_eq_false, not_false_eq_true, and_true, true_and, and_false, false_and, and_self, or_true, true_or, or_false, false_or, or_self, ne_eq, Decidable.not_not, Nat.reduceEqDiff, Nat.reduceEqDiff, sa_306, sb_306, h1]
end LA
