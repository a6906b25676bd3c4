/-! the class: sums over the states in force -/
/-- parts by which it is so -/
def fctS (w : WD) (v what : Nat) (D : Nat → Nat) : Nat := sumN (fun k => if kis w v what k = true then D k else 0) NS
def truS (D : Nat → Nat) : Nat := sumN (fun k => if (kcard k = 1 ↔ kd k = 0) then D k else 0) NS
/-- by what is in it and what the card says -/
def behS (D : Nat → Nat) (j : Nat) : Nat := sumN (fun k => if pno (kc k) (kd k) * 2 + kcard k = j then D k else 0) NS
def cntS (D : Nat → Nat) : Nat := sumN (fun k => if D k ≠ 0 then 1 else 0) NS
section SV
variable {s0 : fm_S} {A A' : Nat} {l : List Nat} {D : Nat → Nat}
/-- the hand alone is touched, and this row of longs -/
def QR (r : Nat) (b _j : Nat) : Prop := b = r
theorem WB.keep (hW : WB s0 A A' l D) {s : fm_S} {r : Nat} (hM : FM pH (QR r) s0 s) (hr : r ≠ 318 ∧ r ≠ 321) : FX s ∧ OD s A A' ∧ TB s ∧ CL s A l D ∧ CL s A' [] (fun _ => 0) := by
  obtain ⟨hF, hO, hB, hC, hC', hS⟩ := hW
  obtain ⟨a1, a2, a3⟩ := od_A hO
  refine ⟨hM.fx hF, hO.fm hM, hB.of (fun j => ⟨hM.2.1 _ _ (by unfold pH; omega), hM.2.1 _ _ (by unfold pH; omega)⟩), hC.of (hM.2.1 _ _ (by unfold pH; omega)) (fun j => hM.2.1 _ _ (by unfold pH; omega)) (fun j => hM.2.2 _ _ (by unfold QR; omega)), hC'.of (hM.2.1 _ _ (by unfold pH; omega)) (fun j => hM.2.1 _ _ (by unfold pH; omega)) (fun j => hM.2.2 _ _ (by unfold QR; omega))⟩
theorem hE_keep {w : WD} {v r : Nat} {s s' : fm_S} (h : HE s 310 w v) (hM : FM pH (QR r) s s') : HE s' 310 w v := h.of (fun b j hb => hM.2.1 b j (fun q => hb (Or.inl q)))
theorem c7_allLoop {g : fm_g} {d : Nat} (hW : WB s0 A A' l D) : ∀ (m i : Nat), i + m = l.length → ev g (d + 2) mX7_allParts 4 [some (.ref (307 : Nat)), some (.long (Int64.ofNat (sumL D (l.take i)))), none, some (.int (Int32.ofNat i))] [] s0 = some (.inl (some (.long (Int64.ofNat (sumN D NS)))), s0) := by
  obtain ⟨hF, hO, hB, hC, hC', hS⟩ := id hW
  have sA : (shp A).1 = 1 := (clS hO.2.2.1).1
  have hlen := hC.len
  intro m
  induction m with
  | zero =>
    intro i hi
    have hil : i = l.length := by omega
    subst hil
    rw [sX7_allParts_4, List.take_length, sum_all hW (fun k hk => hk)]
    simp (disch := first | exact jm_lt0 | (apply jm_ltx; (repeat (first | exact jw_0 | apply jw_i | apply jw_r | apply jw_l)); omega) | omega | assumption | exact sa_307 | exact n32_inA sb_307 (by omega) (by omega) | (refine n32_inA (by assumption) ?_ ?_ <;> omega) | exact bi01 | (rw [sa_307]; omega) | decide) only [sX7_allParts_0, sX7_allParts_1, sX7_allParts_2, sX7_allParts_3, sX7_allParts_5, sX7_allParts_6, sX7_allParts_9, sX7_allParts_12, sX7_allParts_15, sX7_allParts_16, sX7_allParts_17, sX7_allParts_20, sX7_allParts_21, sX7_allParts_24, sX7_allParts_25, sX7_allParts_26, sX7_allParts_29, kX7_allParts_32_AJNI, sX7_allParts_32, sX7_allParts_33, evK_n, evK_v, evK_x, gI_pI, gJ_pI, gR_pI, gI_pJ, gJ_pJ, gR_pJ, gI_pR, gJ_pR, gR_pR, n32_le, n32_lt, n32_add, n32_mul, n32_cl, if_true, if_false, not_true_eq_false, not_false_eq_true, and_true, true_and, and_false, false_and, and_self, or_true, true_or, or_false, false_or, or_self, ne_eq, Decidable.not_not, Nat.reduceEqDiff, Nat.reduceEqDiff, sa_307, sb_307, hO.1, hC.1]
    rw [if_pos (by omega)]
  | succ m ih =>
    intro i hi
    have hil : i < l.length := by omega
    have hik : l[i]? = some l[i] := List.getElem?_eq_getElem hil
    have e1 := c1_partsAt (g := g) (d := d) hF hO.2.2.1 hC hik
    have h := ih (i + 1) (by omega)
    rw [sumL_tk hik, ← n64_add] at h
    have g1 : ¬ l.length ≤ i := by omega
    rw [sX7_allParts_4]
    simp (disch := first | exact jm_lt0 | (apply jm_ltx; (repeat (first | exact jw_0 | apply jw_i | apply jw_r | apply jw_l)); omega) | omega | assumption | exact sa_307 | exact n32_inA sb_307 (by omega) (by omega) | (refine n32_inA (by assumption) ?_ ?_ <;> omega) | exact bi01 | (rw [sa_307]; omega) | decide) only [sX7_allParts_0, sX7_allParts_1, sX7_allParts_2, sX7_allParts_3, sX7_allParts_5, sX7_allParts_6, sX7_allParts_9, sX7_allParts_12, sX7_allParts_15, sX7_allParts_16, sX7_allParts_17, sX7_allParts_20, sX7_allParts_21, sX7_allParts_24, sX7_allParts_25, sX7_allParts_26, sX7_allParts_29, kX7_allParts_32_AJNI, sX7_allParts_32, sX7_allParts_33, evK_n, evK_v, evK_x, gI_pI, gJ_pI, gR_pI, gI_pJ, gJ_pJ, gR_pJ, gI_pR, gJ_pR, gR_pR, n32_le, n32_lt, n32_add, n32_mul, n32_cl, if_true, if_false, not_true_eq_false, not_false_eq_true, and_true, true_and, and_false, false_and, and_self, or_true, true_or, or_false, false_or, or_self, ne_eq, Decidable.not_not, Nat.reduceEqDiff, Nat.reduceEqDiff, sa_307, sb_307, hO.1, hC.1, g1, e1]
    exact h
theorem c7_all {g : fm_g} {d : Nat} {s : fm_S} (hF : FX s) (hB : TB s) (hO : OS s D) (hD : sumN D NS ≤ ONE) : ev g (d + 2) mX7_allParts 0 [some (.ref (307 : Nat)), none, none, none] [] s = some (.inl (some (.long (Int64.ofNat (sumN D NS)))), s) := by
  obtain ⟨A, A', l, o1, o2, o3⟩ := hO
  have hW : WB s A A' l D := ⟨hF, o1, hB, o2, o3, hD⟩
  have h := c7_allLoop (g := g) (d := d) hW l.length 0 (by omega)
  rw [sX7_allParts_0, sX7_allParts_1, sX7_allParts_2, sX7_allParts_3]
  exact h
theorem c7_trueLoop {g : fm_g} {d : Nat} (hW : WB s0 A A' l D) : ∀ (m i : Nat) (s : fm_S), i + m = l.length → FM pH nO s0 s → ∃ s', ev g (d + 3) mX7_trueParts 4 [some (.ref (307 : Nat)), some (.long (Int64.ofNat (sumL (fun k => if (kcard k = 1 ↔ kd k = 0) then D k else 0) (l.take i)))), none, some (.int (Int32.ofNat i)), none, none] [] s = some (.inl (some (.long (Int64.ofNat (truS D)))), s') ∧ FM pH nO s0 s' := by
  intro m
  obtain ⟨-, hO0, -, hC0, -, -⟩ := id hW
  have sA : (shp A).1 = 1 := (clS hO0.2.2.1).1
  have hlen := hC0.len
  induction m with
  | zero =>
    intro i s hi hM
    obtain ⟨hF, hO, hB, hC, hC'⟩ := hW.keep (hM.mono (fun _ _ h => h) (fun _ _ h => h.elim) : FM pH (QR 0) s0 s) (by omega)
    have hil : i = l.length := by omega
    subst hil
    refine ⟨s, ?_, hM⟩
    rw [sX7_trueParts_4, List.take_length, sum_all hW (fun k hk => by rw [hk]; simp)]
    simp (disch := first | exact jm_lt0 | (apply jm_ltx; (repeat (first | exact jw_0 | apply jw_i | apply jw_r | apply jw_l)); omega) | omega | assumption | exact sa_307 | exact n32_inA sb_307 (by omega) (by omega) | (refine n32_inA (by assumption) ?_ ?_ <;> omega) | exact bi01 | (rw [sa_307]; omega) | decide) only [sX7_trueParts_0, sX7_trueParts_1, sX7_trueParts_2, sX7_trueParts_3, sX7_trueParts_5, sX7_trueParts_6, sX7_trueParts_9, sX7_trueParts_12, sX7_trueParts_15, sX7_trueParts_16, sX7_trueParts_17, sX7_trueParts_20, sX7_trueParts_22, sX7_trueParts_23, sX7_trueParts_24, sX7_trueParts_27, sX7_trueParts_30, sX7_trueParts_33, sX7_trueParts_35, kX7_trueParts_38_AJNIJN, sX7_trueParts_38, kX7_trueParts_39_AJNIJN, sX7_trueParts_39, sX7_trueParts_40, sX7_trueParts_41, sX7_trueParts_44, kX7_trueParts_47_AJNINN, sX7_trueParts_47, sX7_trueParts_48, evK_n, evK_v, evK_x, gI_pI, gJ_pI, gR_pI, gI_pJ, gJ_pJ, gR_pJ, gI_pR, gJ_pR, gR_pR, n32_le, n32_lt, n32_add, n32_mul, n32_cl, if_true, if_false, not_true_eq_false, not_false_eq_true, and_true, true_and, and_false, false_and, and_self, or_true, true_or, or_false, false_or, or_self, ne_eq, Decidable.not_not, Nat.reduceEqDiff, Nat.reduceEqDiff, sa_307, sb_307, hO.1, hC.1]
    rw [if_pos (by omega)]
    rfl
  | succ m ih =>
    intro i s hi hM
    obtain ⟨hF, hO, hB, hC, hC'⟩ := hW.keep (hM.mono (fun _ _ h => h) (fun _ _ h => h.elim) : FM pH (QR 0) s0 s) (by omega)
    have hil : i < l.length := by omega
    have hik : l[i]? = some l[i] := List.getElem?_eq_getElem hil
    obtain ⟨s1, e1, hM1, hN1⟩ := c7_load (g := g) (d := d) hF hO hB hC hik
    have e2 := c2_isTrue (g := g) (d := d + 2) (by decide) hN1
    have hM1' : FM pH nO s0 s1 := hM.tr (hM1.mono (fun _ _ h => h) (fun _ _ h => h.elim))
    have r2 := (hM1'.fx hW.1).u 307 2 310 (by decide +kernel)
    obtain ⟨s', f1, f2⟩ := ih (i + 1) s1 (by omega) hM1'
    refine ⟨s', ?_, f2⟩
    rw [sumL_tk hik, ← n64_add] at f1
    have g1 : ¬ l.length ≤ i := by omega
    rw [sX7_trueParts_4]
    by_cases c : (kcard l[i] = 1 ↔ kd l[i] = 0)
    · rw [if_pos c] at f1
      rw [bi_t c] at e2
      simp (disch := first | exact jm_lt0 | (apply jm_ltx; (repeat (first | exact jw_0 | apply jw_i | apply jw_r | apply jw_l)); omega) | omega | assumption | exact sa_307 | exact sa_310 | exact n32_inA sb_307 (by omega) (by omega) | exact n32_inA sb_310 (by omega) (by omega) | (refine n32_inA (by assumption) ?_ ?_ <;> omega) | exact bi01 | (rw [sa_307]; omega) | (rw [sa_310]; omega) | decide) only [sX7_trueParts_0, sX7_trueParts_1, sX7_trueParts_2, sX7_trueParts_3, sX7_trueParts_5, sX7_trueParts_6, sX7_trueParts_9, sX7_trueParts_12, sX7_trueParts_15, sX7_trueParts_16, sX7_trueParts_17, sX7_trueParts_20, sX7_trueParts_22, sX7_trueParts_23, sX7_trueParts_24, sX7_trueParts_27, sX7_trueParts_30, sX7_trueParts_33, sX7_trueParts_35, kX7_trueParts_38_AJNIJN, sX7_trueParts_38, kX7_trueParts_39_AJNIJN, sX7_trueParts_39, sX7_trueParts_40, sX7_trueParts_41, sX7_trueParts_44, kX7_trueParts_47_AJNINN, sX7_trueParts_47, sX7_trueParts_48, evK_n, evK_v, evK_x, gI_pI, gJ_pI, gR_pI, gI_pJ, gJ_pJ, gR_pJ, gI_pR, gJ_pR, gR_pR, n32_le, n32_lt, n32_add, n32_mul, n32_cl, if_true, if_false, not_true_eq_false, not_false_eq_true, and_true, true_and, and_false, false_and, and_self, or_true, true_or, or_false, false_or, or_self, ne_eq, Decidable.not_not, Nat.reduceEqDiff, Nat.reduceEqDiff, sa_307, sb_307, sa_310, sb_310, hO.1, hC.1, g1, e1, r2, e2, show ¬ (Int32.ofNat 1 = 0) by decide]
      exact f1
    · rw [if_neg c] at f1
      rw [bi_f c] at e2
      simp (disch := first | exact jm_lt0 | (apply jm_ltx; (repeat (first | exact jw_0 | apply jw_i | apply jw_r | apply jw_l)); omega) | omega | assumption | exact sa_307 | exact sa_310 | exact n32_inA sb_307 (by omega) (by omega) | exact n32_inA sb_310 (by omega) (by omega) | (refine n32_inA (by assumption) ?_ ?_ <;> omega) | exact bi01 | (rw [sa_307]; omega) | (rw [sa_310]; omega) | decide) only [sX7_trueParts_0, sX7_trueParts_1, sX7_trueParts_2, sX7_trueParts_3, sX7_trueParts_5, sX7_trueParts_6, sX7_trueParts_9, sX7_trueParts_12, sX7_trueParts_15, sX7_trueParts_16, sX7_trueParts_17, sX7_trueParts_20, sX7_trueParts_22, sX7_trueParts_23, sX7_trueParts_24, sX7_trueParts_27, sX7_trueParts_30, sX7_trueParts_33, sX7_trueParts_35, kX7_trueParts_38_AJNIJN, sX7_trueParts_38, kX7_trueParts_39_AJNIJN, sX7_trueParts_39, sX7_trueParts_40, sX7_trueParts_41, sX7_trueParts_44, kX7_trueParts_47_AJNINN, sX7_trueParts_47, sX7_trueParts_48, evK_n, evK_v, evK_x, gI_pI, gJ_pI, gR_pI, gI_pJ, gJ_pJ, gR_pJ, gI_pR, gJ_pR, gR_pR, n32_le, n32_lt, n32_add, n32_mul, n32_cl, if_true, if_false, not_true_eq_false, not_false_eq_true, and_true, true_and, and_false, false_and, and_self, or_true, true_or, or_false, false_or, or_self, ne_eq, Decidable.not_not, Nat.reduceEqDiff, Nat.reduceEqDiff, sa_307, sb_307, sa_310, sb_310, hO.1, hC.1, g1, e1, r2, e2, z32]
      exact f1
theorem OS.keep {s s' : fm_S} {r : Nat} (h : OS s D) (hM : FM pH (QR r) s s') (hr : r ≠ 318 ∧ r ≠ 321) : OS s' D := by
  obtain ⟨A, A', l, o1, o2, o3⟩ := h
  obtain ⟨a1, a2, a3⟩ := od_A o1
  exact ⟨A, A', l, o1.fm hM, o2.of (hM.2.1 _ _ (by unfold pH; omega)) (fun j => hM.2.1 _ _ (by unfold pH; omega)) (fun j => hM.2.2 _ _ (by unfold QR; omega)), o3.of (hM.2.1 _ _ (by unfold pH; omega)) (fun j => hM.2.1 _ _ (by unfold pH; omega)) (fun j => hM.2.2 _ _ (by unfold QR; omega))⟩
theorem c7_true {g : fm_g} {d : Nat} {s : fm_S} (hF : FX s) (hB : TB s) (hO : OS s D) (hD : sumN D NS ≤ ONE) : ∃ s', ev g (d + 3) mX7_trueParts 0 [some (.ref (307 : Nat)), none, none, none, none, none] [] s = some (.inl (some (.long (Int64.ofNat (truS D)))), s') ∧ FM pH nO s s' := by
  obtain ⟨A, A', l, o1, o2, o3⟩ := hO
  have hW : WB s A A' l D := ⟨hF, o1, hB, o2, o3, hD⟩
  obtain ⟨s', f1, f2⟩ := c7_trueLoop (g := g) (d := d) hW l.length 0 s (by omega) FM.rf
  refine ⟨s', ?_, f2⟩
  rw [sX7_trueParts_0, sX7_trueParts_1, sX7_trueParts_2, sX7_trueParts_3]
  exact f1
/-- rows of longs that sums are written to -/
theorem c7_zero {g : fm_g} {d r n : Nat} (q1 : (shp r).1 = 62) (q2 : (shp r).2 = n) (hn : n < 1000) : ∀ (m i : Nat) (s : fm_S), i + m = n → FM pH (QR r) s0 s → (∀ j, j < i → gJ s r j = Int64.ofNat 0) → ∃ s', ev g d mX7_sumFacts 2 [some (.ref (307 : Nat)), some (.ref r), some (.int (Int32.ofNat i)), none, none, none] [] s = ev g d mX7_sumFacts 18 [some (.ref (307 : Nat)), some (.ref r), none, none, none, none] [] s' ∧ FM pH (QR r) s0 s' ∧ ∀ j, j < n → gJ s' r j = Int64.ofNat 0 := by
  intro m
  induction m with
  | zero =>
    intro i s hi hM hz
    refine ⟨s, ?_, hM, fun j hj => hz j (by omega)⟩
    rw [sX7_sumFacts_2]
    simp (disch := first | exact jm_lt0 | (apply jm_ltx; (repeat (first | exact jw_0 | apply jw_i | apply jw_r | apply jw_l)); omega) | omega | assumption | (refine n32_inA (by assumption) ?_ ?_ <;> omega) | exact bi01 | decide) only [sX7_sumFacts_0, sX7_sumFacts_1, sX7_sumFacts_3, sX7_sumFacts_4, sX7_sumFacts_5, sX7_sumFacts_8, sX7_sumFacts_9, sX7_sumFacts_10, sX7_sumFacts_11, sX7_sumFacts_12, sX7_sumFacts_15, kX7_sumFacts_18_AAINNN, sX7_sumFacts_19, sX7_sumFacts_21, sX7_sumFacts_22, sX7_sumFacts_25, sX7_sumFacts_28, sX7_sumFacts_31, sX7_sumFacts_32, sX7_sumFacts_33, sX7_sumFacts_36, sX7_sumFacts_37, sX7_sumFacts_38, sX7_sumFacts_42, sX7_sumFacts_43, sX7_sumFacts_44, sX7_sumFacts_47, sX7_sumFacts_48, sX7_sumFacts_50, sX7_sumFacts_51, sX7_sumFacts_52, sX7_sumFacts_53, sX7_sumFacts_56, sX7_sumFacts_58, sX7_sumFacts_61, sX7_sumFacts_64, sX7_sumFacts_65, sX7_sumFacts_68, sX7_sumFacts_69, sX7_sumFacts_70, sX7_sumFacts_71, sX7_sumFacts_74, kX7_sumFacts_77_AAIJNI, sX7_sumFacts_77, sX7_sumFacts_80, kX7_sumFacts_83_AAINNN, sX7_sumFacts_83, n32_le, n32_lt, n32_add, n32_mul, n32_cl, q2]
    rw [if_pos (by omega)]
  | succ m ih =>
    intro i s hi hM hz
    obtain ⟨s', f1, f2, f3⟩ := ih (i + 1) (pJ s r i (Int64.ofNat 0)) (by omega) (hM.tr (FM.pJ rfl)) (fun j hj => by
      rw [gJ_pJ]
      by_cases c : j = i
      · rw [if_pos ⟨rfl, c⟩]
      · rw [if_neg (by rintro ⟨-, h⟩; exact c h)]; exact hz j (by omega))
    refine ⟨s', ?_, f2, f3⟩
    have g1 : ¬ n ≤ i := by omega
    rw [sX7_sumFacts_2]
    simp (disch := first | exact jm_lt0 | (apply jm_ltx; (repeat (first | exact jw_0 | apply jw_i | apply jw_r | apply jw_l)); omega) | omega | assumption | (refine n32_inA (by assumption) ?_ ?_ <;> omega) | exact bi01 | decide) only [sX7_sumFacts_0, sX7_sumFacts_1, sX7_sumFacts_3, sX7_sumFacts_4, sX7_sumFacts_5, sX7_sumFacts_8, sX7_sumFacts_9, sX7_sumFacts_10, sX7_sumFacts_11, sX7_sumFacts_12, sX7_sumFacts_15, kX7_sumFacts_18_AAINNN, sX7_sumFacts_19, sX7_sumFacts_21, sX7_sumFacts_22, sX7_sumFacts_25, sX7_sumFacts_28, sX7_sumFacts_31, sX7_sumFacts_32, sX7_sumFacts_33, sX7_sumFacts_36, sX7_sumFacts_37, sX7_sumFacts_38, sX7_sumFacts_42, sX7_sumFacts_43, sX7_sumFacts_44, sX7_sumFacts_47, sX7_sumFacts_48, sX7_sumFacts_50, sX7_sumFacts_51, sX7_sumFacts_52, sX7_sumFacts_53, sX7_sumFacts_56, sX7_sumFacts_58, sX7_sumFacts_61, sX7_sumFacts_64, sX7_sumFacts_65, sX7_sumFacts_68, sX7_sumFacts_69, sX7_sumFacts_70, sX7_sumFacts_71, sX7_sumFacts_74, kX7_sumFacts_77_AAIJNI, sX7_sumFacts_77, sX7_sumFacts_80, kX7_sumFacts_83_AAINNN, sX7_sumFacts_83, evK_n, evK_v, evK_x, gI_pI, gJ_pI, gR_pI, gI_pJ, gJ_pJ, gR_pJ, gI_pR, gJ_pR, gR_pR, n32_le, n32_lt, n32_add, n32_mul, n32_cl, if_true, if_false, not_true_eq_false, not_false_eq_true, and_true, true_and, and_false, false_and, and_self, or_true, true_or, or_false, false_or, or_self, ne_eq, Decidable.not_not, Nat.reduceEqDiff, Nat.reduceEqDiff, q2, g1]
    exact f1
theorem c7_factIn {g : fm_g} {d r v k i : Nat} {w : WD} {F : Nat → Nat} {s1 : fm_S} (hF : FX s1) (q1 : (shp r).1 = 62) (q2 : (shp r).2 = 6) (hE : HE s1 310 w v) (hN : HN s1 310 k) (hw : wOK w) (hv : v < 24) (hk : kst k ≤ v + 1) {p : Nat} (h0 : ∀ j, j < 6 → gJ s1 r j = Int64.ofNat (F j)) : ∀ (m j : Nat) (s : fm_S), j + m = 6 → FM nO (QR r) s1 s → (∀ x, x < 6 → gJ s r x = Int64.ofNat (F x + if x < j ∧ kis w v x k = true then p else 0)) → ∃ s', ev g (d + 2) mX7_sumFacts 40 [some (.ref (307 : Nat)), some (.ref r), some (.int (Int32.ofNat i)), some (.long (Int64.ofNat p)), none, some (.int (Int32.ofNat j))] [] s = ev g (d + 2) mX7_sumFacts 77 [some (.ref (307 : Nat)), some (.ref r), some (.int (Int32.ofNat i)), none, none, none] [] s' ∧ FM nO (QR r) s1 s' ∧ ∀ x, x < 6 → gJ s' r x = Int64.ofNat (F x + if kis w v x k = true then p else 0) := by
  intro m
  induction m with
  | zero =>
    intro j s hj hM hx
    refine ⟨s, ?_, hM, fun x h6 => ?_⟩
    · rw [sX7_sumFacts_40]
      simp (disch := first | exact jm_lt0 | (apply jm_ltx; (repeat (first | exact jw_0 | apply jw_i | apply jw_r | apply jw_l)); omega) | omega | assumption | (refine n32_inA (by assumption) ?_ ?_ <;> omega) | exact bi01 | decide) only [sX7_sumFacts_0, sX7_sumFacts_1, sX7_sumFacts_3, sX7_sumFacts_4, sX7_sumFacts_5, sX7_sumFacts_8, sX7_sumFacts_9, sX7_sumFacts_10, sX7_sumFacts_11, sX7_sumFacts_12, sX7_sumFacts_15, kX7_sumFacts_18_AAINNN, sX7_sumFacts_18, sX7_sumFacts_19, sX7_sumFacts_21, sX7_sumFacts_22, sX7_sumFacts_25, sX7_sumFacts_28, sX7_sumFacts_31, sX7_sumFacts_32, sX7_sumFacts_33, sX7_sumFacts_36, sX7_sumFacts_37, sX7_sumFacts_38, sX7_sumFacts_42, sX7_sumFacts_43, sX7_sumFacts_44, sX7_sumFacts_47, sX7_sumFacts_48, sX7_sumFacts_50, sX7_sumFacts_51, sX7_sumFacts_52, sX7_sumFacts_53, sX7_sumFacts_56, sX7_sumFacts_58, sX7_sumFacts_61, sX7_sumFacts_64, sX7_sumFacts_65, sX7_sumFacts_68, sX7_sumFacts_69, sX7_sumFacts_70, sX7_sumFacts_71, sX7_sumFacts_74, kX7_sumFacts_77_AAIJNI, sX7_sumFacts_80, kX7_sumFacts_83_AAINNN, sX7_sumFacts_83, n32_le, n32_lt, n32_add, n32_mul, n32_cl, q2]
      rw [if_pos (by omega)]
    · rw [hx x h6]
      by_cases c : kis w v x k = true
      · rw [if_pos ⟨by omega, c⟩, if_pos c]
      · rw [if_neg (fun h => c h.2), if_neg c]
  | succ m ih =>
    intro j s hj hM hx
    have hFs := hM.fx hF
    have r2 := hFs.u 307 2 310 (by decide +kernel)
    have sa : (shp 310).1 = 2 := rfl
    have hEs : HE s 310 w v := hE.of (fun b i _ => hM.2.1 b i (fun h => h))
    have hNs : HN s 310 k := hN.of (fun i _ => hM.2.1 _ _ (fun h => h))
    have e1 := c2_isSo (g := g) (d := d) (what := j) (by decide) hFs hEs hNs hw hv hk (by omega)
    have g1 : ¬ 6 ≤ j := by omega
    have xj := hx j (by omega)
    rw [if_neg (by omega)] at xj
    obtain ⟨s', f1, f2, f3⟩ := ih (j + 1) (pJ s r j (Int64.ofNat (F j + if kis w v j k = true then p else 0))) (by omega) (hM.tr (FM.pJ rfl)) (fun x h6 => by
      rw [gJ_pJ]
      by_cases c : x = j
      · subst c
        rw [if_pos ⟨rfl, rfl⟩]
        by_cases c2 : kis w v x k = true
        · rw [if_pos c2, if_pos ⟨by omega, c2⟩]
        · rw [if_neg c2, if_neg (fun h => c2 h.2)]
      · rw [if_neg (by rintro ⟨-, h⟩; exact c h), hx x h6]
        by_cases c2 : kis w v x k = true
        · by_cases c3 : x < j
          · rw [if_pos ⟨c3, c2⟩, if_pos ⟨by omega, c2⟩]
          · rw [if_neg (fun h => c3 h.1), if_neg (by omega)]
        · rw [if_neg (fun h => c2 h.2), if_neg (fun h => c2 h.2)])
    refine ⟨s', ?_, f2, f3⟩
    rw [sX7_sumFacts_40]
    by_cases c2 : kis w v j k = true
    · rw [if_pos c2, ← n64_add] at f1
      rw [bi_t c2] at e1
      simp (disch := first | exact jm_lt0 | (apply jm_ltx; (repeat (first | exact jw_0 | apply jw_i | apply jw_r | apply jw_l)); omega) | omega | assumption | exact sa_307 | exact sa_310 | exact n32_inA sb_307 (by omega) (by omega) | exact n32_inA sb_310 (by omega) (by omega) | (refine n32_inA (by assumption) ?_ ?_ <;> omega) | exact bi01 | (rw [sa_307]; omega) | (rw [sa_310]; omega) | decide) only [sX7_sumFacts_0, sX7_sumFacts_1, sX7_sumFacts_3, sX7_sumFacts_4, sX7_sumFacts_5, sX7_sumFacts_8, sX7_sumFacts_9, sX7_sumFacts_10, sX7_sumFacts_11, sX7_sumFacts_12, sX7_sumFacts_15, kX7_sumFacts_18_AAINNN, sX7_sumFacts_18, sX7_sumFacts_19, sX7_sumFacts_21, sX7_sumFacts_22, sX7_sumFacts_25, sX7_sumFacts_28, sX7_sumFacts_31, sX7_sumFacts_32, sX7_sumFacts_33, sX7_sumFacts_36, sX7_sumFacts_37, sX7_sumFacts_38, sX7_sumFacts_42, sX7_sumFacts_43, sX7_sumFacts_44, sX7_sumFacts_47, sX7_sumFacts_48, sX7_sumFacts_50, sX7_sumFacts_51, sX7_sumFacts_52, sX7_sumFacts_53, sX7_sumFacts_56, sX7_sumFacts_58, sX7_sumFacts_61, sX7_sumFacts_64, sX7_sumFacts_65, sX7_sumFacts_68, sX7_sumFacts_69, sX7_sumFacts_70, sX7_sumFacts_71, sX7_sumFacts_74, kX7_sumFacts_77_AAIJNI, sX7_sumFacts_80, kX7_sumFacts_83_AAINNN, sX7_sumFacts_83, evK_n, evK_v, evK_x, gI_pI, gJ_pI, gR_pI, gI_pJ, gJ_pJ, gR_pJ, gI_pR, gJ_pR, gR_pR, n32_le, n32_lt, n32_add, n32_mul, n32_cl, if_true, if_false, not_true_eq_false, not_false_eq_true, and_true, true_and, and_false, false_and, and_self, or_true, true_or, or_false, false_or, or_self, ne_eq, Decidable.not_not, Nat.reduceEqDiff, Nat.reduceEqDiff, sa_307, sb_307, sa_310, sb_310, q2, g1, r2, e1, xj, Nat.add_zero, show ¬ (Int32.ofNat 1 = 0) by decide]
      exact f1
    · rw [if_neg c2, ← n64_add] at f1
      rw [bi_f c2] at e1
      simp (disch := first | exact jm_lt0 | (apply jm_ltx; (repeat (first | exact jw_0 | apply jw_i | apply jw_r | apply jw_l)); omega) | omega | assumption | exact sa_307 | exact sa_310 | exact n32_inA sb_307 (by omega) (by omega) | exact n32_inA sb_310 (by omega) (by omega) | (refine n32_inA (by assumption) ?_ ?_ <;> omega) | exact bi01 | (rw [sa_307]; omega) | (rw [sa_310]; omega) | decide) only [sX7_sumFacts_0, sX7_sumFacts_1, sX7_sumFacts_3, sX7_sumFacts_4, sX7_sumFacts_5, sX7_sumFacts_8, sX7_sumFacts_9, sX7_sumFacts_10, sX7_sumFacts_11, sX7_sumFacts_12, sX7_sumFacts_15, kX7_sumFacts_18_AAINNN, sX7_sumFacts_18, sX7_sumFacts_19, sX7_sumFacts_21, sX7_sumFacts_22, sX7_sumFacts_25, sX7_sumFacts_28, sX7_sumFacts_31, sX7_sumFacts_32, sX7_sumFacts_33, sX7_sumFacts_36, sX7_sumFacts_37, sX7_sumFacts_38, sX7_sumFacts_42, sX7_sumFacts_43, sX7_sumFacts_44, sX7_sumFacts_47, sX7_sumFacts_48, sX7_sumFacts_50, sX7_sumFacts_51, sX7_sumFacts_52, sX7_sumFacts_53, sX7_sumFacts_56, sX7_sumFacts_58, sX7_sumFacts_61, sX7_sumFacts_64, sX7_sumFacts_65, sX7_sumFacts_68, sX7_sumFacts_69, sX7_sumFacts_70, sX7_sumFacts_71, sX7_sumFacts_74, kX7_sumFacts_77_AAIJNI, sX7_sumFacts_80, kX7_sumFacts_83_AAINNN, sX7_sumFacts_83, evK_n, evK_v, evK_x, gI_pI, gJ_pI, gR_pI, gI_pJ, gJ_pJ, gR_pJ, gI_pR, gJ_pR, gR_pR, n32_le, n32_lt, n32_add, n32_mul, n32_cl, if_true, if_false, not_true_eq_false, not_false_eq_true, and_true, true_and, and_false, false_and, and_self, or_true, true_or, or_false, false_or, or_self, ne_eq, Decidable.not_not, Nat.reduceEqDiff, Nat.reduceEqDiff, sa_307, sb_307, sa_310, sb_310, q2, g1, r2, e1, xj, Nat.add_zero, z32]
      exact f1
theorem c7_factLoop {g : fm_g} {d r v : Nat} {w : WD} (hW : WB s0 A A' l D) (hE : HE s0 310 w v) (q1 : (shp r).1 = 62) (q2 : (shp r).2 = 6) (hr : r ≠ 318 ∧ r ≠ 321) (hw : wOK w) (hv : v < 24) (hsup : ∀ k, k < NS → D k ≠ 0 → kst k ≤ v + 1) : ∀ (m i : Nat) (s : fm_S), i + m = l.length → FM pH (QR r) s0 s → (∀ x, x < 6 → gJ s r x = Int64.ofNat (sumL (fun k => if kis w v x k = true then D k else 0) (l.take i))) → ∃ s', ev g (d + 3) mX7_sumFacts 20 [some (.ref (307 : Nat)), some (.ref r), some (.int (Int32.ofNat i)), none, none, none] [] s = some (.inl none, s') ∧ FM pH (QR r) s0 s' ∧ ∀ x, x < 6 → gJ s' r x = Int64.ofNat (fctS w v x D) := by
  obtain ⟨-, hO0, -, hC0, -, -⟩ := id hW
  have sA : (shp A).1 = 1 := (clS hO0.2.2.1).1
  have hlen := hC0.len
  intro m
  induction m with
  | zero =>
    intro i s hi hM hx
    obtain ⟨hF, hO, hB, hC, hC'⟩ := hW.keep hM hr
    have hil : i = l.length := by omega
    subst hil
    refine ⟨s, ?_, hM, fun x h6 => ?_⟩
    · rw [sX7_sumFacts_20]
      simp (disch := first | exact jm_lt0 | (apply jm_ltx; (repeat (first | exact jw_0 | apply jw_i | apply jw_r | apply jw_l)); omega) | omega | assumption | exact sa_307 | exact n32_inA sb_307 (by omega) (by omega) | (refine n32_inA (by assumption) ?_ ?_ <;> omega) | exact bi01 | (rw [sa_307]; omega) | decide) only [sX7_sumFacts_0, sX7_sumFacts_1, sX7_sumFacts_3, sX7_sumFacts_4, sX7_sumFacts_5, sX7_sumFacts_8, sX7_sumFacts_9, sX7_sumFacts_10, sX7_sumFacts_11, sX7_sumFacts_12, sX7_sumFacts_15, kX7_sumFacts_18_AAINNN, sX7_sumFacts_18, sX7_sumFacts_19, sX7_sumFacts_21, sX7_sumFacts_22, sX7_sumFacts_25, sX7_sumFacts_28, sX7_sumFacts_31, sX7_sumFacts_32, sX7_sumFacts_33, sX7_sumFacts_36, sX7_sumFacts_37, sX7_sumFacts_38, sX7_sumFacts_42, sX7_sumFacts_43, sX7_sumFacts_44, sX7_sumFacts_47, sX7_sumFacts_48, sX7_sumFacts_50, sX7_sumFacts_51, sX7_sumFacts_52, sX7_sumFacts_53, sX7_sumFacts_56, sX7_sumFacts_58, sX7_sumFacts_61, sX7_sumFacts_64, sX7_sumFacts_65, sX7_sumFacts_68, sX7_sumFacts_69, sX7_sumFacts_70, sX7_sumFacts_71, sX7_sumFacts_74, kX7_sumFacts_77_AAIJNI, sX7_sumFacts_77, sX7_sumFacts_80, kX7_sumFacts_83_AAINNN, sX7_sumFacts_83, evK_n, evK_v, evK_x, gI_pI, gJ_pI, gR_pI, gI_pJ, gJ_pJ, gR_pJ, gI_pR, gJ_pR, gR_pR, n32_le, n32_lt, n32_add, n32_mul, n32_cl, if_true, if_false, not_true_eq_false, not_false_eq_true, and_true, true_and, and_false, false_and, and_self, or_true, true_or, or_false, false_or, or_self, ne_eq, Decidable.not_not, Nat.reduceEqDiff, Nat.reduceEqDiff, sa_307, sb_307, hO.1, hC.1]
      rw [if_pos (by omega)]
    · rw [hx x h6, List.take_length, sum_all hW (fun k hk => by rw [hk]; simp)]
      rfl
  | succ m ih =>
    intro i s hi hM hx
    obtain ⟨hF, hO, hB, hC, hC'⟩ := hW.keep hM hr
    have hil : i < l.length := by omega
    have hik : l[i]? = some l[i] := List.getElem?_eq_getElem hil
    obtain ⟨hk, hDk⟩ := hW.it hik
    have hst := hsup _ hk ((hC0.2.2.2.2 _ hk).2.2.mp (List.mem_of_getElem? hik))
    obtain ⟨s1, e1, hM1, hN1⟩ := c7_load (g := g) (d := d) hF hO hB hC hik
    have hM1' : FM pH (QR r) s0 s1 := hM.tr (hM1.mono (fun _ _ h => h) (fun _ _ h => h.elim))
    obtain ⟨s2, e2, hM2, hx2⟩ := c7_factIn (g := g) (d := d + 1) (i := i) (p := D l[i]) (r := r) (F := fun x => sumL (fun k => if kis w v x k = true then D k else 0) (l.take i)) (hM1'.fx hW.1) q1 q2 (hE_keep hE hM1') hN1 hw hv hst (fun x h6 => by rw [hM1.2.2 _ _ (fun h => h), hx x h6]) 6 0 s1 (by omega) FM.rf (fun x h6 => by rw [if_neg (by omega), hM1.2.2 _ _ (fun h => h), hx x h6]; rfl)
    obtain ⟨s', f1, f2, f3⟩ := ih (i + 1) s2 (by omega) (hM1'.tr (hM2.mono (fun _ _ h => h.elim) (fun _ _ h => h))) (fun x h6 => by rw [hx2 x h6, sumL_tk hik])
    refine ⟨s', ?_, f2, f3⟩
    have g1 : ¬ l.length ≤ i := by omega
    rw [sX7_sumFacts_20]
    simp (disch := first | exact jm_lt0 | (apply jm_ltx; (repeat (first | exact jw_0 | apply jw_i | apply jw_r | apply jw_l)); omega) | omega | assumption | exact sa_307 | exact n32_inA sb_307 (by omega) (by omega) | (refine n32_inA (by assumption) ?_ ?_ <;> omega) | exact bi01 | (rw [sa_307]; omega) | decide) only [sX7_sumFacts_0, sX7_sumFacts_1, sX7_sumFacts_3, sX7_sumFacts_4, sX7_sumFacts_5, sX7_sumFacts_8, sX7_sumFacts_9, sX7_sumFacts_10, sX7_sumFacts_11, sX7_sumFacts_12, sX7_sumFacts_15, kX7_sumFacts_18_AAINNN, sX7_sumFacts_18, sX7_sumFacts_19, sX7_sumFacts_21, sX7_sumFacts_22, sX7_sumFacts_25, sX7_sumFacts_28, sX7_sumFacts_31, sX7_sumFacts_32, sX7_sumFacts_33, sX7_sumFacts_36, sX7_sumFacts_37, sX7_sumFacts_38, sX7_sumFacts_42, sX7_sumFacts_43, sX7_sumFacts_44, sX7_sumFacts_47, sX7_sumFacts_48, sX7_sumFacts_50, sX7_sumFacts_51, sX7_sumFacts_52, sX7_sumFacts_53, sX7_sumFacts_56, sX7_sumFacts_58, sX7_sumFacts_61, sX7_sumFacts_64, sX7_sumFacts_65, sX7_sumFacts_68, sX7_sumFacts_69, sX7_sumFacts_70, sX7_sumFacts_71, sX7_sumFacts_74, kX7_sumFacts_77_AAIJNI, sX7_sumFacts_80, kX7_sumFacts_83_AAINNN, sX7_sumFacts_83, evK_n, evK_v, evK_x, gI_pI, gJ_pI, gR_pI, gI_pJ, gJ_pJ, gR_pJ, gI_pR, gJ_pR, gR_pR, n32_le, n32_lt, n32_add, n32_mul, n32_cl, if_true, if_false, not_true_eq_false, not_false_eq_true, and_true, true_and, and_false, false_and, and_self, or_true, true_or, or_false, false_or, or_self, ne_eq, Decidable.not_not, Nat.reduceEqDiff, Nat.reduceEqDiff, sa_307, sb_307, hO.1, hC.1, g1, e1, e2]
    simp (disch := first | exact jm_lt0 | (apply jm_ltx; (repeat (first | exact jw_0 | apply jw_i | apply jw_r | apply jw_l)); omega) | omega | assumption | exact sa_307 | exact n32_inA sb_307 (by omega) (by omega) | (refine n32_inA (by assumption) ?_ ?_ <;> omega) | exact bi01 | (rw [sa_307]; omega) | decide) only [sX7_sumFacts_0, sX7_sumFacts_1, sX7_sumFacts_3, sX7_sumFacts_4, sX7_sumFacts_5, sX7_sumFacts_8, sX7_sumFacts_9, sX7_sumFacts_10, sX7_sumFacts_11, sX7_sumFacts_12, sX7_sumFacts_15, kX7_sumFacts_18_AAINNN, sX7_sumFacts_18, sX7_sumFacts_19, sX7_sumFacts_21, sX7_sumFacts_22, sX7_sumFacts_25, sX7_sumFacts_28, sX7_sumFacts_31, sX7_sumFacts_32, sX7_sumFacts_33, sX7_sumFacts_36, sX7_sumFacts_37, sX7_sumFacts_38, sX7_sumFacts_42, sX7_sumFacts_43, sX7_sumFacts_44, sX7_sumFacts_47, sX7_sumFacts_48, sX7_sumFacts_50, sX7_sumFacts_51, sX7_sumFacts_52, sX7_sumFacts_53, sX7_sumFacts_56, sX7_sumFacts_58, sX7_sumFacts_61, sX7_sumFacts_64, sX7_sumFacts_65, sX7_sumFacts_68, sX7_sumFacts_69, sX7_sumFacts_70, sX7_sumFacts_71, sX7_sumFacts_74, kX7_sumFacts_77_AAIJNI, sX7_sumFacts_77, sX7_sumFacts_80, kX7_sumFacts_83_AAINNN, sX7_sumFacts_83, n32_le, n32_lt, n32_add, n32_mul, n32_cl]
    exact f1
theorem c7_sumFacts {g : fm_g} {d r v : Nat} {w : WD} {s : fm_S} (hF : FX s) (hB : TB s) (hO : OS s D) (hD : sumN D NS ≤ ONE) (hE : HE s 310 w v) (q1 : (shp r).1 = 62) (q2 : (shp r).2 = 6) (hr : r ≠ 318 ∧ r ≠ 321) (hw : wOK w) (hv : v < 24) (hsup : ∀ k, k < NS → D k ≠ 0 → kst k ≤ v + 1) : ∃ s', ev g (d + 3) mX7_sumFacts 0 [some (.ref (307 : Nat)), some (.ref r), none, none, none, none] [] s = some (.inl none, s') ∧ FM pH (QR r) s s' ∧ ∀ x, x < 6 → gJ s' r x = Int64.ofNat (fctS w v x D) := by
  obtain ⟨A, A', l, o1, o2, o3⟩ := hO
  have hW : WB s A A' l D := ⟨hF, o1, hB, o2, o3, hD⟩
  obtain ⟨s1, e1, hM1, hz⟩ := c7_zero (g := g) (d := d + 3) q1 q2 (by omega) 6 0 s (by omega) FM.rf (fun j hj => by omega)
  have hk := hW.keep hM1 hr
  have hW1 : WB s1 A A' l D := ⟨hk.1, hk.2.1, hk.2.2.1, hk.2.2.2.1, hk.2.2.2.2, hD⟩
  obtain ⟨s', f1, f2, f3⟩ := c7_factLoop (g := g) (d := d) hW1 (hE_keep hE hM1) q1 q2 hr hw hv hsup l.length 0 s1 (by omega) FM.rf (fun x h6 => by rw [hz x h6]; rfl)
  refine ⟨s', ?_, hM1.tr f2, f3⟩
  rw [sX7_sumFacts_0, sX7_sumFacts_1, e1, sX7_sumFacts_18, sX7_sumFacts_19]
  exact f1
end SV
