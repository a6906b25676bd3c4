/-! swap on both sides -/
section CN0
variable {g : fm_g} {d c ver : Nat} {w : WD} {G : GS} {s t : fm_S}
def csW (w : WD) (i j : Nat) : Nat := costS w (opt w 6 (prN i j))
def swI (w : WD) (i : Nat) : Nat → Nat → Nat × Int32 → Nat × Int32
  | 0, _, R => R
  | m + 1, j, R => swI w i m (j + 1) (if csW w i j < R.1 then (csW w i j, Int32.ofNat (10 * i + j)) else R)
def swO (w : WD) (n : Nat) : Nat → Nat → Nat × Int32 → Nat × Int32
  | 0, _, R => R
  | m + 1, i, R => swO w n m (i + 1) (swI w i (n - (i + 1)) (i + 1) R)
theorem swI_lt {i : Nat} (hw : wOK w) (hi : i < 6) : ∀ (m j : Nat) (R : Nat × Int32), i < j → j + m ≤ 6 → R.1 < BIG → (swI w i m j R).1 < BIG := by
  intro m
  induction m with
  | zero => intro j R _ _ h; exact h
  | succ m ih =>
    intro j R hij hm h
    refine ih (j + 1) _ (by omega) (by omega) ?_
    split
    · exact cost_lt hw (opt_ok hw (prN_ok hi (by omega) (by omega)))
    · exact h
theorem c_swI {n i : Nat} (hw : wOK w) (hn : n ≤ 6) (hi : i < n) : ∀ (m j : Nat) (R : Nat × Int32) (s : fm_S), j + m = n → i < j → R.1 < BIG → LI s w ver → ∃ s', ev g (d + 35) mX11_swap 37 [some (.ref (0 : Nat)), some (.int (Int32.ofNat n)), some (.long (Int64.ofNat R.1)), none, some (.int R.2), some (.int (Int32.ofNat i)), some (.int (Int32.ofNat j)), none, none] [] s = ev g (d + 35) mX11_swap 25 [some (.ref (0 : Nat)), some (.int (Int32.ofNat n)), some (.long (Int64.ofNat (swI w i m j R).1)), none, some (.int (swI w i m j R).2), some (.int (Int32.ofNat (i + 1))), none, none, none] [] s' ∧ LQ s s' w ver := by
  intro m
  induction m with
  | zero =>
    intro j R s hj hij hR h
    have hil : j = n := by omega
    subst hil
    refine ⟨s, ?_, LQ.rf h⟩
    rw [sX11_swap_37]
    simp (disch := first | exact jm_lt0 | (apply jm_ltx; (repeat (first | exact jw_0 | apply jw_i | apply jw_r | apply jw_l)); omega) | omega | assumption | exact sa_0 | exact n32_inA sb_0 (by omega) (by omega) | (refine n32_inA (by assumption) ?_ ?_ <;> omega) | exact bi01 | (rw [sa_0]; omega) | decide) only [sX11_swap_0, sX11_swap_1, sX11_swap_4, sX11_swap_5, sX11_swap_6, sX11_swap_9, sX11_swap_10, sX11_swap_13, sX11_swap_14, sX11_swap_15, sX11_swap_18, sX11_swap_19, sX11_swap_20, sX11_swap_22, sX11_swap_23, sX11_swap_27, sX11_swap_28, sX11_swap_31, sX11_swap_33, sX11_swap_34, sX11_swap_35, sX11_swap_39, sX11_swap_40, sX11_swap_43, sX11_swap_44, sX11_swap_47, sX11_swap_48, sX11_swap_51, sX11_swap_53, sX11_swap_55, sX11_swap_57, sX11_swap_60, sX11_swap_63, sX11_swap_65, sX11_swap_67, sX11_swap_68, sX11_swap_69, sX11_swap_72, sX11_swap_74, sX11_swap_75, sX11_swap_77, sX11_swap_79, sX11_swap_80, sX11_swap_82, sX11_swap_83, kX11_swap_85_AIJNIIIJN, sX11_swap_85, sX11_swap_88, kX11_swap_91_AIJNIIINN, sX11_swap_91, sX11_swap_94, kX11_swap_97_AIJNIINNN, sX11_swap_97, sX11_swap_99, evK_n, evK_v, evK_x, gI_pI, gJ_pI, gR_pI, gI_pJ, gJ_pJ, gR_pJ, gI_pR, gJ_pR, gR_pR, if_true, if_false, not_true_eq_false, not_false_eq_true, and_true, true_and, and_false, false_and, and_self, or_true, true_or, or_false, false_or, or_self, ne_eq, Decidable.not_not, Nat.reduceEqDiff, Nat.reduceEqDiff, n32_le, n32_lt, n32_add, n32_mul, n32_cl, Nat.le_refl, swI]
  | succ m ih =>
    intro j R s hj hij hR h
    have r01 := h.1.u 0 1 3 (by decide +kernel)
    have r06 := h.1.u 0 6 306 (by decide +kernel)
    have hok := prN_ok (show i < 6 by omega) (show j < 6 by omega) (show i ≠ j by omega)
    obtain ⟨s1, e1, q1⟩ := c6_costBy (g := g) (d := d + 28) h (ch := 6) (de := prN i j) hok
    have hbb : csW w i j < BIG := cost_lt hw (opt_ok hw hok)
    have cp := c11_pairOf (g := g) (d := d + 34) (s := s) (p := i) (o := j) (by omega) (by omega)
    obtain ⟨s', f1, f2⟩ := ih (j + 1) (if csW w i j < R.1 then (csW w i j, Int32.ofNat (10 * i + j)) else R) s1 (by omega) (by omega) (by split <;> assumption) q1.2
    refine ⟨s', ?_, q1.tr f2⟩
    have g1 : ¬ n ≤ j := by omega
    have hB : BIG = 4611686018427387904 := rfl
    have e1' : ev g (d + 34) mX6_costBy 0 [some (.ref (306 : Nat)), some (.ref (3 : Nat)), some (.int (Int32.ofNat 6)), some (.int (Int32.ofNat (prN i j))), none] [] s = some (.inl (some (.long (Int64.ofNat (csW w i j)))), s1) := e1
    have hlt : (Int64.ofNat R.1 ≤ Int64.ofNat (csW w i j)) = (R.1 ≤ csW w i j) := n64_le (by omega) (by omega)
    rw [swI]
    rw [sX11_swap_37]
    by_cases cc : csW w i j < R.1
    · have cc' : ¬ R.1 ≤ csW w i j := by omega
      rw [if_pos cc] at f1 ⊢
      simp (disch := first | exact jm_lt0 | (apply jm_ltx; (repeat (first | exact jw_0 | apply jw_i | apply jw_r | apply jw_l)); omega) | omega | assumption | exact sa_0 | exact sa_3 | exact sa_306 | exact n32_inA sb_0 (by omega) (by omega) | exact n32_inA sb_3 (by omega) (by omega) | exact n32_inA sb_306 (by omega) (by omega) | (refine n32_inA (by assumption) ?_ ?_ <;> omega) | exact bi01 | (rw [sa_0]; omega) | (rw [sa_3]; omega) | (rw [sa_306]; omega) | decide) only [sX11_swap_0, sX11_swap_1, sX11_swap_4, sX11_swap_5, sX11_swap_6, sX11_swap_9, sX11_swap_10, sX11_swap_13, sX11_swap_14, sX11_swap_15, sX11_swap_18, sX11_swap_19, sX11_swap_20, sX11_swap_22, sX11_swap_23, sX11_swap_27, sX11_swap_28, sX11_swap_31, sX11_swap_33, sX11_swap_34, sX11_swap_35, sX11_swap_39, sX11_swap_40, sX11_swap_43, sX11_swap_44, sX11_swap_47, sX11_swap_48, sX11_swap_51, sX11_swap_53, sX11_swap_55, sX11_swap_57, sX11_swap_60, sX11_swap_63, sX11_swap_65, sX11_swap_67, sX11_swap_68, sX11_swap_69, sX11_swap_72, sX11_swap_74, sX11_swap_75, sX11_swap_77, sX11_swap_79, sX11_swap_80, sX11_swap_82, sX11_swap_83, kX11_swap_85_AIJNIIIJN, sX11_swap_85, sX11_swap_88, kX11_swap_91_AIJNIIINN, sX11_swap_91, sX11_swap_94, kX11_swap_97_AIJNIINNN, sX11_swap_97, sX11_swap_99, evK_n, evK_v, evK_x, gI_pI, gJ_pI, gR_pI, gI_pJ, gJ_pJ, gR_pJ, gI_pR, gJ_pR, gR_pR, if_true, if_false, not_true_eq_false, not_false_eq_true, and_true, true_and, and_false, false_and, and_self, or_true, true_or, or_false, false_or, or_self, ne_eq, Decidable.not_not, Nat.reduceEqDiff, Nat.reduceEqDiff, n32_le, n32_lt, n32_add, n32_mul, n32_cl, sa_0, sb_0, sa_3, sb_3, sa_306, sb_306, g1, r01, r06, cp, e1', n64_cge, hlt, cc']
      exact f1
    · have cc' : R.1 ≤ csW w i j := by omega
      rw [if_neg cc] at f1 ⊢
      simp (disch := first | exact jm_lt0 | (apply jm_ltx; (repeat (first | exact jw_0 | apply jw_i | apply jw_r | apply jw_l)); omega) | omega | assumption | exact sa_0 | exact sa_3 | exact sa_306 | exact n32_inA sb_0 (by omega) (by omega) | exact n32_inA sb_3 (by omega) (by omega) | exact n32_inA sb_306 (by omega) (by omega) | (refine n32_inA (by assumption) ?_ ?_ <;> omega) | exact bi01 | (rw [sa_0]; omega) | (rw [sa_3]; omega) | (rw [sa_306]; omega) | decide) only [sX11_swap_0, sX11_swap_1, sX11_swap_4, sX11_swap_5, sX11_swap_6, sX11_swap_9, sX11_swap_10, sX11_swap_13, sX11_swap_14, sX11_swap_15, sX11_swap_18, sX11_swap_19, sX11_swap_20, sX11_swap_22, sX11_swap_23, sX11_swap_27, sX11_swap_28, sX11_swap_31, sX11_swap_33, sX11_swap_34, sX11_swap_35, sX11_swap_39, sX11_swap_40, sX11_swap_43, sX11_swap_44, sX11_swap_47, sX11_swap_48, sX11_swap_51, sX11_swap_53, sX11_swap_55, sX11_swap_57, sX11_swap_60, sX11_swap_63, sX11_swap_65, sX11_swap_67, sX11_swap_68, sX11_swap_69, sX11_swap_72, sX11_swap_74, sX11_swap_75, sX11_swap_77, sX11_swap_79, sX11_swap_80, sX11_swap_82, sX11_swap_83, kX11_swap_85_AIJNIIIJN, sX11_swap_85, sX11_swap_88, kX11_swap_91_AIJNIIINN, sX11_swap_91, sX11_swap_94, kX11_swap_97_AIJNIINNN, sX11_swap_97, sX11_swap_99, evK_n, evK_v, evK_x, gI_pI, gJ_pI, gR_pI, gI_pJ, gJ_pJ, gR_pJ, gI_pR, gJ_pR, gR_pR, if_true, if_false, not_true_eq_false, not_false_eq_true, and_true, true_and, and_false, false_and, and_self, or_true, true_or, or_false, false_or, or_self, ne_eq, Decidable.not_not, Nat.reduceEqDiff, Nat.reduceEqDiff, n32_le, n32_lt, n32_add, n32_mul, n32_cl, sa_0, sb_0, sa_3, sb_3, sa_306, sb_306, g1, r01, r06, cp, e1', n64_cge, hlt, cc']
      exact f1
theorem c_swO {n : Nat} (hw : wOK w) (hn : n ≤ 6) : ∀ (m i : Nat) (R : Nat × Int32) (s : fm_S), i + m = n → R.1 < BIG → LI s w ver → ∃ s', ev g (d + 35) mX11_swap 25 [some (.ref (0 : Nat)), some (.int (Int32.ofNat n)), some (.long (Int64.ofNat R.1)), none, some (.int R.2), some (.int (Int32.ofNat i)), none, none, none] [] s = some (.inl (some (.int (swO w n m i R).2)), s') ∧ LQ s s' w ver := by
  intro m
  induction m with
  | zero =>
    intro i R s hi hR h
    have hil : i = n := by omega
    subst hil
    refine ⟨s, ?_, LQ.rf h⟩
    rw [sX11_swap_25]
    simp (disch := first | exact jm_lt0 | (apply jm_ltx; (repeat (first | exact jw_0 | apply jw_i | apply jw_r | apply jw_l)); omega) | omega | assumption | exact sa_0 | exact n32_inA sb_0 (by omega) (by omega) | (refine n32_inA (by assumption) ?_ ?_ <;> omega) | exact bi01 | (rw [sa_0]; omega) | decide) only [sX11_swap_0, sX11_swap_1, sX11_swap_4, sX11_swap_5, sX11_swap_6, sX11_swap_9, sX11_swap_10, sX11_swap_13, sX11_swap_14, sX11_swap_15, sX11_swap_18, sX11_swap_19, sX11_swap_20, sX11_swap_22, sX11_swap_23, sX11_swap_27, sX11_swap_28, sX11_swap_31, sX11_swap_33, sX11_swap_34, sX11_swap_35, sX11_swap_39, sX11_swap_40, sX11_swap_43, sX11_swap_44, sX11_swap_47, sX11_swap_48, sX11_swap_51, sX11_swap_53, sX11_swap_55, sX11_swap_57, sX11_swap_60, sX11_swap_63, sX11_swap_65, sX11_swap_67, sX11_swap_68, sX11_swap_69, sX11_swap_72, sX11_swap_74, sX11_swap_75, sX11_swap_77, sX11_swap_79, sX11_swap_80, sX11_swap_82, sX11_swap_83, kX11_swap_85_AIJNIIIJN, sX11_swap_85, sX11_swap_88, kX11_swap_91_AIJNIIINN, sX11_swap_91, sX11_swap_94, kX11_swap_97_AIJNIINNN, sX11_swap_97, sX11_swap_99, evK_n, evK_v, evK_x, gI_pI, gJ_pI, gR_pI, gI_pJ, gJ_pJ, gR_pJ, gI_pR, gJ_pR, gR_pR, if_true, if_false, not_true_eq_false, not_false_eq_true, and_true, true_and, and_false, false_and, and_self, or_true, true_or, or_false, false_or, or_self, ne_eq, Decidable.not_not, Nat.reduceEqDiff, Nat.reduceEqDiff, n32_le, n32_lt, n32_add, n32_mul, n32_cl, Nat.le_refl, swO]
  | succ m ih =>
    intro i R s hi hR h
    have g1 : ¬ n ≤ i := by omega
    obtain ⟨s1, e1, q1⟩ := c_swI (g := g) (d := d) (n := n) (i := i) hw hn (by omega) (n - (i + 1)) (i + 1) R s (by omega) (by omega) hR h
    obtain ⟨s2, e2, q2⟩ := ih (i + 1) _ s1 (by omega) (swI_lt (i := i) hw (by omega) (n - (i + 1)) (i + 1) R (by omega) (by omega) hR) q1.2
    refine ⟨s2, ?_, q1.tr q2⟩
    rw [swO]
    refine Eq.trans ?_ (e1.trans e2)
    rw [sX11_swap_25]
    simp (disch := first | exact jm_lt0 | (apply jm_ltx; (repeat (first | exact jw_0 | apply jw_i | apply jw_r | apply jw_l)); omega) | omega | assumption | exact sa_0 | exact n32_inA sb_0 (by omega) (by omega) | (refine n32_inA (by assumption) ?_ ?_ <;> omega) | exact bi01 | (rw [sa_0]; omega) | decide) only [sX11_swap_0, sX11_swap_1, sX11_swap_4, sX11_swap_5, sX11_swap_6, sX11_swap_9, sX11_swap_10, sX11_swap_13, sX11_swap_14, sX11_swap_15, sX11_swap_18, sX11_swap_19, sX11_swap_20, sX11_swap_22, sX11_swap_23, sX11_swap_27, sX11_swap_28, sX11_swap_31, sX11_swap_33, sX11_swap_34, sX11_swap_35, sX11_swap_39, sX11_swap_40, sX11_swap_43, sX11_swap_44, sX11_swap_47, sX11_swap_48, sX11_swap_51, sX11_swap_53, sX11_swap_55, sX11_swap_57, sX11_swap_60, sX11_swap_63, sX11_swap_65, sX11_swap_67, sX11_swap_68, sX11_swap_69, sX11_swap_72, sX11_swap_74, sX11_swap_75, sX11_swap_77, sX11_swap_79, sX11_swap_80, sX11_swap_82, sX11_swap_83, kX11_swap_85_AIJNIIIJN, sX11_swap_85, sX11_swap_88, kX11_swap_91_AIJNIIINN, sX11_swap_91, sX11_swap_94, kX11_swap_97_AIJNIINNN, sX11_swap_97, sX11_swap_99, evK_n, evK_v, evK_x, gI_pI, gJ_pI, gR_pI, gI_pJ, gJ_pJ, gR_pJ, gI_pR, gJ_pR, gR_pR, if_true, if_false, not_true_eq_false, not_false_eq_true, and_true, true_and, and_false, false_and, and_self, or_true, true_or, or_false, false_or, or_self, ne_eq, Decidable.not_not, Nat.reduceEqDiff, Nat.reduceEqDiff, n32_le, n32_lt, n32_add, n32_mul, n32_cl, g1]
theorem PM.e2 {j k : Nat} {x y : Int32} {o : OPT} {t t1 : fm_S} (h : PM (pI (pI t 432 j x) 432 k y) o false) (q : OPe j k t t1) : PM (pI (pI t1 432 j x) 432 k y) o false := h.of (fun i h1 h2 => by
  by_cases c1 : i = k
  · rw [gI_pI, if_pos ⟨rfl, c1⟩, gI_pI, if_pos ⟨rfl, c1⟩]
  · rw [gI_pI, if_neg (by omega), gI_pI (pI t 432 j x), if_neg (by omega)]
    by_cases c : i = j
    · rw [gI_pI, if_pos ⟨rfl, c⟩, gI_pI, if_pos ⟨rfl, c⟩]
    · rw [gI_pI, if_neg (by omega), gI_pI, if_neg (by omega), q i h1 h2 c c1])
theorem m_swI {n i : Nat} {t0 : fm_S} (hw : wOK w) (hn : n ≤ 6) (h7 : wT w 7 = n) (hi : i < n) (hP : ∀ i j, i < 6 → j < 6 → i ≠ j → PM (pI (pI t0 432 47 (Int32.ofNat i)) 432 48 (Int32.ofNat j)) (opt w 6 (prN i j)) false) : ∀ (m j : Nat) (R : Nat × Int32) (t : fm_S), j + m = n → i < j → R.1 < BIG → MI t w G → OPe 47 48 t0 t → ∃ t', ev g (d + 35) mX12_swap 34 [some (.ref (432 : Nat)), some (.int R.2), some (.long (Int64.ofNat R.1)), none, some (.int (Int32.ofNat i)), some (.int (Int32.ofNat j)), none, none] [] t = ev g (d + 35) mX12_swap 19 [some (.ref (432 : Nat)), some (.int (swI w i m j R).2), some (.long (Int64.ofNat (swI w i m j R).1)), none, some (.int (Int32.ofNat (i + 1))), none, none, none] [] t' ∧ MI t' w G ∧ FM pM qMT t t' ∧ OPe 47 48 t0 t' := by
  intro m
  induction m with
  | zero =>
    intro j R t hj hij hR hM hO
    have hil : j = n := by omega
    subst hil
    have h18 := hM.2.2.1.2.2.1
    rw [h7] at h18
    refine ⟨t, ?_, hM, FM.rf, hO⟩
    rw [sX12_swap_34]
    simp (disch := first | exact jm_lt0 | (apply jm_ltx; (repeat (first | exact jw_0 | apply jw_i | apply jw_r | apply jw_l)); omega) | omega | assumption | exact sa_432 | exact n32_inA sb_432 (by omega) (by omega) | (refine n32_inA (by assumption) ?_ ?_ <;> omega) | exact bi01 | (rw [sa_432]; omega) | decide) only [sX12_swap_0, sX12_swap_1, sX12_swap_2, sX12_swap_5, sX12_swap_6, sX12_swap_9, sX12_swap_10, sX12_swap_11, sX12_swap_12, sX12_swap_15, sX12_swap_16, sX12_swap_17, sX12_swap_21, sX12_swap_22, sX12_swap_25, sX12_swap_28, sX12_swap_30, sX12_swap_31, sX12_swap_32, sX12_swap_36, sX12_swap_37, sX12_swap_40, sX12_swap_43, sX12_swap_44, sX12_swap_46, sX12_swap_49, sX12_swap_50, sX12_swap_52, sX12_swap_55, sX12_swap_56, sX12_swap_59, sX12_swap_61, sX12_swap_63, sX12_swap_64, sX12_swap_65, sX12_swap_68, kX12_swap_71_AIJNIIJN, sX12_swap_71, sX12_swap_73, sX12_swap_75, sX12_swap_76, sX12_swap_78, sX12_swap_79, sX12_swap_80, sX12_swap_82, kX12_swap_83_AIJNIIJN, sX12_swap_83, sX12_swap_86, kX12_swap_89_AIJNIINN, sX12_swap_89, sX12_swap_92, kX12_swap_95_AIJNINNN, sX12_swap_95, sX12_swap_96, evK_n, evK_v, evK_x, gI_pI, gJ_pI, gR_pI, gI_pJ, gJ_pJ, gR_pJ, gI_pR, gJ_pR, gR_pR, if_true, if_false, not_true_eq_false, not_false_eq_true, and_true, true_and, and_false, false_and, and_self, or_true, true_or, or_false, false_or, or_self, ne_eq, Decidable.not_not, Nat.reduceEqDiff, Nat.reduceEqDiff, n32_le, n32_lt, n32_add, n32_mul, n32_cl, sa_432, sb_432, h18, Nat.le_refl, swI]
  | succ m ih =>
    intro j R t hj hij hR hM hO
    have h18 := hM.2.2.1.2.2.1
    rw [h7] at h18
    have hok := prN_ok (show i < 6 by omega) (show j < 6 by omega) (show i ≠ j by omega)
    have hM2 := (hM.opt (j := 47) (x := Int32.ofNat i) (by omega)).opt (j := 48) (x := Int32.ofNat j) (by omega)
    have hP2 := (hP i j (by omega) (by omega) (by omega)).e2 hO
    obtain ⟨t2, f2, y2, hM3, q2⟩ := mq_cost (g := g) (d := d + 28) hM2 hw hP2 (opt_ok hw hok)
    have hbb : csW w i j < BIG := cost_lt hw (opt_ok hw hok)
    have f2' : ev g (d + 34) mX12_costNow 0 [some (.ref (432 : Nat)), none, none, none] [] (pI (pI t 432 47 (Int32.ofNat i)) 432 48 (Int32.ofNat j)) = some (.inl (some (.long (Int64.ofNat (csW w i j)))), t2) := f2
    have y3 := ((fmo (t := t) (j := 47) (x := Int32.ofNat i) (by omega)).tr (fmo (j := 48) (x := Int32.ofNat j) (by omega))).tr y2
    have hO2 : OPe 47 48 t0 t2 := fun k h1 h2 h3 h4 => by rw [q2 k h1 h2, gI_pI, if_neg (by omega), gI_pI, if_neg (by omega), hO k h1 h2 h3 h4]
    obtain ⟨t', f1, k1, k2, k3⟩ := ih (j + 1) (if csW w i j < R.1 then (csW w i j, Int32.ofNat (10 * i + j)) else R) t2 (by omega) (by omega) (by split <;> assumption) hM3 hO2
    refine ⟨t', ?_, k1, y3.tr k2, k3⟩
    have g1 : ¬ n ≤ j := by omega
    have hB : BIG = 4611686018427387904 := rfl
    have hlt : (Int64.ofNat (csW w i j) < Int64.ofNat R.1) = (csW w i j < R.1) := n64_lt (by omega) (by omega)
    rw [swI]
    rw [sX12_swap_34]
    by_cases cc : csW w i j < R.1
    · have cc' : ¬ R.1 ≤ csW w i j := by omega
      rw [if_pos cc] at f1 ⊢
      simp (disch := first | exact jm_lt0 | (apply jm_ltx; (repeat (first | exact jw_0 | apply jw_i | apply jw_r | apply jw_l)); omega) | omega | assumption | exact sa_432 | exact n32_inA sb_432 (by omega) (by omega) | (refine n32_inA (by assumption) ?_ ?_ <;> omega) | exact bi01 | (rw [sa_432]; omega) | decide) only [sX12_swap_0, sX12_swap_1, sX12_swap_2, sX12_swap_5, sX12_swap_6, sX12_swap_9, sX12_swap_10, sX12_swap_11, sX12_swap_12, sX12_swap_15, sX12_swap_16, sX12_swap_17, sX12_swap_21, sX12_swap_22, sX12_swap_25, sX12_swap_28, sX12_swap_30, sX12_swap_31, sX12_swap_32, sX12_swap_36, sX12_swap_37, sX12_swap_40, sX12_swap_43, sX12_swap_44, sX12_swap_46, sX12_swap_49, sX12_swap_50, sX12_swap_52, sX12_swap_55, sX12_swap_56, sX12_swap_59, sX12_swap_61, sX12_swap_63, sX12_swap_64, sX12_swap_65, sX12_swap_68, kX12_swap_71_AIJNIIJN, sX12_swap_71, sX12_swap_73, sX12_swap_75, sX12_swap_76, sX12_swap_78, sX12_swap_79, sX12_swap_80, sX12_swap_82, kX12_swap_83_AIJNIIJN, sX12_swap_83, sX12_swap_86, kX12_swap_89_AIJNIINN, sX12_swap_89, sX12_swap_92, kX12_swap_95_AIJNINNN, sX12_swap_95, sX12_swap_96, evK_n, evK_v, evK_x, gI_pI, gJ_pI, gR_pI, gI_pJ, gJ_pJ, gR_pJ, gI_pR, gJ_pR, gR_pR, if_true, if_false, not_true_eq_false, not_false_eq_true, and_true, true_and, and_false, false_and, and_self, or_true, true_or, or_false, false_or, or_self, ne_eq, Decidable.not_not, Nat.reduceEqDiff, Nat.reduceEqDiff, n32_le, n32_lt, n32_add, n32_mul, n32_cl, sa_432, sb_432, h18, g1, f2', n64_clt, hlt, cc]
      exact f1
    · have cc' : R.1 ≤ csW w i j := by omega
      rw [if_neg cc] at f1 ⊢
      simp (disch := first | exact jm_lt0 | (apply jm_ltx; (repeat (first | exact jw_0 | apply jw_i | apply jw_r | apply jw_l)); omega) | omega | assumption | exact sa_432 | exact n32_inA sb_432 (by omega) (by omega) | (refine n32_inA (by assumption) ?_ ?_ <;> omega) | exact bi01 | (rw [sa_432]; omega) | decide) only [sX12_swap_0, sX12_swap_1, sX12_swap_2, sX12_swap_5, sX12_swap_6, sX12_swap_9, sX12_swap_10, sX12_swap_11, sX12_swap_12, sX12_swap_15, sX12_swap_16, sX12_swap_17, sX12_swap_21, sX12_swap_22, sX12_swap_25, sX12_swap_28, sX12_swap_30, sX12_swap_31, sX12_swap_32, sX12_swap_36, sX12_swap_37, sX12_swap_40, sX12_swap_43, sX12_swap_44, sX12_swap_46, sX12_swap_49, sX12_swap_50, sX12_swap_52, sX12_swap_55, sX12_swap_56, sX12_swap_59, sX12_swap_61, sX12_swap_63, sX12_swap_64, sX12_swap_65, sX12_swap_68, kX12_swap_71_AIJNIIJN, sX12_swap_71, sX12_swap_73, sX12_swap_75, sX12_swap_76, sX12_swap_78, sX12_swap_79, sX12_swap_80, sX12_swap_82, kX12_swap_83_AIJNIIJN, sX12_swap_83, sX12_swap_86, kX12_swap_89_AIJNIINN, sX12_swap_89, sX12_swap_92, kX12_swap_95_AIJNINNN, sX12_swap_95, sX12_swap_96, evK_n, evK_v, evK_x, gI_pI, gJ_pI, gR_pI, gI_pJ, gJ_pJ, gR_pJ, gI_pR, gJ_pR, gR_pR, if_true, if_false, not_true_eq_false, not_false_eq_true, and_true, true_and, and_false, false_and, and_self, or_true, true_or, or_false, false_or, or_self, ne_eq, Decidable.not_not, Nat.reduceEqDiff, Nat.reduceEqDiff, n32_le, n32_lt, n32_add, n32_mul, n32_cl, sa_432, sb_432, h18, g1, f2', n64_clt, hlt, cc]
      exact f1
theorem m_swO {n : Nat} {t0 : fm_S} (hw : wOK w) (hn : n ≤ 6) (h7 : wT w 7 = n) (hP : ∀ i j, i < 6 → j < 6 → i ≠ j → PM (pI (pI t0 432 47 (Int32.ofNat i)) 432 48 (Int32.ofNat j)) (opt w 6 (prN i j)) false) : ∀ (m i : Nat) (R : Nat × Int32) (t : fm_S), i + m = n → R.1 < BIG → MI t w G → OPe 47 48 t0 t → ∃ t', ev g (d + 35) mX12_swap 19 [some (.ref (432 : Nat)), some (.int R.2), some (.long (Int64.ofNat R.1)), none, some (.int (Int32.ofNat i)), none, none, none] [] t = some (.inl (some (.int (swO w n m i R).2)), t') ∧ MI t' w G ∧ FM pM qMT t t' := by
  intro m
  induction m with
  | zero =>
    intro i R t hi hR hM hO
    have hil : i = n := by omega
    subst hil
    have h18 := hM.2.2.1.2.2.1
    rw [h7] at h18
    refine ⟨t, ?_, hM, FM.rf⟩
    rw [sX12_swap_19]
    simp (disch := first | exact jm_lt0 | (apply jm_ltx; (repeat (first | exact jw_0 | apply jw_i | apply jw_r | apply jw_l)); omega) | omega | assumption | exact sa_432 | exact n32_inA sb_432 (by omega) (by omega) | (refine n32_inA (by assumption) ?_ ?_ <;> omega) | exact bi01 | (rw [sa_432]; omega) | decide) only [sX12_swap_0, sX12_swap_1, sX12_swap_2, sX12_swap_5, sX12_swap_6, sX12_swap_9, sX12_swap_10, sX12_swap_11, sX12_swap_12, sX12_swap_15, sX12_swap_16, sX12_swap_17, sX12_swap_21, sX12_swap_22, sX12_swap_25, sX12_swap_28, sX12_swap_30, sX12_swap_31, sX12_swap_32, sX12_swap_36, sX12_swap_37, sX12_swap_40, sX12_swap_43, sX12_swap_44, sX12_swap_46, sX12_swap_49, sX12_swap_50, sX12_swap_52, sX12_swap_55, sX12_swap_56, sX12_swap_59, sX12_swap_61, sX12_swap_63, sX12_swap_64, sX12_swap_65, sX12_swap_68, kX12_swap_71_AIJNIIJN, sX12_swap_71, sX12_swap_73, sX12_swap_75, sX12_swap_76, sX12_swap_78, sX12_swap_79, sX12_swap_80, sX12_swap_82, kX12_swap_83_AIJNIIJN, sX12_swap_83, sX12_swap_86, kX12_swap_89_AIJNIINN, sX12_swap_89, sX12_swap_92, kX12_swap_95_AIJNINNN, sX12_swap_95, sX12_swap_96, evK_n, evK_v, evK_x, gI_pI, gJ_pI, gR_pI, gI_pJ, gJ_pJ, gR_pJ, gI_pR, gJ_pR, gR_pR, if_true, if_false, not_true_eq_false, not_false_eq_true, and_true, true_and, and_false, false_and, and_self, or_true, true_or, or_false, false_or, or_self, ne_eq, Decidable.not_not, Nat.reduceEqDiff, Nat.reduceEqDiff, n32_le, n32_lt, n32_add, n32_mul, n32_cl, sa_432, sb_432, h18, Nat.le_refl, swO]
  | succ m ih =>
    intro i R t hi hR hM hO
    have g1 : ¬ n ≤ i := by omega
    have h18 := hM.2.2.1.2.2.1
    rw [h7] at h18
    obtain ⟨t1, e1, a1, a2, a3⟩ := m_swI (g := g) (d := d) (n := n) (i := i) (t0 := t0) hw hn h7 (by omega) hP (n - (i + 1)) (i + 1) R t (by omega) (by omega) hR hM hO
    obtain ⟨t2, e2, b1, b2⟩ := ih (i + 1) _ t1 (by omega) (swI_lt (i := i) hw (by omega) (n - (i + 1)) (i + 1) R (by omega) (by omega) hR) a1 a3
    refine ⟨t2, ?_, b1, a2.tr b2⟩
    rw [swO]
    refine Eq.trans ?_ (e1.trans e2)
    rw [sX12_swap_19]
    simp (disch := first | exact jm_lt0 | (apply jm_ltx; (repeat (first | exact jw_0 | apply jw_i | apply jw_r | apply jw_l)); omega) | omega | assumption | exact sa_432 | exact n32_inA sb_432 (by omega) (by omega) | (refine n32_inA (by assumption) ?_ ?_ <;> omega) | exact bi01 | (rw [sa_432]; omega) | decide) only [sX12_swap_0, sX12_swap_1, sX12_swap_2, sX12_swap_5, sX12_swap_6, sX12_swap_9, sX12_swap_10, sX12_swap_11, sX12_swap_12, sX12_swap_15, sX12_swap_16, sX12_swap_17, sX12_swap_21, sX12_swap_22, sX12_swap_25, sX12_swap_28, sX12_swap_30, sX12_swap_31, sX12_swap_32, sX12_swap_36, sX12_swap_37, sX12_swap_40, sX12_swap_43, sX12_swap_44, sX12_swap_46, sX12_swap_49, sX12_swap_50, sX12_swap_52, sX12_swap_55, sX12_swap_56, sX12_swap_59, sX12_swap_61, sX12_swap_63, sX12_swap_64, sX12_swap_65, sX12_swap_68, kX12_swap_71_AIJNIIJN, sX12_swap_71, sX12_swap_73, sX12_swap_75, sX12_swap_76, sX12_swap_78, sX12_swap_79, sX12_swap_80, sX12_swap_82, kX12_swap_83_AIJNIIJN, sX12_swap_83, sX12_swap_86, kX12_swap_89_AIJNIINN, sX12_swap_89, sX12_swap_92, kX12_swap_95_AIJNINNN, sX12_swap_95, sX12_swap_96, evK_n, evK_v, evK_x, gI_pI, gJ_pI, gR_pI, gI_pJ, gJ_pJ, gR_pJ, gI_pR, gJ_pR, gR_pR, if_true, if_false, not_true_eq_false, not_false_eq_true, and_true, true_and, and_false, false_and, and_self, or_true, true_or, or_false, false_or, or_self, ne_eq, Decidable.not_not, Nat.reduceEqDiff, Nat.reduceEqDiff, n32_le, n32_lt, n32_add, n32_mul, n32_cl, sa_432, sb_432, h18, g1]
theorem opn_swap (h : Inv c s t) : OpN g (d + 35) mX11_swap mX12_swap [some (.ref (0 : Nat)), none, none, none, none, none, none, none, none] [some (.ref (432 : Nat)), none, none, none, none, none, none, none] c s t := by
  obtain ⟨w, G, ver, hC, hM, hG, hw, hv⟩ := h
  have hF := hC.1.1
  have hM0 := hM.t0
  have hn6 : wT w 7 ≤ 6 := hw.1.2.2.2.2.2.2.2.2
  have r01 := hF.u 0 1 3 (by decide +kernel)
  have r06 := hF.u 0 6 306 (by decide +kernel)
  have ok0 : cOK 0 0 := Or.inl ⟨rfl, rfl⟩
  obtain ⟨s1, e1, q1⟩ := c6_costBy (g := g) (d := d + 28) hC.1 (ch := 0) (de := 0) ok0
  obtain ⟨t1, f1, y1, hM1, hP1⟩ := mq_plain (g := g) (d := d + 34) hM0
  obtain ⟨t2, f2, y2, hM2, p2⟩ := mq_cost (g := g) (d := d + 28) hM1 hw hP1 (o00_ok hw)
  have hb0 : costS w (opt w 0 0) < BIG := cost_lt hw (opt_ok hw ok0)
  obtain ⟨s2, e2, q2⟩ := c_swO (g := g) (d := d) (n := wT w 7) hw hn6 (wT w 7) 0 (costS w (opt w 0 0), -1) s1 (by omega) hb0 q1.2
  obtain ⟨t3, f3, hM3, y3⟩ := m_swO (g := g) (d := d) (n := wT w 7) (t0 := t1) hw hn6 rfl (fun i j hi hj hne => PM.sw (p := i) (o := j) hP1.o00 hi hj hne) (wT w 7) 0 (costS w (opt w 0 0), -1) t2 (by omega) hb0 hM2 (fun k h1 h2 h3 h4 => p2 k h1 h2)
  have f2' : ev g (d + 34) mX12_costNow 0 [some (.ref (432 : Nat)), none, none, none] [] t1 = some (.inl (some (.long (Int64.ofNat (costS w (opt w 0 0))))), t2) := f2
  have yy := (y1.tr y2).tr y3
  have qq := q1.tr q2
  refine ⟨(swO w (wT w 7) (wT w 7) 0 (costS w (opt w 0 0), -1)).2, s2, t3, ?_, ?_, ⟨w, G, ver, hC.q hG qq, hM3, hG, hw, by omega⟩, qq.clk, t0_mlk.tr (go_mlk yy)⟩
  · refine Eq.trans ?_ e2
    simp (disch := first | exact jm_lt0 | (apply jm_ltx; (repeat (first | exact jw_0 | apply jw_i | apply jw_r | apply jw_l)); omega) | omega | assumption | exact sa_0 | exact sa_3 | exact sa_306 | exact n32_inA sb_0 (by omega) (by omega) | exact n32_inA sb_3 (by omega) (by omega) | exact n32_inA sb_306 (by omega) (by omega) | (refine n32_inA (by assumption) ?_ ?_ <;> omega) | exact bi01 | (rw [sa_0]; omega) | (rw [sa_3]; omega) | (rw [sa_306]; omega) | decide) only [sX11_swap_0, sX11_swap_1, sX11_swap_4, sX11_swap_5, sX11_swap_6, sX11_swap_9, sX11_swap_10, sX11_swap_13, sX11_swap_14, sX11_swap_15, sX11_swap_18, sX11_swap_19, sX11_swap_20, sX11_swap_22, sX11_swap_23, sX11_swap_27, sX11_swap_28, sX11_swap_31, sX11_swap_33, sX11_swap_34, sX11_swap_35, sX11_swap_39, sX11_swap_40, sX11_swap_43, sX11_swap_44, sX11_swap_47, sX11_swap_48, sX11_swap_51, sX11_swap_53, sX11_swap_55, sX11_swap_57, sX11_swap_60, sX11_swap_63, sX11_swap_65, sX11_swap_67, sX11_swap_68, sX11_swap_69, sX11_swap_72, sX11_swap_74, sX11_swap_75, sX11_swap_77, sX11_swap_79, sX11_swap_80, sX11_swap_82, sX11_swap_83, kX11_swap_85_AIJNIIIJN, sX11_swap_85, sX11_swap_88, kX11_swap_91_AIJNIIINN, sX11_swap_91, sX11_swap_94, kX11_swap_97_AIJNIINNN, sX11_swap_97, sX11_swap_99, evK_n, evK_v, evK_x, gI_pI, gJ_pI, gR_pI, gI_pJ, gJ_pJ, gR_pJ, gI_pR, gJ_pR, gR_pR, if_true, if_false, not_true_eq_false, not_false_eq_true, and_true, true_and, and_false, false_and, and_self, or_true, true_or, or_false, false_or, or_self, ne_eq, Decidable.not_not, Nat.reduceEqDiff, Nat.reduceEqDiff, sa_0, sb_0, sa_3, sb_3, sa_306, sb_306, c11_people hF hC.1.2.2.1 hw, r01, r06, e1]
  · refine Eq.trans ?_ f3
    simp (disch := first | exact jm_lt0 | (apply jm_ltx; (repeat (first | exact jw_0 | apply jw_i | apply jw_r | apply jw_l)); omega) | omega | assumption | exact sa_432 | exact n32_inA sb_432 (by omega) (by omega) | (refine n32_inA (by assumption) ?_ ?_ <;> omega) | exact bi01 | (rw [sa_432]; omega) | decide) only [sX12_swap_0, sX12_swap_1, sX12_swap_2, sX12_swap_5, sX12_swap_6, sX12_swap_9, sX12_swap_10, sX12_swap_11, sX12_swap_12, sX12_swap_15, sX12_swap_16, sX12_swap_17, sX12_swap_21, sX12_swap_22, sX12_swap_25, sX12_swap_28, sX12_swap_30, sX12_swap_31, sX12_swap_32, sX12_swap_36, sX12_swap_37, sX12_swap_40, sX12_swap_43, sX12_swap_44, sX12_swap_46, sX12_swap_49, sX12_swap_50, sX12_swap_52, sX12_swap_55, sX12_swap_56, sX12_swap_59, sX12_swap_61, sX12_swap_63, sX12_swap_64, sX12_swap_65, sX12_swap_68, kX12_swap_71_AIJNIIJN, sX12_swap_71, sX12_swap_73, sX12_swap_75, sX12_swap_76, sX12_swap_78, sX12_swap_79, sX12_swap_80, sX12_swap_82, kX12_swap_83_AIJNIIJN, sX12_swap_83, sX12_swap_86, kX12_swap_89_AIJNIINN, sX12_swap_89, sX12_swap_92, kX12_swap_95_AIJNINNN, sX12_swap_95, sX12_swap_96, evK_n, evK_v, evK_x, gI_pI, gJ_pI, gR_pI, gI_pJ, gJ_pJ, gR_pJ, gI_pR, gJ_pR, gR_pR, if_true, if_false, not_true_eq_false, not_false_eq_true, and_true, true_and, and_false, false_and, and_self, or_true, true_or, or_false, false_or, or_self, ne_eq, Decidable.not_not, Nat.reduceEqDiff, Nat.reduceEqDiff, sa_432, sb_432, f1, f2']
end CN0
