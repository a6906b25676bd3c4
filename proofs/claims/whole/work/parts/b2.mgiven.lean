/-! the model: GIVEN the BOOK; least terms; states counted -/
theorem m_goesGiven {g : fm_g} {d v : Nat} {w : WD} {t : fm_S} (hF : FX t) (hO : OMx t) (hW : MW t w) (hw : wOK w) (hv : v < wn w) : ∃ t', ev g (d + 5) mX12_goesGiven 0 [some (.ref (432 : Nat)), some (.int (Int32.ofNat v))] [] t = some (.inl none, t') ∧ FM pM qMT t t' ∧ OMw t' (gDs w v) (v + 1) := by
  have hn : wn w ≤ 24 := hw.2.2.1
  have hc : cOK 0 0 := Or.inl ⟨rfl, rfl⟩
  have ho : oOK (o00 w) := opt_ok hw hc
  obtain ⟨t1, e1, hM1, hP1⟩ := m_plain (g := g) (d := d + 4) hF hW
  have hF1 := hM1.fx hF
  have hM1' : FM pM qMT t t1 := hM1.mono (fun b j q => pMp_pM q) (fun _ _ q => q.elim)
  have hP2 : PM (pI t1 432 50 (Int32.ofNat 1)) (o00 w) true := by
    obtain ⟨h1, h2, h3, h4, h5, h6⟩ := hP1
    refine ⟨by rw [gI_pI, if_neg (by omega), h1], by rw [gI_pI, if_neg (by omega), h2], by rw [gI_pI, if_neg (by omega), h3], by rw [gI_pI, if_neg (by omega), h4], by rw [gI_pI, if_pos ⟨rfl, rfl⟩]; rfl, ?_⟩
    rw [gI_pI, if_neg (by omega), gI_pI, if_neg (by omega), gI_pI, if_neg (by omega)]
    exact h6
  have hM2 : FM pM qMT t (pI t1 432 50 (Int32.ofNat 1)) := hM1'.tr (FM.pI (by unfold pM; omega))
  have hO2 : OMx (pI t1 432 50 (Int32.ofNat 1)) := by
    obtain ⟨l, D, a1, a2⟩ := hO
    refine ⟨l, D, a1.of ?_ (fun j => ?_) (fun j => ?_), a2.of ?_ (fun j => ?_) (fun j => ?_)⟩
    · rw [gI_pI, if_neg (by omega), hM1.2.1 _ _ (by unfold pMp; omega)]
    · rw [gI_pI, if_neg (by omega), hM1.2.1 _ _ (by unfold pMp; omega)]
    · rw [gJ_pI, hM1.2.2 _ _ (fun h => h)]
    · rw [gI_pI, if_neg (by omega), hM1.2.1 _ _ (by unfold pMp; omega)]
    · rw [gI_pI, if_neg (by omega), hM1.2.1 _ _ (by unfold pMp; omega)]
    · rw [gJ_pI, hM1.2.2 _ _ (fun h => h)]
  obtain ⟨t3, e3, hM3, hO3, hC3, hV3, -⟩ := m_goes (g := g) (d := d) hF1.pI hO2 (hW.of hM2.2.1) hw hP2 ho (show v ≤ wn w by omega) (hx_pred (show v ≤ 24 by omega))
  have hM03 := hM2.tr hM3
  obtain ⟨i1, i2, i3⟩ := md_ok (bk := true) hw ho v (by omega)
  obtain ⟨t4, e4, hM4, hO4, -⟩ := m_comes (g := g) (d := d + 1) (hM03.fx hF) hO3 i3 i1 i2 (hW.of hM03.2.1) hw hv (hP2.of hV3) ho
  refine ⟨t4, ?_, hM03.tr (FM.mt hM4), ?_⟩
  · simp (disch := first | exact jm_lt0 | (apply jm_ltx; (repeat (first | exact jw_0 | apply jw_i | apply jw_r | apply jw_l)); omega) | omega | assumption | exact sa_432 | exact n32_inA sb_432 (by omega) (by omega) | (refine n32_inA (by assumption) ?_ ?_ <;> omega) | exact bi01 | (rw [sa_432]; omega) | decide) only [sX12_goesGiven_0, sX12_goesGiven_1, sX12_goesGiven_4, sX12_goesGiven_5, sX12_goesGiven_6, sX12_goesGiven_9, sX12_goesGiven_10, sX12_goesGiven_11, sX12_goesGiven_12, sX12_goesGiven_13, sX12_goesGiven_16, sX12_goesGiven_17, sX12_goesGiven_18, sX12_goesGiven_21, evK_n, evK_v, evK_x, gI_pI, gJ_pI, gR_pI, gI_pJ, gJ_pJ, gR_pJ, gI_pR, gJ_pR, gR_pR, if_true, if_false, not_true_eq_false, not_false_eq_true, and_true, true_and, and_false, false_and, and_self, or_true, true_or, or_false, false_or, or_self, ne_eq, Decidable.not_not, Nat.reduceEqDiff, Nat.reduceEqDiff, sa_432, sb_432, e1, e3, e4]
  · have e : zCome w (o00 w) true v (zMd w (o00 w) true v).1 = gDs w v := by
      rw [zMd_gb hw (by unfold o00 opt; simp) v (by omega)]
      rfl
    rw [← e]
    exact hO4
theorem gDs_ok {w : WD} {v : Nat} (hw : wOK w) (hv : v < wn w) : SUP v (gDs w v) ∧ UNS (gDs w v) ∧ sumN (gDs w v) NS ≤ ONE := by
  have ho : oOK (o00 w) := opt_ok hw (Or.inl ⟨rfl, rfl⟩)
  obtain ⟨h1, h2, h3⟩ := gb_ok hw ho v (by omega)
  obtain ⟨f1, f2, f3⟩ := fall_ok ho.1 h1 h2
  obtain ⟨g1, g2, g3⟩ := fil_ok (w := w) (v := v) f1 f2
  rw [f3] at g3
  exact And.intro g1 (And.intro g2 (Nat.le_trans g3 h3))
theorem m_gcdLoop {g : fm_g} {d a b : Nat} {wh : Int32} {t : fm_S} : ∀ (n x y : Nat), y ≤ n → x < BIG → y < BIG → ev g d mX12_least 6 [some (.long (Int64.ofNat a)), none, some (.long (Int64.ofNat b)), none, some (.int wh), some (.long (Int64.ofNat x)), none, some (.long (Int64.ofNat y)), none, none, none] [] t = ev g d mX12_least 31 [some (.long (Int64.ofNat a)), none, some (.long (Int64.ofNat b)), none, some (.int wh), some (.long (Int64.ofNat (Nat.gcd x y))), none, none, none, none, none] [] t := by
  have hB2 : BIG = 4611686018427387904 := rfl
  intro n
  induction n with
  | zero =>
    intro x y hy hx hyb
    have : y = 0 := by omega
    subst this
    rw [Nat.gcd_zero_right, sX12_least_6]
    simp (disch := first | exact jm_lt0 | (apply jm_ltx; (repeat (first | exact jw_0 | apply jw_i | apply jw_r | apply jw_l)); omega) | omega | assumption | (refine n32_inA (by assumption) ?_ ?_ <;> omega) | exact bi01 | decide) only [sX12_least_0, sX12_least_1, sX12_least_3, sX12_least_4, kX12_least_6_JNJNIJNJNJN, sX12_least_8, sX12_least_9, sX12_least_10, sX12_least_13, sX12_least_15, sX12_least_17, sX12_least_18, sX12_least_20, sX12_least_22, sX12_least_24, sX12_least_26, sX12_least_28, kX12_least_31_JNJNIJNJNNN, sX12_least_33, sX12_least_36, sX12_least_37, kX12_least_40_JNJNIJNNNNN, sX12_least_40, kX12_least_41_JNJNIJNNNNN, kX12_least_41_NNJNNJNNNNN, sX12_least_41, sX12_least_43, sX12_least_44, evK_n, evK_v, evK_x, gI_pI, gJ_pI, gR_pI, gI_pJ, gJ_pJ, gR_pJ, gI_pR, gJ_pR, gR_pR, if_true, if_false, not_true_eq_false, not_false_eq_true, and_true, true_and, and_false, false_and, and_self, or_true, true_or, or_false, false_or, or_self, ne_eq, Decidable.not_not, Nat.reduceEqDiff, Nat.reduceEqDiff, n64_ceq]
  | succ n ih =>
    intro x y hy hx hyb
    by_cases c : y = 0
    · subst c
      rw [Nat.gcd_zero_right, sX12_least_6]
      simp (disch := first | exact jm_lt0 | (apply jm_ltx; (repeat (first | exact jw_0 | apply jw_i | apply jw_r | apply jw_l)); omega) | omega | assumption | (refine n32_inA (by assumption) ?_ ?_ <;> omega) | exact bi01 | decide) only [sX12_least_0, sX12_least_1, sX12_least_3, sX12_least_4, kX12_least_6_JNJNIJNJNJN, sX12_least_8, sX12_least_9, sX12_least_10, sX12_least_13, sX12_least_15, sX12_least_17, sX12_least_18, sX12_least_20, sX12_least_22, sX12_least_24, sX12_least_26, sX12_least_28, kX12_least_31_JNJNIJNJNNN, sX12_least_33, sX12_least_36, sX12_least_37, kX12_least_40_JNJNIJNNNNN, sX12_least_40, kX12_least_41_JNJNIJNNNNN, kX12_least_41_NNJNNJNNNNN, sX12_least_41, sX12_least_43, sX12_least_44, evK_n, evK_v, evK_x, gI_pI, gJ_pI, gR_pI, gI_pJ, gJ_pJ, gR_pJ, gI_pR, gJ_pR, gR_pR, if_true, if_false, not_true_eq_false, not_false_eq_true, and_true, true_and, and_false, false_and, and_self, or_true, true_or, or_false, false_or, or_self, ne_eq, Decidable.not_not, Nat.reduceEqDiff, Nat.reduceEqDiff, n64_ceq]
    · have hm := Nat.mod_lt x (show 0 < y by omega)
      have h1 := ih y (x % y) (by omega) hyb (by omega)
      have e : Nat.gcd x y = Nat.gcd y (x % y) := by rw [Nat.gcd_comm x y, Nat.gcd_rec y x, Nat.gcd_comm]
      have hz : ¬ Int64.ofNat y = 0 := by rw [n64_eq0 hyb]; exact c
      have hz' : ¬ Int64.ofNat y = Int64.ofNat 0 := hz
      have hmod := n64_mod (a := x) (b := y) (by omega) (by omega)
      rw [e, sX12_least_6]
      simp (disch := first | exact jm_lt0 | (apply jm_ltx; (repeat (first | exact jw_0 | apply jw_i | apply jw_r | apply jw_l)); omega) | omega | assumption | (refine n32_inA (by assumption) ?_ ?_ <;> omega) | exact bi01 | decide) only [sX12_least_0, sX12_least_1, sX12_least_3, sX12_least_4, kX12_least_6_JNJNIJNJNJN, sX12_least_8, sX12_least_9, sX12_least_10, sX12_least_13, sX12_least_15, sX12_least_17, sX12_least_18, sX12_least_20, sX12_least_22, sX12_least_24, sX12_least_26, sX12_least_28, kX12_least_31_JNJNIJNJNNN, sX12_least_33, sX12_least_36, sX12_least_37, kX12_least_40_JNJNIJNNNNN, sX12_least_40, kX12_least_41_JNJNIJNNNNN, kX12_least_41_NNJNNJNNNNN, sX12_least_41, sX12_least_43, sX12_least_44, evK_n, evK_v, evK_x, gI_pI, gJ_pI, gR_pI, gI_pJ, gJ_pJ, gR_pJ, gI_pR, gJ_pR, gR_pR, if_true, if_false, not_true_eq_false, not_false_eq_true, and_true, true_and, and_false, false_and, and_self, or_true, true_or, or_false, false_or, or_self, ne_eq, Decidable.not_not, Nat.reduceEqDiff, Nat.reduceEqDiff, n64_ceq, hz', hz, hmod]
      exact h1
theorem m_least {g : fm_g} {d a b : Nat} {wh : Nat} {t : fm_S} (ha : a < BIG) (hb : b < BIG) (h0 : 0 < Nat.gcd a b) (hwh : wh < 2) : ev g d mX12_least 0 [some (.long (Int64.ofNat a)), none, some (.long (Int64.ofNat b)), none, some (.int (Int32.ofNat wh)), none, none, none, none, none, none] [] t = some (.inl (some (.long (Int64.ofNat ((if wh = 0 then a else b) / Nat.gcd a b)))), t) := by
  have hB2 : BIG = 4611686018427387904 := rfl
  have h1 := m_gcdLoop (g := g) (d := d) (a := a) (b := b) (wh := Int32.ofNat wh) (t := t) b a b (Nat.le_refl _) ha hb
  have hg : Nat.gcd a b < BIG := by
    rcases Nat.eq_zero_or_pos a with h | h
    · subst h
      rw [Nat.gcd_zero_left]
      exact hb
    · exact Nat.lt_of_le_of_lt (Nat.gcd_le_left b h) ha
  have hz : ¬ Int64.ofNat (Nat.gcd a b) = 0 := by rw [n64_eq0 hg]; omega
  have q1 : Int64.ofNat a / Int64.ofNat (Nat.gcd a b) = Int64.ofNat (a / Nat.gcd a b) := n64_div (by omega) (by omega)
  have q2 : Int64.ofNat b / Int64.ofNat (Nat.gcd a b) = Int64.ofNat (b / Nat.gcd a b) := n64_div (by omega) (by omega)
  rw [sX12_least_0, sX12_least_1, sX12_least_3, sX12_least_4, h1]
  have : wh = 0 ∨ wh = 1 := by omega
  rcases this with rfl | rfl
  · simp (disch := first | exact jm_lt0 | (apply jm_ltx; (repeat (first | exact jw_0 | apply jw_i | apply jw_r | apply jw_l)); omega) | omega | assumption | (refine n32_inA (by assumption) ?_ ?_ <;> omega) | exact bi01 | decide) only [sX12_least_0, sX12_least_1, sX12_least_3, sX12_least_4, kX12_least_6_JNJNIJNJNJN, sX12_least_8, sX12_least_9, sX12_least_10, sX12_least_13, sX12_least_15, sX12_least_17, sX12_least_18, sX12_least_20, sX12_least_22, sX12_least_24, sX12_least_26, sX12_least_28, kX12_least_31_JNJNIJNJNNN, sX12_least_31, sX12_least_33, sX12_least_36, sX12_least_37, kX12_least_40_JNJNIJNNNNN, sX12_least_40, kX12_least_41_JNJNIJNNNNN, kX12_least_41_NNJNNJNNNNN, sX12_least_41, sX12_least_43, sX12_least_44, evK_n, evK_v, evK_x, gI_pI, gJ_pI, gR_pI, gI_pJ, gJ_pJ, gR_pJ, gI_pR, gJ_pR, gR_pR, if_true, if_false, not_true_eq_false, not_false_eq_true, and_true, true_and, and_false, false_and, and_self, or_true, true_or, or_false, false_or, or_self, ne_eq, Decidable.not_not, Nat.reduceEqDiff, Nat.reduceEqDiff, z32, hz, q1]
  · simp (disch := first | exact jm_lt0 | (apply jm_ltx; (repeat (first | exact jw_0 | apply jw_i | apply jw_r | apply jw_l)); omega) | omega | assumption | (refine n32_inA (by assumption) ?_ ?_ <;> omega) | exact bi01 | decide) only [sX12_least_0, sX12_least_1, sX12_least_3, sX12_least_4, kX12_least_6_JNJNIJNJNJN, sX12_least_8, sX12_least_9, sX12_least_10, sX12_least_13, sX12_least_15, sX12_least_17, sX12_least_18, sX12_least_20, sX12_least_22, sX12_least_24, sX12_least_26, sX12_least_28, kX12_least_31_JNJNIJNJNNN, sX12_least_31, sX12_least_33, sX12_least_36, sX12_least_37, kX12_least_40_JNJNIJNNNNN, sX12_least_40, kX12_least_41_JNJNIJNNNNN, kX12_least_41_NNJNNJNNNNN, sX12_least_41, sX12_least_43, sX12_least_44, evK_n, evK_v, evK_x, gI_pI, gJ_pI, gR_pI, gI_pJ, gJ_pJ, gR_pJ, gI_pR, gJ_pR, gR_pR, if_true, if_false, not_true_eq_false, not_false_eq_true, and_true, true_and, and_false, false_and, and_self, or_true, true_or, or_false, false_or, or_self, ne_eq, Decidable.not_not, Nat.reduceEqDiff, Nat.reduceEqDiff, show ¬ (Int32.ofNat 1 = 0) by decide, show ¬ ((1 : Nat) = 0) by decide, hz, q2]
def shr (x all wh : Nat) : Nat := if all = 0 then wh else (if wh = 0 then x else all) / Nat.gcd x all
theorem m_share {g : fm_g} {d u x wh : Nat} {D : Nat → Nat} {t : fm_S} (hF : FX t) (hO : OMw t D u) (hD : sumN D NS ≤ ONE) (hx : x < BIG) (hwh : wh < 2) : ev g (d + 1) mX12_share 0 [some (.ref (432 : Nat)), some (.long (Int64.ofNat x)), none, some (.int (Int32.ofNat wh)), none, none] [] t = some (.inl (some (.long (Int64.ofNat (shr x (sumN D NS) wh)))), t) := by
  have hO2 : ONE = 1099511627776 := rfl
  have hB2 : BIG = 4611686018427387904 := rfl
  have e1 := m_all (g := g) (d := d) hF hO hD
  unfold shr
  by_cases c : sumN D NS = 0
  · rw [if_pos c]
    rw [c] at e1
    simp (disch := first | exact jm_lt0 | (apply jm_ltx; (repeat (first | exact jw_0 | apply jw_i | apply jw_r | apply jw_l)); omega) | omega | assumption | exact sa_432 | exact n32_inA sb_432 (by omega) (by omega) | (refine n32_inA (by assumption) ?_ ?_ <;> omega) | exact bi01 | (rw [sa_432]; omega) | decide) only [sX12_share_0, sX12_share_1, sX12_share_4, sX12_share_6, sX12_share_8, sX12_share_9, sX12_share_10, sX12_share_13, sX12_share_14, sX12_share_15, kX12_share_18_AJNIJN, sX12_share_18, sX12_share_19, sX12_share_21, sX12_share_22, kX12_share_25_AJNIJN, kX12_share_25_NJNIJN, sX12_share_25, evK_n, evK_v, evK_x, gI_pI, gJ_pI, gR_pI, gI_pJ, gJ_pJ, gR_pJ, gI_pR, gJ_pR, gR_pR, if_true, if_false, not_true_eq_false, not_false_eq_true, and_true, true_and, and_false, false_and, and_self, or_true, true_or, or_false, false_or, or_self, ne_eq, Decidable.not_not, Nat.reduceEqDiff, Nat.reduceEqDiff, sa_432, sb_432, e1, n64_ceq, n32_64]
  · rw [if_neg c]
    have hz : ¬ Int64.ofNat (sumN D NS) = Int64.ofNat 0 := by rw [n64_eq (by omega) (by decide)]; exact c
    have e2 := m_least (g := g) (d := d) (a := x) (b := sumN D NS) (wh := wh) (t := t) hx (by omega) (Nat.gcd_pos_of_pos_right x (by omega)) hwh
    simp (disch := first | exact jm_lt0 | (apply jm_ltx; (repeat (first | exact jw_0 | apply jw_i | apply jw_r | apply jw_l)); omega) | omega | assumption | exact sa_432 | exact n32_inA sb_432 (by omega) (by omega) | (refine n32_inA (by assumption) ?_ ?_ <;> omega) | exact bi01 | (rw [sa_432]; omega) | decide) only [sX12_share_0, sX12_share_1, sX12_share_4, sX12_share_6, sX12_share_8, sX12_share_9, sX12_share_10, sX12_share_13, sX12_share_14, sX12_share_15, kX12_share_18_AJNIJN, sX12_share_18, sX12_share_19, sX12_share_21, sX12_share_22, kX12_share_25_AJNIJN, kX12_share_25_NJNIJN, sX12_share_25, evK_n, evK_v, evK_x, gI_pI, gJ_pI, gR_pI, gI_pJ, gJ_pJ, gR_pJ, gI_pR, gJ_pR, gR_pR, if_true, if_false, not_true_eq_false, not_false_eq_true, and_true, true_and, and_false, false_and, and_self, or_true, true_or, or_false, false_or, or_self, ne_eq, Decidable.not_not, Nat.reduceEqDiff, Nat.reduceEqDiff, sa_432, sb_432, e1, n64_ceq, hz, e2]
theorem m_statesLoop {g : fm_g} {d u : Nat} {D : Nat → Nat} {l : List Nat} {t : fm_S} (hB : MB t l D) : ∀ (m i : Nat), i + m = l.length → ev g d mX12_states 29 [some (.ref (432 : Nat)), none, some (.int (Int32.ofNat (sumL (fun k => if D k ≠ 0 then 1 else 0) (l.take i)))), some (.int (Int32.ofNat i))] [] t = some (.inl (some (.int (Int32.ofNat (cntS D)))), t) := by
  have hlen := hB.2.1.len
  obtain ⟨x2, x3, x4, x5⟩ := hB.2.1.refs hB.1
  have hO2 : ONE = 1099511627776 := rfl
  intro m
  induction m with
  | zero =>
    intro i hi
    have hil : i = l.length := by omega
    subst hil
    rw [sX12_states_29, List.take_length, hB.all (f := fun k => if D k ≠ 0 then 1 else 0) (fun k hk => if_neg (fun h => h hk))]
    simp (disch := first | exact jm_lt0 | (apply jm_ltx; (repeat (first | exact jw_0 | apply jw_i | apply jw_r | apply jw_l)); omega) | omega | assumption | exact sa_432 | exact n32_inA sb_432 (by omega) (by omega) | (refine n32_inA (by assumption) ?_ ?_ <;> omega) | exact bi01 | (rw [sa_432]; omega) | decide) only [sX12_states_0, sX12_states_1, sX12_states_2, sX12_states_5, sX12_states_6, sX12_states_7, sX12_states_8, sX12_states_11, sX12_states_14, sX12_states_15, sX12_states_16, sX12_states_17, sX12_states_20, sX12_states_21, sX12_states_22, sX12_states_25, sX12_states_26, sX12_states_27, sX12_states_28, kX12_states_29_AIII, sX12_states_30, sX12_states_31, sX12_states_34, sX12_states_37, sX12_states_38, sX12_states_39, sX12_states_42, sX12_states_43, sX12_states_46, sX12_states_47, sX12_states_48, sX12_states_49, sX12_states_50, sX12_states_51, sX12_states_54, sX12_states_55, kX12_states_58_ANII, sX12_states_58, kX12_states_59_ANII, sX12_states_59, sX12_states_60, sX12_states_61, sX12_states_64, kX12_states_67_ANII, sX12_states_67, sX12_states_68, evK_n, evK_v, evK_x, gI_pI, gJ_pI, gR_pI, gI_pJ, gJ_pJ, gR_pJ, gI_pR, gJ_pR, gR_pR, n32_le, if_true, if_false, not_true_eq_false, not_false_eq_true, and_true, true_and, and_false, false_and, and_self, or_true, true_or, or_false, false_or, or_self, ne_eq, Decidable.not_not, Nat.reduceEqDiff, Nat.reduceEqDiff, sa_432, sb_432, x4, Nat.le_refl]
    rfl
  | succ m ih =>
    intro i hi
    have hil : i < l.length := by omega
    have hik : l[i]? = some l[i] := List.getElem?_eq_getElem hil
    obtain ⟨hk, hDk⟩ := hB.it hik
    have hmx := mix_lt hk
    obtain ⟨x6, x7⟩ := x5 i _ hik
    have h := ih (i + 1) (by omega)
    rw [sumL_tk hik, ← n32_add, ← n32_add i 1] at h
    have g1 : ¬ l.length ≤ i := by omega
    have hle : (Int64.ofNat (D l[i]) ≤ Int64.ofNat 0) = (D l[i] = 0) := by
      rw [Int64.ofNat_le_iff_le (by omega) (by decide)]
      exact propext (by omega)
    rw [sX12_states_29]
    by_cases c : D l[i] = 0
    · rw [if_neg (fun h => h c)] at h
      have hle0 : (Int64.ofNat (D l[i]) ≤ Int64.ofNat 0) = True := by rw [hle]; exact eq_true c
      simp (disch := first | exact jm_lt0 | (apply jm_ltx; (repeat (first | exact jw_0 | apply jw_i | apply jw_r | apply jw_l)); omega) | omega | assumption | exact sa_432 | exact sa_451 | exact sa_453 | exact n32_inA sb_432 (by omega) (by omega) | exact n32_inA sb_451 (by omega) (by omega) | exact n32_inA sb_453 (by omega) (by omega) | (refine n32_inA (by assumption) ?_ ?_ <;> omega) | exact bi01 | (rw [sa_432]; omega) | (rw [sa_451]; omega) | (rw [sa_453]; omega) | decide) only [sX12_states_0, sX12_states_1, sX12_states_2, sX12_states_5, sX12_states_6, sX12_states_7, sX12_states_8, sX12_states_11, sX12_states_14, sX12_states_15, sX12_states_16, sX12_states_17, sX12_states_20, sX12_states_21, sX12_states_22, sX12_states_25, sX12_states_26, sX12_states_27, sX12_states_28, kX12_states_29_AIII, sX12_states_30, sX12_states_31, sX12_states_34, sX12_states_37, sX12_states_38, sX12_states_39, sX12_states_42, sX12_states_43, sX12_states_46, sX12_states_47, sX12_states_48, sX12_states_49, sX12_states_50, sX12_states_51, sX12_states_54, sX12_states_55, kX12_states_58_ANII, sX12_states_58, kX12_states_59_ANII, sX12_states_59, sX12_states_60, sX12_states_61, sX12_states_64, kX12_states_67_ANII, sX12_states_67, sX12_states_68, evK_n, evK_v, evK_x, gI_pI, gJ_pI, gR_pI, gI_pJ, gJ_pJ, gR_pJ, gI_pR, gJ_pR, gR_pR, n32_le, n32_cl, if_true, if_false, not_true_eq_false, not_false_eq_true, and_true, true_and, and_false, false_and, and_self, or_true, true_or, or_false, false_or, or_self, ne_eq, Decidable.not_not, Nat.reduceEqDiff, Nat.reduceEqDiff, sa_432, sb_432, sa_451, sb_451, sa_453, sb_453, x2, x3, x4, g1, x6, x7, n64_cle, hle0]
      exact h
    · rw [if_pos c] at h
      simp (disch := first | exact jm_lt0 | (apply jm_ltx; (repeat (first | exact jw_0 | apply jw_i | apply jw_r | apply jw_l)); omega) | omega | assumption | exact sa_432 | exact sa_451 | exact sa_453 | exact n32_inA sb_432 (by omega) (by omega) | exact n32_inA sb_451 (by omega) (by omega) | exact n32_inA sb_453 (by omega) (by omega) | (refine n32_inA (by assumption) ?_ ?_ <;> omega) | exact bi01 | (rw [sa_432]; omega) | (rw [sa_451]; omega) | (rw [sa_453]; omega) | decide) only [sX12_states_0, sX12_states_1, sX12_states_2, sX12_states_5, sX12_states_6, sX12_states_7, sX12_states_8, sX12_states_11, sX12_states_14, sX12_states_15, sX12_states_16, sX12_states_17, sX12_states_20, sX12_states_21, sX12_states_22, sX12_states_25, sX12_states_26, sX12_states_27, sX12_states_28, kX12_states_29_AIII, sX12_states_30, sX12_states_31, sX12_states_34, sX12_states_37, sX12_states_38, sX12_states_39, sX12_states_42, sX12_states_43, sX12_states_46, sX12_states_47, sX12_states_48, sX12_states_49, sX12_states_50, sX12_states_51, sX12_states_54, sX12_states_55, kX12_states_58_ANII, sX12_states_58, kX12_states_59_ANII, sX12_states_59, sX12_states_60, sX12_states_61, sX12_states_64, kX12_states_67_ANII, sX12_states_67, sX12_states_68, evK_n, evK_v, evK_x, gI_pI, gJ_pI, gR_pI, gI_pJ, gJ_pJ, gR_pJ, gI_pR, gJ_pR, gR_pR, n32_le, n32_cl, if_true, if_false, not_true_eq_false, not_false_eq_true, and_true, true_and, and_false, false_and, and_self, or_true, true_or, or_false, false_or, or_self, ne_eq, Decidable.not_not, Nat.reduceEqDiff, Nat.reduceEqDiff, sa_432, sb_432, sa_451, sb_451, sa_453, sb_453, x2, x3, x4, g1, x6, x7, n64_cle, hle, c]
      exact h
