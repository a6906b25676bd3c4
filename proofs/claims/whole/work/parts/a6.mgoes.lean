/-! the model: behind a VISIT, as one begins, all of them -/
section MG
variable {t0 : fm_S} {l : List Nat} {D : Nat → Nat}
def OPq (t t' : fm_S) : Prop := ∀ j, 43 ≤ j → j ≤ 50 → gI t' 432 j = gI t 432 j
theorem OPq.rf {t : fm_S} : OPq t t := fun _ _ _ => rfl
theorem OPq.tr {a b c : fm_S} (x : OPq a b) (y : OPq b c) : OPq a c := fun j h1 h2 => (y j h1 h2).trans (x j h1 h2)
theorem m_goesStep {g : fm_g} {d v h i see : Nat} {w : WD} {dr : Nat → Nat} {wa lo : Nat} {t : fm_S} (hF : FX t) (hO : OMw t D (v + 1)) (hD : sumN D NS ≤ ONE) (hW : MW t w) (hw : wOK w) (hv : v < wn w) (hh : h < 7) (hi : i < hbm (wH w h)) (h44 : gI t 432 44 = Int32.ofNat see) (hs : see ≤ 16) (h467 : F467 t w v) (hsup : SUP (v + 1) D) (hT : CM3 t dr wa lo) : ∃ t', ev g (d + 3) mX12_goesStep 0 [some (.ref (432 : Nat)), some (.int (Int32.ofNat h)), some (.int (Int32.ofNat i)), some (.int (Int32.ofNat v)), none, none, none, none, none, none, none, none] [] t = some (.inl none, t') ∧ FM pM qM t t' ∧ OM t' (pas (cStep (soB w v h i) (wT w 0) see (hbA (wH w h) i) (hbQ (wH w h) i) v) D) ∧ CM3 t' (addP dr (wW w v) (sumN (gD (soB w v h i) (hbA (wH w h) i) (hbQ (wH w h) i) D) NS)) (wa + sumN (gW (soB w v h i) (hbA (wH w h) i) (hbQ (wH w h) i) D) NS) (lo + sumN (gL (soB w v h i) (hbA (wH w h) i) (hbQ (wH w h) i) D) NS) ∧ OPq t t' ∧ F467 t' w v := by
  obtain ⟨l, o1, o2, o3⟩ := hO
  have hB : MB t l D := ⟨hF, o1, o2, hD⟩
  have hOK1 := hw.2.2.2.2.1 h hh
  have hm8 := hOK1.1
  obtain ⟨c1, c2, c3⟩ := hW.2.2.2.2.1 h hh
  obtain ⟨q1, q2, -⟩ := c2 i hi
  have r26 := hF.u 432 26 447 (by decide +kernel)
  obtain ⟨t', f1, f2⟩ := m_stepLoop (g := g) (d := d) (dr := dr) (wa := wa) (lo := lo) hB hW hw hv hh hi h44 hs h467 (fun k _ h0 => (hsup k h0).2) o3 l.length 0 t (by omega) hB.qs (by
    simp only [List.take_zero, sumL, Nat.add_zero, addP_0]
    exact hT) (fun _ _ _ => rfl) h467
  refine ⟨t', ?_, f2⟩
  simp (disch := first | exact jm_lt0 | (apply jm_ltx; (repeat (first | exact jw_0 | apply jw_i | apply jw_r | apply jw_l)); omega) | omega | assumption | exact sa_432 | exact sa_447 | exact n32_inA sb_432 (by omega) (by omega) | exact n32_inA sb_447 (by omega) (by omega) | (refine n32_inA (by assumption) ?_ ?_ <;> omega) | exact bi01 | (rw [sa_432]; omega) | (rw [sa_447]; omega) | decide) only [sX12_goesStep_0, sX12_goesStep_1, sX12_goesStep_4, sX12_goesStep_6, sX12_goesStep_7, sX12_goesStep_8, sX12_goesStep_9, sX12_goesStep_10, sX12_goesStep_11, sX12_goesStep_12, sX12_goesStep_13, sX12_goesStep_15, sX12_goesStep_16, sX12_goesStep_19, sX12_goesStep_21, sX12_goesStep_22, sX12_goesStep_23, sX12_goesStep_24, sX12_goesStep_25, sX12_goesStep_26, sX12_goesStep_27, sX12_goesStep_28, sX12_goesStep_29, sX12_goesStep_30, sX12_goesStep_32, sX12_goesStep_33, sX12_goesStep_37, sX12_goesStep_38, sX12_goesStep_41, sX12_goesStep_44, sX12_goesStep_45, sX12_goesStep_48, sX12_goesStep_50, sX12_goesStep_51, sX12_goesStep_53, sX12_goesStep_54, sX12_goesStep_57, sX12_goesStep_59, sX12_goesStep_60, sX12_goesStep_62, sX12_goesStep_63, sX12_goesStep_65, sX12_goesStep_68, sX12_goesStep_69, sX12_goesStep_70, sX12_goesStep_73, sX12_goesStep_74, sX12_goesStep_75, sX12_goesStep_76, sX12_goesStep_79, sX12_goesStep_82, sX12_goesStep_83, sX12_goesStep_86, sX12_goesStep_88, sX12_goesStep_91, sX12_goesStep_93, sX12_goesStep_96, sX12_goesStep_98, sX12_goesStep_100, sX12_goesStep_101, sX12_goesStep_102, sX12_goesStep_105, sX12_goesStep_106, sX12_goesStep_108, sX12_goesStep_109, sX12_goesStep_111, sX12_goesStep_113, sX12_goesStep_115, sX12_goesStep_116, sX12_goesStep_119, sX12_goesStep_121, sX12_goesStep_122, sX12_goesStep_123, sX12_goesStep_126, sX12_goesStep_127, sX12_goesStep_129, sX12_goesStep_131, sX12_goesStep_132, kX12_goesStep_135_AIIIIIIIJNJN, sX12_goesStep_135, sX12_goesStep_138, kX12_goesStep_141_AIIIIIINNNNN, sX12_goesStep_141, sX12_goesStep_142, sX12_goesStep_145, evK_n, evK_v, evK_x, gI_pI, gJ_pI, gR_pI, gI_pJ, gJ_pJ, gR_pJ, gI_pR, gJ_pR, gR_pR, n32_le, n32_lt, n32_add, n32_mul, n32_cl, if_true, if_false, not_true_eq_false, not_false_eq_true, and_true, true_and, and_false, false_and, and_self, or_true, true_or, or_false, false_or, or_self, ne_eq, Decidable.not_not, Nat.reduceEqDiff, Nat.reduceEqDiff, sa_432, sb_432, sa_447, sb_447, r26, q1, q2]
  exact f1
theorem m_endLoop {g : fm_g} {d v f : Nat} {w : WD} {dr : Nat → Nat} {wa lo : Nat} (hB : MB t0 l D) (hw : wOK w) (hv : v < 24) (hf : f ≤ 12) (h45 : gI t0 432 45 = Int32.ofNat f) : ∀ (m i : Nat) (t : fm_S), i + m = l.length → QS t0 t l D (prt (fun k p => [(fEnd f v k, p)]) D l i) → CM3 t dr (wa + sumL (fun k => (if 0 < f ∧ f ≤ kc k + kd k then kc k else 0) * D k) (l.take i)) lo → OPq t0 t → ∃ t', ev g (d + 2) mX12_ends 2 [some (.ref (432 : Nat)), some (.int (Int32.ofNat v)), some (.int (Int32.ofNat i)), none] [] t = some (.inl none, t') ∧ FM pM qM t0 t' ∧ OM t' (mapD (fEnd f v) D) ∧ CM3 t' dr (wa + sumN (fun k => (if 0 < f ∧ f ≤ kc k + kd k then kc k else 0) * D k) NS) lo ∧ OPq t0 t' := by
  have hF := hB.1
  have hB2 : BIG = 4611686018427387904 := rfl
  have hO2 : ONE = 1099511627776 := rfl
  have hlen := hB.2.1.len
  have hamt : ∀ k, k < NS → amt [(fEnd f v k, D k)] ≤ D k := fun k hk => Nat.le_of_eq amt_1
  intro m
  induction m with
  | zero =>
    intro i t hi hQ hT hV
    have hil : i = l.length := by omega
    subst hil
    obtain ⟨x1, x2, x3, x4, x5⟩ := hQ.refs hF
    obtain ⟨t', f1, f2, f3, f4, f5⟩ := hQ.next (g := g) (d := d + 1) hF
    have hfin : prt (fun k p => [(fEnd f v k, p)]) D l l.length = pas (fun k p => [(fEnd f v k, p)]) D := hB.fin (fun k => amt_1)
    refine ⟨t', ?_, f2, by unfold mapD; rw [← hfin]; exact f3, ?_, fun j h1 h2 => by rw [f5 j (by omega), hV j h1 h2]⟩
    · rw [sX12_ends_2]
      simp (disch := first | exact jm_lt0 | (apply jm_ltx; (repeat (first | exact jw_0 | apply jw_i | apply jw_r | apply jw_l)); omega) | omega | assumption | exact sa_432 | exact n32_inA sb_432 (by omega) (by omega) | (refine n32_inA (by assumption) ?_ ?_ <;> omega) | exact bi01 | (rw [sa_432]; omega) | decide) only [sX12_ends_0, sX12_ends_1, sX12_ends_3, sX12_ends_4, sX12_ends_7, sX12_ends_10, sX12_ends_11, sX12_ends_14, sX12_ends_15, sX12_ends_16, sX12_ends_17, sX12_ends_18, sX12_ends_19, sX12_ends_22, sX12_ends_23, sX12_ends_24, sX12_ends_27, sX12_ends_28, sX12_ends_31, sX12_ends_34, sX12_ends_35, sX12_ends_38, sX12_ends_39, sX12_ends_42, sX12_ends_43, sX12_ends_44, sX12_ends_47, sX12_ends_50, sX12_ends_51, sX12_ends_52, sX12_ends_55, sX12_ends_56, sX12_ends_57, sX12_ends_58, sX12_ends_61, sX12_ends_64, sX12_ends_65, sX12_ends_66, sX12_ends_69, sX12_ends_70, sX12_ends_73, sX12_ends_74, sX12_ends_77, sX12_ends_78, sX12_ends_81, sX12_ends_82, sX12_ends_85, sX12_ends_86, sX12_ends_89, sX12_ends_90, sX12_ends_91, kX12_ends_94_AIII, sX12_ends_94, sX12_ends_97, kX12_ends_100_AIIN, sX12_ends_100, sX12_ends_101, sX12_ends_104, evK_n, evK_v, evK_x, gI_pI, gJ_pI, gR_pI, gI_pJ, gJ_pJ, gR_pJ, gI_pR, gJ_pR, gR_pR, n32_le, n32_lt, n32_add, n32_mul, n32_cl, if_true, if_false, not_true_eq_false, not_false_eq_true, and_true, true_and, and_false, false_and, and_self, or_true, true_or, or_false, false_or, or_self, ne_eq, Decidable.not_not, Nat.reduceEqDiff, Nat.reduceEqDiff, sa_432, sb_432, x4]
      rw [if_pos (by omega), f1, evK_n, sX12_ends_104]
    · rw [List.take_length, hB.all (fun k hk => by rw [hk, Nat.mul_zero])] at hT
      exact hT.cm f4
  | succ m ih =>
    intro i t hi hQ hT hV
    have hil : i < l.length := by omega
    have hik : l[i]? = some l[i] := List.getElem?_eq_getElem hil
    generalize l[i] = k at hik
    obtain ⟨hk, hDk⟩ := hB.it hik
    have hmx := mix_lt hk
    obtain ⟨kl1, kl2, kl3⟩ := k_lt hk
    have hkcd := k_cd k
    obtain ⟨x1, x2, x3, x4, x5⟩ := hQ.refs hF
    obtain ⟨x6, x7⟩ := x5 i k hik
    have hpl := hB.pr (con := fun k p => [(fEnd f v k, p)]) hamt i
    obtain ⟨t1, e1, hQ1, hM1, hH1⟩ := hQ.state (g := g) (d := d + 1) hk
    have hM2 : FM pMh nO t1 (pI t1 432 55 (Int32.ofNat 0)) := FM.pI ⟨rfl, by omega, by omega⟩
    have hQ2 : QS t0 (pI t1 432 55 (Int32.ofNat 0)) l D (prt (fun k p => [(fEnd f v k, p)]) D l i) := hQ1.fm (hM2.mono (fun b j q => by unfold pMh at q; omega) (fun _ _ q => q))
    have hT2 := (hT.cm (CM.h hM1)).cm (CM.h hM2)
    obtain ⟨y1, y2, y3, y4, y5⟩ := hQ2.refs hF
    obtain ⟨y6, y7⟩ := y5 i k hik
    have hV2 : OPq t0 (pI t1 432 55 (Int32.ofNat 0)) := fun j h1 h2 => by rw [gI_pI, if_neg (by omega), hM1.2.1 _ _ (by unfold pMh; omega), hV j h1 h2]
    have y8 : gI (pI t1 432 55 (Int32.ofNat 0)) 432 45 = Int32.ofNat f := by rw [hV2 _ (by omega) (by omega), h45]
    have hkk : kc (fFg k) = kc k ∧ kd (fFg k) = kd k ∧ kcard (fFg k) = kcard k ∧ kseen (fFg k) = 0 ∧ kst (fFg k) = kst k := (fFg_ok hk).2
    have hH2 : MH (pI t1 432 55 (Int32.ofNat 0)) (fFg k) := by
      unfold MH
      rw [hkk.1, hkk.2.1, hkk.2.2.1, hkk.2.2.2.1, hkk.2.2.2.2]
      exact ⟨by simp [gI_pI, hH1.1], by simp [gI_pI, hH1.2.1], by simp [gI_pI, hH1.2.2.1], by simp [gI_pI, hH1.2.2.2.1], by simp [gI_pI]⟩
    obtain ⟨i51, i52, i53, i54, -⟩ := id hH2
    rw [hkk.1] at i51
    rw [hkk.2.1] at i52
    rw [hkk.2.2.1] at i53
    rw [hkk.2.2.2.2] at i54
    have hnext : addF (prt (fun k p => [(fEnd f v k, p)]) D l i) [(fEnd f v k, D k)] = prt (fun k p => [(fEnd f v k, p)]) D l (i + 1) := (prt_succ hik).symm
    have g1 : ¬ l.length ≤ i := by omega
    have y7' : gJ t1 453 (mix k) = Int64.ofNat (D k) := y7
    have y3' : gR t1 432 37 = 453 := y3
    have y8' : gI t1 432 45 = Int32.ofNat f := by rw [gI_pI, if_neg (by omega)] at y8; exact y8
    have j51 : gI t1 432 51 = Int32.ofNat (kc k) := hH1.1
    have j52 : gI t1 432 52 = Int32.ofNat (kd k) := hH1.2.1
    have j53 : gI t1 432 53 = Int32.ofNat (kcard k) := hH1.2.2.1
    have j54 : gI t1 432 54 = Int32.ofNat (kst k) := hH1.2.2.2.1
    by_cases c : 0 < f ∧ f ≤ kc k + kd k
    · have hfe : fEnd f v k = nm (kc k + kd k) 0 (kcard k) 0 (v + 1) := by unfold fEnd; rw [if_pos c]
      obtain ⟨t3, e3, hQ3, hT3, hM3⟩ := m_starts (g := g) (d := d) (a := D k) (v := v) hF hw hQ2 hH2 (fFg_ok hk).1 hv hDk hpl hT2
      rw [hkk.1, hkk.2.1, hkk.2.2.1, hkk.2.2.2.1, if_neg (show ¬ kc k + kd k = 0 by omega), ← hfe, hnext] at hQ3
      obtain ⟨t', f1, f2, f3, f4, f5⟩ := ih (i + 1) t3 (by omega) hQ3 (by
        rw [sumL_tk hik, if_pos c, Nat.mul_comm (kc k) (D k), ← Nat.add_assoc]
        rw [hkk.1] at hT3
        exact hT3) (fun j h1 h2 => by rw [hM3.2.1 _ _ (by unfold pNx; omega), hV2 j h1 h2])
      refine ⟨t', ?_, f2, f3, f4, f5⟩
      have c1 : ¬ f = 0 := by omega
      have c2 : ¬ kc k + kd k < f := by omega
      rw [sX12_ends_2]
      simp (disch := first | exact jm_lt0 | (apply jm_ltx; (repeat (first | exact jw_0 | apply jw_i | apply jw_r | apply jw_l)); omega) | omega | assumption | exact sa_432 | exact sa_451 | exact sa_453 | exact n32_inA sb_432 (by omega) (by omega) | exact n32_inA sb_451 (by omega) (by omega) | exact n32_inA sb_453 (by omega) (by omega) | (refine n32_inA (by assumption) ?_ ?_ <;> omega) | exact bi01 | (rw [sa_432]; omega) | (rw [sa_451]; omega) | (rw [sa_453]; omega) | decide) only [sX12_ends_0, sX12_ends_1, sX12_ends_3, sX12_ends_4, sX12_ends_7, sX12_ends_10, sX12_ends_11, sX12_ends_14, sX12_ends_15, sX12_ends_16, sX12_ends_17, sX12_ends_18, sX12_ends_19, sX12_ends_22, sX12_ends_23, sX12_ends_24, sX12_ends_27, sX12_ends_28, sX12_ends_31, sX12_ends_34, sX12_ends_35, sX12_ends_38, sX12_ends_39, sX12_ends_42, sX12_ends_43, sX12_ends_44, sX12_ends_47, sX12_ends_50, sX12_ends_51, sX12_ends_52, sX12_ends_55, sX12_ends_56, sX12_ends_57, sX12_ends_58, sX12_ends_61, sX12_ends_64, sX12_ends_65, sX12_ends_66, sX12_ends_69, sX12_ends_70, sX12_ends_73, sX12_ends_74, sX12_ends_77, sX12_ends_78, sX12_ends_81, sX12_ends_82, sX12_ends_85, sX12_ends_86, sX12_ends_89, sX12_ends_90, sX12_ends_91, kX12_ends_94_AIII, sX12_ends_94, sX12_ends_97, kX12_ends_100_AIIN, sX12_ends_100, sX12_ends_101, sX12_ends_104, evK_n, evK_v, evK_x, gI_pI, gJ_pI, gR_pI, gI_pJ, gJ_pJ, gR_pJ, gI_pR, gJ_pR, gR_pR, n32_le, n32_lt, n32_add, n32_mul, n32_cl, if_true, if_false, not_true_eq_false, not_false_eq_true, and_true, true_and, and_false, false_and, and_self, or_true, true_or, or_false, false_or, or_self, ne_eq, Decidable.not_not, Nat.reduceEqDiff, Nat.reduceEqDiff, sa_432, sb_432, sa_451, sb_451, sa_453, sb_453, x2, x4, g1, x6, e1, y8', n32_le0, c1, j51, j52, c2, y3', y7', e3]
      exact f1
    · have hfe : fEnd f v k = nm (kc k) (kd k) (kcard k) 0 (kst k) := by unfold fEnd; rw [if_neg c]
      have e2 := m_index (g := g) (d := d + 1) (c := kc k) (di := kd k) (ca := kcard k) (st := kst k) (se := 0) (s := pI t1 432 55 (Int32.ofNat 0))
      rw [mix_nm hkcd kl1 (by omega), ← hfe] at e2
      obtain ⟨t3, e3, hQ3, hM3⟩ := hQ2.give (g := g) (d := d + 1) (k := fEnd f v k) (m := D k) hF (fEnd_lt hv hk) (by have := hpl (fEnd f v k); omega)
      rw [upd_1, hnext] at hQ3
      obtain ⟨t', f1, f2, f3, f4, f5⟩ := ih (i + 1) t3 (by omega) hQ3 (by
        rw [sumL_tk hik, if_neg c, Nat.zero_mul, Nat.add_zero]
        exact hT2.cm (CM.n hM3)) (fun j h1 h2 => by rw [hM3.2.1 _ _ (by unfold pNx; omega), hV2 j h1 h2])
      refine ⟨t', ?_, f2, f3, f4, f5⟩
      rw [sX12_ends_2]
      by_cases c1 : f = 0
      · rw [c1] at y8'
        simp (disch := first | exact jm_lt0 | (apply jm_ltx; (repeat (first | exact jw_0 | apply jw_i | apply jw_r | apply jw_l)); omega) | omega | assumption | exact sa_432 | exact sa_451 | exact sa_453 | exact n32_inA sb_432 (by omega) (by omega) | exact n32_inA sb_451 (by omega) (by omega) | exact n32_inA sb_453 (by omega) (by omega) | (refine n32_inA (by assumption) ?_ ?_ <;> omega) | exact bi01 | (rw [sa_432]; omega) | (rw [sa_451]; omega) | (rw [sa_453]; omega) | decide) only [sX12_ends_0, sX12_ends_1, sX12_ends_3, sX12_ends_4, sX12_ends_7, sX12_ends_10, sX12_ends_11, sX12_ends_14, sX12_ends_15, sX12_ends_16, sX12_ends_17, sX12_ends_18, sX12_ends_19, sX12_ends_22, sX12_ends_23, sX12_ends_24, sX12_ends_27, sX12_ends_28, sX12_ends_31, sX12_ends_34, sX12_ends_35, sX12_ends_38, sX12_ends_39, sX12_ends_42, sX12_ends_43, sX12_ends_44, sX12_ends_47, sX12_ends_50, sX12_ends_51, sX12_ends_52, sX12_ends_55, sX12_ends_56, sX12_ends_57, sX12_ends_58, sX12_ends_61, sX12_ends_64, sX12_ends_65, sX12_ends_66, sX12_ends_69, sX12_ends_70, sX12_ends_73, sX12_ends_74, sX12_ends_77, sX12_ends_78, sX12_ends_81, sX12_ends_82, sX12_ends_85, sX12_ends_86, sX12_ends_89, sX12_ends_90, sX12_ends_91, kX12_ends_94_AIII, sX12_ends_94, sX12_ends_97, kX12_ends_100_AIIN, sX12_ends_100, sX12_ends_101, sX12_ends_104, evK_n, evK_v, evK_x, gI_pI, gJ_pI, gR_pI, gI_pJ, gJ_pJ, gR_pJ, gI_pR, gJ_pR, gR_pR, n32_le, n32_lt, n32_add, n32_mul, n32_cl, if_true, if_false, not_true_eq_false, not_false_eq_true, and_true, true_and, and_false, false_and, and_self, or_true, true_or, or_false, false_or, or_self, ne_eq, Decidable.not_not, Nat.reduceEqDiff, Nat.reduceEqDiff, sa_432, sb_432, sa_451, sb_451, sa_453, sb_453, x2, x4, g1, x6, e1, y8', show (Int32.ofNat 0 ≤ 0) = True from eq_true (by decide), j51, j52, j53, j54, y3', y7', e2, e3]
        exact f1
      · have c2 : kc k + kd k < f := by omega
        simp (disch := first | exact jm_lt0 | (apply jm_ltx; (repeat (first | exact jw_0 | apply jw_i | apply jw_r | apply jw_l)); omega) | omega | assumption | exact sa_432 | exact sa_451 | exact sa_453 | exact n32_inA sb_432 (by omega) (by omega) | exact n32_inA sb_451 (by omega) (by omega) | exact n32_inA sb_453 (by omega) (by omega) | (refine n32_inA (by assumption) ?_ ?_ <;> omega) | exact bi01 | (rw [sa_432]; omega) | (rw [sa_451]; omega) | (rw [sa_453]; omega) | decide) only [sX12_ends_0, sX12_ends_1, sX12_ends_3, sX12_ends_4, sX12_ends_7, sX12_ends_10, sX12_ends_11, sX12_ends_14, sX12_ends_15, sX12_ends_16, sX12_ends_17, sX12_ends_18, sX12_ends_19, sX12_ends_22, sX12_ends_23, sX12_ends_24, sX12_ends_27, sX12_ends_28, sX12_ends_31, sX12_ends_34, sX12_ends_35, sX12_ends_38, sX12_ends_39, sX12_ends_42, sX12_ends_43, sX12_ends_44, sX12_ends_47, sX12_ends_50, sX12_ends_51, sX12_ends_52, sX12_ends_55, sX12_ends_56, sX12_ends_57, sX12_ends_58, sX12_ends_61, sX12_ends_64, sX12_ends_65, sX12_ends_66, sX12_ends_69, sX12_ends_70, sX12_ends_73, sX12_ends_74, sX12_ends_77, sX12_ends_78, sX12_ends_81, sX12_ends_82, sX12_ends_85, sX12_ends_86, sX12_ends_89, sX12_ends_90, sX12_ends_91, kX12_ends_94_AIII, sX12_ends_94, sX12_ends_97, kX12_ends_100_AIIN, sX12_ends_100, sX12_ends_101, sX12_ends_104, evK_n, evK_v, evK_x, gI_pI, gJ_pI, gR_pI, gI_pJ, gJ_pJ, gR_pJ, gI_pR, gJ_pR, gR_pR, n32_le, n32_lt, n32_add, n32_mul, n32_cl, if_true, if_false, not_true_eq_false, not_false_eq_true, and_true, true_and, and_false, false_and, and_self, or_true, true_or, or_false, false_or, or_self, ne_eq, Decidable.not_not, Nat.reduceEqDiff, Nat.reduceEqDiff, sa_432, sb_432, sa_451, sb_451, sa_453, sb_453, x2, x4, g1, x6, e1, y8', n32_le0, c1, c2, j51, j52, j53, j54, y3', y7', e2, e3]
        exact f1
theorem m_ends {g : fm_g} {d v f u : Nat} {w : WD} {dr : Nat → Nat} {wa lo : Nat} {t : fm_S} (hF : FX t) (hO : OMw t D u) (hD : sumN D NS ≤ ONE) (hw : wOK w) (hv : v < 24) (hf : f ≤ 12) (h45 : gI t 432 45 = Int32.ofNat f) (hT : CM3 t dr wa lo) : ∃ t', ev g (d + 2) mX12_ends 0 [some (.ref (432 : Nat)), some (.int (Int32.ofNat v)), none, none] [] t = some (.inl none, t') ∧ FM pM qM t t' ∧ OM t' (mapD (fEnd f v) D) ∧ CM3 t' dr (wa + sumN (fun k => (if 0 < f ∧ f ≤ kc k + kd k then kc k else 0) * D k) NS) lo ∧ OPq t t' := by
  obtain ⟨l, o1, o2, -⟩ := hO
  have hB : MB t l D := ⟨hF, o1, o2, hD⟩
  obtain ⟨t', f1, f2⟩ := m_endLoop (g := g) (d := d) hB hw hv hf h45 l.length 0 t (by omega) hB.qs (by simpa [sumL] using hT) OPq.rf
  refine ⟨t', ?_, f2⟩
  rw [sX12_ends_0, sX12_ends_1]
  exact f1
/-- sums -/
theorem m_isOf {g : fm_g} {d k v what : Nat} {w : WD} {t : fm_S} (hF : FX t) (hW : MW t w) (hw : wOK w) (hH : MH t k) (hwh : what < 6) (hv : what = 2 → v < wn w ∧ kst k ≤ wn w) : ev g (d + 1) mX12_isOf 0 [some (.ref (432 : Nat)), some (.int (Int32.ofNat what)), some (.int (Int32.ofNat v))] [] t = some (.inl (some (.int (bi (kis w v what k = true)))), t) := by
  obtain ⟨h51, h52, h53, h54, h55⟩ := id hH
  have := k_small k
  have hT := hw.T (i := 0) (by decide)
  have r11 := hF.u 432 11 436 (by decide +kernel)
  have o0 := hW.1 0 (by decide)
  have : what = 0 ∨ what = 1 ∨ what = 2 ∨ what = 3 ∨ what = 4 ∨ what = 5 := by omega
  rcases this with rfl | rfl | rfl | rfl | rfl | rfl
  · by_cases c2 : kd k = 0 <;> simp (disch := first | exact jm_lt0 | (apply jm_ltx; (repeat (first | exact jw_0 | apply jw_i | apply jw_r | apply jw_l)); omega) | omega | assumption | exact sa_432 | exact n32_inA sb_432 (by omega) (by omega) | (refine n32_inA (by assumption) ?_ ?_ <;> omega) | exact bi01 | (rw [sa_432]; omega) | decide) only [sX12_isOf_0, sX12_isOf_1, sX12_isOf_4, sX12_isOf_5, sX12_isOf_8, sX12_isOf_11, sX12_isOf_12, kX12_isOf_15_AII, sX12_isOf_15, kX12_isOf_16_AII, sX12_isOf_16, sX12_isOf_17, sX12_isOf_18, sX12_isOf_19, sX12_isOf_22, sX12_isOf_23, sX12_isOf_26, sX12_isOf_27, sX12_isOf_30, sX12_isOf_31, kX12_isOf_34_AII, sX12_isOf_34, kX12_isOf_35_AII, sX12_isOf_35, sX12_isOf_36, sX12_isOf_39, sX12_isOf_42, sX12_isOf_43, kX12_isOf_46_ANN, sX12_isOf_46, kX12_isOf_47_ANN, sX12_isOf_47, sX12_isOf_50, sX12_isOf_51, sX12_isOf_54, sX12_isOf_55, sX12_isOf_56, sX12_isOf_57, sX12_isOf_58, sX12_isOf_61, sX12_isOf_62, sX12_isOf_63, sX12_isOf_66, kX12_isOf_67_AII, sX12_isOf_67, sX12_isOf_68, sX12_isOf_69, sX12_isOf_72, sX12_isOf_73, sX12_isOf_76, sX12_isOf_77, sX12_isOf_80, sX12_isOf_81, kX12_isOf_84_AIN, sX12_isOf_84, kX12_isOf_85_AIN, sX12_isOf_85, sX12_isOf_86, sX12_isOf_87, sX12_isOf_88, sX12_isOf_91, sX12_isOf_92, sX12_isOf_95, sX12_isOf_96, sX12_isOf_99, sX12_isOf_100, sX12_isOf_103, sX12_isOf_104, kX12_isOf_107_AIN, sX12_isOf_107, sX12_isOf_108, kX12_isOf_111_AIN, sX12_isOf_111, sX12_isOf_112, sX12_isOf_115, sX12_isOf_116, sX12_isOf_119, sX12_isOf_120, sX12_isOf_121, sX12_isOf_124, sX12_isOf_125, sX12_isOf_126, sX12_isOf_129, sX12_isOf_130, kX12_isOf_133_ANN, sX12_isOf_133, kX12_isOf_134_AIN, kX12_isOf_134_ANN, sX12_isOf_134, evK_n, evK_v, evK_x, gI_pI, gJ_pI, gR_pI, gI_pJ, gJ_pJ, gR_pJ, gI_pR, gJ_pR, gR_pR, n32_le, n32_lt, n32_add, n32_mul, n32_cl, if_true, if_false, not_true_eq_false, not_false_eq_true, and_true, true_and, and_false, false_and, and_self, or_true, true_or, or_false, false_or, or_self, ne_eq, Decidable.not_not, Nat.reduceEqDiff, Nat.reduceEqDiff, sa_432, sb_432, h52, n32_eq, n32_eq0, c2, z32, Nat.reduceEqDiff, bi, kis, decide_eq_true_eq]
  · by_cases c1 : kcard k = 1 <;> by_cases c2 : kd k = 0 <;> simp (disch := first | exact jm_lt0 | (apply jm_ltx; (repeat (first | exact jw_0 | apply jw_i | apply jw_r | apply jw_l)); omega) | omega | assumption | exact sa_432 | exact n32_inA sb_432 (by omega) (by omega) | (refine n32_inA (by assumption) ?_ ?_ <;> omega) | exact bi01 | (rw [sa_432]; omega) | decide) only [sX12_isOf_0, sX12_isOf_1, sX12_isOf_4, sX12_isOf_5, sX12_isOf_8, sX12_isOf_11, sX12_isOf_12, kX12_isOf_15_AII, sX12_isOf_15, kX12_isOf_16_AII, sX12_isOf_16, sX12_isOf_17, sX12_isOf_18, sX12_isOf_19, sX12_isOf_22, sX12_isOf_23, sX12_isOf_26, sX12_isOf_27, sX12_isOf_30, sX12_isOf_31, kX12_isOf_34_AII, sX12_isOf_34, kX12_isOf_35_AII, sX12_isOf_35, sX12_isOf_36, sX12_isOf_39, sX12_isOf_42, sX12_isOf_43, kX12_isOf_46_ANN, sX12_isOf_46, kX12_isOf_47_ANN, sX12_isOf_47, sX12_isOf_50, sX12_isOf_51, sX12_isOf_54, sX12_isOf_55, sX12_isOf_56, sX12_isOf_57, sX12_isOf_58, sX12_isOf_61, sX12_isOf_62, sX12_isOf_63, sX12_isOf_66, kX12_isOf_67_AII, sX12_isOf_67, sX12_isOf_68, sX12_isOf_69, sX12_isOf_72, sX12_isOf_73, sX12_isOf_76, sX12_isOf_77, sX12_isOf_80, sX12_isOf_81, kX12_isOf_84_AIN, sX12_isOf_84, kX12_isOf_85_AIN, sX12_isOf_85, sX12_isOf_86, sX12_isOf_87, sX12_isOf_88, sX12_isOf_91, sX12_isOf_92, sX12_isOf_95, sX12_isOf_96, sX12_isOf_99, sX12_isOf_100, sX12_isOf_103, sX12_isOf_104, kX12_isOf_107_AIN, sX12_isOf_107, sX12_isOf_108, kX12_isOf_111_AIN, sX12_isOf_111, sX12_isOf_112, sX12_isOf_115, sX12_isOf_116, sX12_isOf_119, sX12_isOf_120, sX12_isOf_121, sX12_isOf_124, sX12_isOf_125, sX12_isOf_126, sX12_isOf_129, sX12_isOf_130, kX12_isOf_133_ANN, sX12_isOf_133, kX12_isOf_134_AIN, kX12_isOf_134_ANN, sX12_isOf_134, evK_n, evK_v, evK_x, gI_pI, gJ_pI, gR_pI, gI_pJ, gJ_pJ, gR_pJ, gI_pR, gJ_pR, gR_pR, n32_le, n32_lt, n32_add, n32_mul, n32_cl, if_true, if_false, not_true_eq_false, not_false_eq_true, and_true, true_and, and_false, false_and, and_self, or_true, true_or, or_false, false_or, or_self, ne_eq, Decidable.not_not, Nat.reduceEqDiff, Nat.reduceEqDiff, sa_432, sb_432, h52, h53, n32_eq, n32_eq0, c1, c2, z32, Nat.reduceEqDiff, bi, kis, decide_eq_true_eq, iff_self, iff_false, iff_true, true_iff, false_iff, show ¬ ((1 : Nat) = 0) by decide]
  · have k1 := m_isWarm (g := g) (d := d) hF hW hw hH (hv rfl).1 (hv rfl).2
    have hk : kis w v 2 k = kwm w v k := rfl
    rw [hk]
    simp (disch := first | exact jm_lt0 | (apply jm_ltx; (repeat (first | exact jw_0 | apply jw_i | apply jw_r | apply jw_l)); omega) | omega | assumption | exact sa_432 | exact n32_inA sb_432 (by omega) (by omega) | (refine n32_inA (by assumption) ?_ ?_ <;> omega) | exact bi01 | (rw [sa_432]; omega) | decide) only [sX12_isOf_0, sX12_isOf_1, sX12_isOf_4, sX12_isOf_5, sX12_isOf_8, sX12_isOf_11, sX12_isOf_12, kX12_isOf_15_AII, sX12_isOf_15, kX12_isOf_16_AII, sX12_isOf_16, sX12_isOf_17, sX12_isOf_18, sX12_isOf_19, sX12_isOf_22, sX12_isOf_23, sX12_isOf_26, sX12_isOf_27, sX12_isOf_30, sX12_isOf_31, kX12_isOf_34_AII, sX12_isOf_34, kX12_isOf_35_AII, sX12_isOf_35, sX12_isOf_36, sX12_isOf_39, sX12_isOf_42, sX12_isOf_43, kX12_isOf_46_ANN, sX12_isOf_46, kX12_isOf_47_ANN, sX12_isOf_47, sX12_isOf_50, sX12_isOf_51, sX12_isOf_54, sX12_isOf_55, sX12_isOf_56, sX12_isOf_57, sX12_isOf_58, sX12_isOf_61, sX12_isOf_62, sX12_isOf_63, sX12_isOf_66, kX12_isOf_67_AII, sX12_isOf_67, sX12_isOf_68, sX12_isOf_69, sX12_isOf_72, sX12_isOf_73, sX12_isOf_76, sX12_isOf_77, sX12_isOf_80, sX12_isOf_81, kX12_isOf_84_AIN, sX12_isOf_84, kX12_isOf_85_AIN, sX12_isOf_85, sX12_isOf_86, sX12_isOf_87, sX12_isOf_88, sX12_isOf_91, sX12_isOf_92, sX12_isOf_95, sX12_isOf_96, sX12_isOf_99, sX12_isOf_100, sX12_isOf_103, sX12_isOf_104, kX12_isOf_107_AIN, sX12_isOf_107, sX12_isOf_108, kX12_isOf_111_AIN, sX12_isOf_111, sX12_isOf_112, sX12_isOf_115, sX12_isOf_116, sX12_isOf_119, sX12_isOf_120, sX12_isOf_121, sX12_isOf_124, sX12_isOf_125, sX12_isOf_126, sX12_isOf_129, sX12_isOf_130, kX12_isOf_133_ANN, sX12_isOf_133, kX12_isOf_134_AIN, kX12_isOf_134_ANN, sX12_isOf_134, evK_n, evK_v, evK_x, gI_pI, gJ_pI, gR_pI, gI_pJ, gJ_pJ, gR_pJ, gI_pR, gJ_pR, gR_pR, n32_le, n32_lt, n32_add, n32_mul, n32_cl, if_true, if_false, not_true_eq_false, not_false_eq_true, and_true, true_and, and_false, false_and, and_self, or_true, true_or, or_false, false_or, or_self, ne_eq, Decidable.not_not, Nat.reduceEqDiff, Nat.reduceEqDiff, sa_432, sb_432, n32_eq, n32_eq0, Nat.reduceEqDiff, show ¬ ((2 : Nat) = 0) by decide, k1]
  · by_cases c2 : kcard k = 1 <;> simp (disch := first | exact jm_lt0 | (apply jm_ltx; (repeat (first | exact jw_0 | apply jw_i | apply jw_r | apply jw_l)); omega) | omega | assumption | exact sa_432 | exact n32_inA sb_432 (by omega) (by omega) | (refine n32_inA (by assumption) ?_ ?_ <;> omega) | exact bi01 | (rw [sa_432]; omega) | decide) only [sX12_isOf_0, sX12_isOf_1, sX12_isOf_4, sX12_isOf_5, sX12_isOf_8, sX12_isOf_11, sX12_isOf_12, kX12_isOf_15_AII, sX12_isOf_15, kX12_isOf_16_AII, sX12_isOf_16, sX12_isOf_17, sX12_isOf_18, sX12_isOf_19, sX12_isOf_22, sX12_isOf_23, sX12_isOf_26, sX12_isOf_27, sX12_isOf_30, sX12_isOf_31, kX12_isOf_34_AII, sX12_isOf_34, kX12_isOf_35_AII, sX12_isOf_35, sX12_isOf_36, sX12_isOf_39, sX12_isOf_42, sX12_isOf_43, kX12_isOf_46_ANN, sX12_isOf_46, kX12_isOf_47_ANN, sX12_isOf_47, sX12_isOf_50, sX12_isOf_51, sX12_isOf_54, sX12_isOf_55, sX12_isOf_56, sX12_isOf_57, sX12_isOf_58, sX12_isOf_61, sX12_isOf_62, sX12_isOf_63, sX12_isOf_66, kX12_isOf_67_AII, sX12_isOf_67, sX12_isOf_68, sX12_isOf_69, sX12_isOf_72, sX12_isOf_73, sX12_isOf_76, sX12_isOf_77, sX12_isOf_80, sX12_isOf_81, kX12_isOf_84_AIN, sX12_isOf_84, kX12_isOf_85_AIN, sX12_isOf_85, sX12_isOf_86, sX12_isOf_87, sX12_isOf_88, sX12_isOf_91, sX12_isOf_92, sX12_isOf_95, sX12_isOf_96, sX12_isOf_99, sX12_isOf_100, sX12_isOf_103, sX12_isOf_104, kX12_isOf_107_AIN, sX12_isOf_107, sX12_isOf_108, kX12_isOf_111_AIN, sX12_isOf_111, sX12_isOf_112, sX12_isOf_115, sX12_isOf_116, sX12_isOf_119, sX12_isOf_120, sX12_isOf_121, sX12_isOf_124, sX12_isOf_125, sX12_isOf_126, sX12_isOf_129, sX12_isOf_130, kX12_isOf_133_ANN, sX12_isOf_133, kX12_isOf_134_AIN, kX12_isOf_134_ANN, sX12_isOf_134, evK_n, evK_v, evK_x, gI_pI, gJ_pI, gR_pI, gI_pJ, gJ_pJ, gR_pJ, gI_pR, gJ_pR, gR_pR, n32_le, n32_lt, n32_add, n32_mul, n32_cl, if_true, if_false, not_true_eq_false, not_false_eq_true, and_true, true_and, and_false, false_and, and_self, or_true, true_or, or_false, false_or, or_self, ne_eq, Decidable.not_not, Nat.reduceEqDiff, Nat.reduceEqDiff, sa_432, sb_432, h53, n32_eq, n32_eq0, c2, z32, Nat.reduceEqDiff, bi, kis, decide_eq_true_eq, show ¬ ((3 : Nat) = 0) by decide]
  · by_cases c2 : kc k + kd k = 0 <;> simp (disch := first | exact jm_lt0 | (apply jm_ltx; (repeat (first | exact jw_0 | apply jw_i | apply jw_r | apply jw_l)); omega) | omega | assumption | exact sa_432 | exact n32_inA sb_432 (by omega) (by omega) | (refine n32_inA (by assumption) ?_ ?_ <;> omega) | exact bi01 | (rw [sa_432]; omega) | decide) only [sX12_isOf_0, sX12_isOf_1, sX12_isOf_4, sX12_isOf_5, sX12_isOf_8, sX12_isOf_11, sX12_isOf_12, kX12_isOf_15_AII, sX12_isOf_15, kX12_isOf_16_AII, sX12_isOf_16, sX12_isOf_17, sX12_isOf_18, sX12_isOf_19, sX12_isOf_22, sX12_isOf_23, sX12_isOf_26, sX12_isOf_27, sX12_isOf_30, sX12_isOf_31, kX12_isOf_34_AII, sX12_isOf_34, kX12_isOf_35_AII, sX12_isOf_35, sX12_isOf_36, sX12_isOf_39, sX12_isOf_42, sX12_isOf_43, kX12_isOf_46_ANN, sX12_isOf_46, kX12_isOf_47_ANN, sX12_isOf_47, sX12_isOf_50, sX12_isOf_51, sX12_isOf_54, sX12_isOf_55, sX12_isOf_56, sX12_isOf_57, sX12_isOf_58, sX12_isOf_61, sX12_isOf_62, sX12_isOf_63, sX12_isOf_66, kX12_isOf_67_AII, sX12_isOf_67, sX12_isOf_68, sX12_isOf_69, sX12_isOf_72, sX12_isOf_73, sX12_isOf_76, sX12_isOf_77, sX12_isOf_80, sX12_isOf_81, kX12_isOf_84_AIN, sX12_isOf_84, kX12_isOf_85_AIN, sX12_isOf_85, sX12_isOf_86, sX12_isOf_87, sX12_isOf_88, sX12_isOf_91, sX12_isOf_92, sX12_isOf_95, sX12_isOf_96, sX12_isOf_99, sX12_isOf_100, sX12_isOf_103, sX12_isOf_104, kX12_isOf_107_AIN, sX12_isOf_107, sX12_isOf_108, kX12_isOf_111_AIN, sX12_isOf_111, sX12_isOf_112, sX12_isOf_115, sX12_isOf_116, sX12_isOf_119, sX12_isOf_120, sX12_isOf_121, sX12_isOf_124, sX12_isOf_125, sX12_isOf_126, sX12_isOf_129, sX12_isOf_130, kX12_isOf_133_ANN, sX12_isOf_133, kX12_isOf_134_AIN, kX12_isOf_134_ANN, sX12_isOf_134, evK_n, evK_v, evK_x, gI_pI, gJ_pI, gR_pI, gI_pJ, gJ_pJ, gR_pJ, gI_pR, gJ_pR, gR_pR, n32_le, n32_lt, n32_add, n32_mul, n32_cl, if_true, if_false, not_true_eq_false, not_false_eq_true, and_true, true_and, and_false, false_and, and_self, or_true, true_or, or_false, false_or, or_self, ne_eq, Decidable.not_not, Nat.reduceEqDiff, Nat.reduceEqDiff, sa_432, sb_432, h51, h52, n32_eq, n32_eq0, c2, z32, Nat.reduceEqDiff, bi, kis, decide_eq_true_eq, show ¬ ((4 : Nat) = 0) by decide]
  · by_cases c2 : kc k + kd k = wT w 0 <;> simp (disch := first | exact jm_lt0 | (apply jm_ltx; (repeat (first | exact jw_0 | apply jw_i | apply jw_r | apply jw_l)); omega) | omega | assumption | exact sa_432 | exact sa_436 | exact n32_inA sb_432 (by omega) (by omega) | exact n32_inA sb_436 (by omega) (by omega) | (refine n32_inA (by assumption) ?_ ?_ <;> omega) | exact bi01 | (rw [sa_432]; omega) | (rw [sa_436]; omega) | decide) only [sX12_isOf_0, sX12_isOf_1, sX12_isOf_4, sX12_isOf_5, sX12_isOf_8, sX12_isOf_11, sX12_isOf_12, kX12_isOf_15_AII, sX12_isOf_15, kX12_isOf_16_AII, sX12_isOf_16, sX12_isOf_17, sX12_isOf_18, sX12_isOf_19, sX12_isOf_22, sX12_isOf_23, sX12_isOf_26, sX12_isOf_27, sX12_isOf_30, sX12_isOf_31, kX12_isOf_34_AII, sX12_isOf_34, kX12_isOf_35_AII, sX12_isOf_35, sX12_isOf_36, sX12_isOf_39, sX12_isOf_42, sX12_isOf_43, kX12_isOf_46_ANN, sX12_isOf_46, kX12_isOf_47_ANN, sX12_isOf_47, sX12_isOf_50, sX12_isOf_51, sX12_isOf_54, sX12_isOf_55, sX12_isOf_56, sX12_isOf_57, sX12_isOf_58, sX12_isOf_61, sX12_isOf_62, sX12_isOf_63, sX12_isOf_66, kX12_isOf_67_AII, sX12_isOf_67, sX12_isOf_68, sX12_isOf_69, sX12_isOf_72, sX12_isOf_73, sX12_isOf_76, sX12_isOf_77, sX12_isOf_80, sX12_isOf_81, kX12_isOf_84_AIN, sX12_isOf_84, kX12_isOf_85_AIN, sX12_isOf_85, sX12_isOf_86, sX12_isOf_87, sX12_isOf_88, sX12_isOf_91, sX12_isOf_92, sX12_isOf_95, sX12_isOf_96, sX12_isOf_99, sX12_isOf_100, sX12_isOf_103, sX12_isOf_104, kX12_isOf_107_AIN, sX12_isOf_107, sX12_isOf_108, kX12_isOf_111_AIN, sX12_isOf_111, sX12_isOf_112, sX12_isOf_115, sX12_isOf_116, sX12_isOf_119, sX12_isOf_120, sX12_isOf_121, sX12_isOf_124, sX12_isOf_125, sX12_isOf_126, sX12_isOf_129, sX12_isOf_130, kX12_isOf_133_ANN, sX12_isOf_133, kX12_isOf_134_AIN, kX12_isOf_134_ANN, sX12_isOf_134, evK_n, evK_v, evK_x, gI_pI, gJ_pI, gR_pI, gI_pJ, gJ_pJ, gR_pJ, gI_pR, gJ_pR, gR_pR, n32_le, n32_lt, n32_add, n32_mul, n32_cl, if_true, if_false, not_true_eq_false, not_false_eq_true, and_true, true_and, and_false, false_and, and_self, or_true, true_or, or_false, false_or, or_self, ne_eq, Decidable.not_not, Nat.reduceEqDiff, Nat.reduceEqDiff, sa_432, sb_432, sa_436, sb_436, h51, h52, r11, o0, n32_eq, n32_eq0, c2, z32, Nat.reduceEqDiff, bi, kis, decide_eq_true_eq, show ¬ ((5 : Nat) = 0) by decide]
/-- the rows and the hand alone -/
theorem MB.keep (hB : MB t0 l D) {t : fm_S} (hM : FM pMh nO t0 t) : FX t ∧ ML t l D ∧ MX t [] (fun _ => 0) := ⟨hM.fx hB.1, hB.2.1.of (hM.2.1 _ _ (by unfold pMh; omega)) (fun j => hM.2.1 _ _ (by unfold pMh; omega)) (fun j => hM.2.2 _ _ (fun h => h)), hB.2.2.1.of (hM.2.1 _ _ (by unfold pMh; omega)) (fun j => hM.2.1 _ _ (by unfold pMh; omega)) (fun j => hM.2.2 _ _ (fun h => h))⟩
theorem ML.refs {t : fm_S} (h : ML t l D) (hF : FX t) : gR t 432 33 = 451 ∧ gR t 432 37 = 453 ∧ gI t 432 35 = Int32.ofNat l.length ∧ (∀ i k, l[i]? = some k → gI t 451 i = Int32.ofNat (mix k) ∧ gJ t 453 (mix k) = Int64.ofNat (D k)) := by
  refine ⟨hF.u 432 33 451 (by decide +kernel), hF.u 432 37 453 (by decide +kernel), h.1, fun i k hik => ?_⟩
  have hk := h.2.2.1 k (List.mem_of_getElem? hik)
  exact ⟨h.2.2.2.1 i k hik, by rw [h.2.2.2.2.1 _ (mix_lt hk), pq_mix hk]⟩
theorem m_likeLoop {g : fm_g} {d v what : Nat} {w : WD} (hB : MB t0 l D) (hW : MW t0 w) (hw : wOK w) (hwh : what < 6) (hv : what = 2 → v < wn w ∧ ∀ k ∈ l, kst k ≤ wn w) : ∀ (m i : Nat) (t : fm_S), i + m = l.length → FM pMh nO t0 t → ∃ t', ev g (d + 2) mX12_likelyOf 5 [some (.ref (432 : Nat)), some (.int (Int32.ofNat what)), some (.int (Int32.ofNat v)), some (.long (Int64.ofNat (sumL (fun k => if kis w v what k = true then D k else 0) (l.take i)))), none, some (.int (Int32.ofNat i)), none] [] t = some (.inl (some (.long (Int64.ofNat (fctS w v what D)))), t') ∧ FM pMh nO t0 t' := by
  have hlen := hB.2.1.len
  intro m
  induction m with
  | zero =>
    intro i t hi hM
    obtain ⟨hF, hL, hX⟩ := hB.keep hM
    obtain ⟨x2, x3, x4, x5⟩ := hL.refs hF
    have hil : i = l.length := by omega
    subst hil
    refine ⟨t, ?_, hM⟩
    rw [sX12_likelyOf_5, List.take_length, hB.all (fun k hk => by rw [hk]; simp)]
    simp (disch := first | exact jm_lt0 | (apply jm_ltx; (repeat (first | exact jw_0 | apply jw_i | apply jw_r | apply jw_l)); omega) | omega | assumption | exact sa_432 | exact n32_inA sb_432 (by omega) (by omega) | (refine n32_inA (by assumption) ?_ ?_ <;> omega) | exact bi01 | (rw [sa_432]; omega) | decide) only [sX12_likelyOf_0, sX12_likelyOf_1, sX12_likelyOf_2, sX12_likelyOf_3, sX12_likelyOf_7, sX12_likelyOf_8, sX12_likelyOf_11, sX12_likelyOf_14, sX12_likelyOf_15, sX12_likelyOf_18, sX12_likelyOf_20, sX12_likelyOf_21, sX12_likelyOf_23, sX12_likelyOf_24, sX12_likelyOf_26, sX12_likelyOf_29, sX12_likelyOf_30, sX12_likelyOf_31, sX12_likelyOf_32, sX12_likelyOf_33, sX12_likelyOf_36, sX12_likelyOf_39, sX12_likelyOf_40, sX12_likelyOf_43, sX12_likelyOf_45, sX12_likelyOf_46, kX12_likelyOf_49_AIIJNII, sX12_likelyOf_49, kX12_likelyOf_50_AIIJNII, sX12_likelyOf_50, sX12_likelyOf_51, sX12_likelyOf_52, sX12_likelyOf_55, kX12_likelyOf_58_AIIJNIN, sX12_likelyOf_58, sX12_likelyOf_59, evK_n, evK_v, evK_x, gI_pI, gJ_pI, gR_pI, gI_pJ, gJ_pJ, gR_pJ, gI_pR, gJ_pR, gR_pR, n32_le, n32_lt, n32_add, n32_mul, n32_cl, if_true, if_false, not_true_eq_false, not_false_eq_true, and_true, true_and, and_false, false_and, and_self, or_true, true_or, or_false, false_or, or_self, ne_eq, Decidable.not_not, Nat.reduceEqDiff, Nat.reduceEqDiff, sa_432, sb_432, x4]
    rw [if_pos (by omega)]
    rfl
  | succ m ih =>
    intro i t hi hM
    obtain ⟨hF, hL, hX⟩ := hB.keep hM
    obtain ⟨x2, x3, x4, x5⟩ := hL.refs hF
    have hil : i < l.length := by omega
    have hik : l[i]? = some l[i] := List.getElem?_eq_getElem hil
    have hmem := List.getElem_mem hil
    generalize l[i] = k at hik hmem
    obtain ⟨hk, hDk⟩ := hB.it hik
    have hmx := mix_lt hk
    obtain ⟨x6, x7⟩ := x5 i k hik
    obtain ⟨t1, e1, hM1, hH1⟩ := m_stateOf (g := g) (d := d + 1) (t := t) hk
    have hM01 := hM.tr hM1
    obtain ⟨hF1, hL1, hX1⟩ := hB.keep hM01
    obtain ⟨y2, y3, y4, y5⟩ := hL1.refs hF1
    have y7 := (y5 i k hik).2
    have hW1 : MW t1 w := hW.of (fun b j hb => hM01.2.1 b j (fun q => hb (by unfold pMh at q; unfold pM; omega)))
    have e2 := m_isOf (g := g) (d := d) (v := v) (what := what) hF1 hW1 hw hH1 hwh (fun h => ⟨(hv h).1, (hv h).2 k hmem⟩)
    obtain ⟨t', f1, f2⟩ := ih (i + 1) t1 (by omega) hM01
    refine ⟨t', ?_, f2⟩
    rw [sumL_tk hik, ← n64_add] at f1
    have g1 : ¬ l.length ≤ i := by omega
    rw [sX12_likelyOf_5]
    by_cases c : kis w v what k = true
    · rw [if_pos c] at f1
      rw [bi_t c] at e2
      simp (disch := first | exact jm_lt0 | (apply jm_ltx; (repeat (first | exact jw_0 | apply jw_i | apply jw_r | apply jw_l)); omega) | omega | assumption | exact sa_432 | exact sa_451 | exact sa_453 | exact n32_inA sb_432 (by omega) (by omega) | exact n32_inA sb_451 (by omega) (by omega) | exact n32_inA sb_453 (by omega) (by omega) | (refine n32_inA (by assumption) ?_ ?_ <;> omega) | exact bi01 | (rw [sa_432]; omega) | (rw [sa_451]; omega) | (rw [sa_453]; omega) | decide) only [sX12_likelyOf_0, sX12_likelyOf_1, sX12_likelyOf_2, sX12_likelyOf_3, sX12_likelyOf_7, sX12_likelyOf_8, sX12_likelyOf_11, sX12_likelyOf_14, sX12_likelyOf_15, sX12_likelyOf_18, sX12_likelyOf_20, sX12_likelyOf_21, sX12_likelyOf_23, sX12_likelyOf_24, sX12_likelyOf_26, sX12_likelyOf_29, sX12_likelyOf_30, sX12_likelyOf_31, sX12_likelyOf_32, sX12_likelyOf_33, sX12_likelyOf_36, sX12_likelyOf_39, sX12_likelyOf_40, sX12_likelyOf_43, sX12_likelyOf_45, sX12_likelyOf_46, kX12_likelyOf_49_AIIJNII, sX12_likelyOf_49, kX12_likelyOf_50_AIIJNII, sX12_likelyOf_50, sX12_likelyOf_51, sX12_likelyOf_52, sX12_likelyOf_55, kX12_likelyOf_58_AIIJNIN, sX12_likelyOf_58, sX12_likelyOf_59, evK_n, evK_v, evK_x, gI_pI, gJ_pI, gR_pI, gI_pJ, gJ_pJ, gR_pJ, gI_pR, gJ_pR, gR_pR, n32_le, n32_lt, n32_add, n32_mul, n32_cl, if_true, if_false, not_true_eq_false, not_false_eq_true, and_true, true_and, and_false, false_and, and_self, or_true, true_or, or_false, false_or, or_self, ne_eq, Decidable.not_not, Nat.reduceEqDiff, Nat.reduceEqDiff, sa_432, sb_432, sa_451, sb_451, sa_453, sb_453, x2, x4, g1, x6, e1, e2, y3, y7, show ¬ (Int32.ofNat 1 = 0) by decide]
      exact f1
    · rw [if_neg c] at f1
      rw [bi_f c] at e2
      simp (disch := first | exact jm_lt0 | (apply jm_ltx; (repeat (first | exact jw_0 | apply jw_i | apply jw_r | apply jw_l)); omega) | omega | assumption | exact sa_432 | exact sa_451 | exact sa_453 | exact n32_inA sb_432 (by omega) (by omega) | exact n32_inA sb_451 (by omega) (by omega) | exact n32_inA sb_453 (by omega) (by omega) | (refine n32_inA (by assumption) ?_ ?_ <;> omega) | exact bi01 | (rw [sa_432]; omega) | (rw [sa_451]; omega) | (rw [sa_453]; omega) | decide) only [sX12_likelyOf_0, sX12_likelyOf_1, sX12_likelyOf_2, sX12_likelyOf_3, sX12_likelyOf_7, sX12_likelyOf_8, sX12_likelyOf_11, sX12_likelyOf_14, sX12_likelyOf_15, sX12_likelyOf_18, sX12_likelyOf_20, sX12_likelyOf_21, sX12_likelyOf_23, sX12_likelyOf_24, sX12_likelyOf_26, sX12_likelyOf_29, sX12_likelyOf_30, sX12_likelyOf_31, sX12_likelyOf_32, sX12_likelyOf_33, sX12_likelyOf_36, sX12_likelyOf_39, sX12_likelyOf_40, sX12_likelyOf_43, sX12_likelyOf_45, sX12_likelyOf_46, kX12_likelyOf_49_AIIJNII, sX12_likelyOf_49, kX12_likelyOf_50_AIIJNII, sX12_likelyOf_50, sX12_likelyOf_51, sX12_likelyOf_52, sX12_likelyOf_55, kX12_likelyOf_58_AIIJNIN, sX12_likelyOf_58, sX12_likelyOf_59, evK_n, evK_v, evK_x, gI_pI, gJ_pI, gR_pI, gI_pJ, gJ_pJ, gR_pJ, gI_pR, gJ_pR, gR_pR, n32_le, n32_lt, n32_add, n32_mul, n32_cl, if_true, if_false, not_true_eq_false, not_false_eq_true, and_true, true_and, and_false, false_and, and_self, or_true, true_or, or_false, false_or, or_self, ne_eq, Decidable.not_not, Nat.reduceEqDiff, Nat.reduceEqDiff, sa_432, sb_432, sa_451, sb_451, sa_453, sb_453, x2, x4, g1, x6, e1, e2, z32]
      exact f1
theorem m_likely {g : fm_g} {d v what u : Nat} {w : WD} {t : fm_S} (hF : FX t) (hO : OMw t D u) (hD : sumN D NS ≤ ONE) (hW : MW t w) (hw : wOK w) (hwh : what < 6) (hv : what = 2 → v < wn w ∧ u ≤ wn w) : ∃ t', ev g (d + 2) mX12_likelyOf 0 [some (.ref (432 : Nat)), some (.int (Int32.ofNat what)), some (.int (Int32.ofNat v)), none, none, none, none] [] t = some (.inl (some (.long (Int64.ofNat (fctS w v what D)))), t') ∧ FM pMh nO t t' := by
  obtain ⟨l, o1, o2, o3⟩ := hO
  have hB : MB t l D := ⟨hF, o1, o2, hD⟩
  obtain ⟨t', f1, f2⟩ := m_likeLoop (g := g) (d := d) (v := v) (what := what) hB hW hw hwh (fun h => ⟨(hv h).1, fun k hk => by have := o3 k hk; have := (hv h).2; omega⟩) l.length 0 t (by omega) FM.rf
  refine ⟨t', ?_, f2⟩
  rw [sX12_likelyOf_0, sX12_likelyOf_1, sX12_likelyOf_2, sX12_likelyOf_3]
  exact f1
theorem m_allLoop {g : fm_g} {d : Nat} (hB : MB t0 l D) : ∀ (m i : Nat), i + m = l.length → ev g d mX12_all 4 [some (.ref (432 : Nat)), some (.long (Int64.ofNat (sumL D (l.take i)))), none, some (.int (Int32.ofNat i))] [] t0 = some (.inl (some (.long (Int64.ofNat (sumN D NS)))), t0) := by
  have hlen := hB.2.1.len
  obtain ⟨x2, x3, x4, x5⟩ := hB.2.1.refs hB.1
  intro m
  induction m with
  | zero =>
    intro i hi
    have hil : i = l.length := by omega
    subst hil
    rw [sX12_all_4, List.take_length, hB.all (f := D) (fun k hk => hk)]
    simp (disch := first | exact jm_lt0 | (apply jm_ltx; (repeat (first | exact jw_0 | apply jw_i | apply jw_r | apply jw_l)); omega) | omega | assumption | exact sa_432 | exact n32_inA sb_432 (by omega) (by omega) | (refine n32_inA (by assumption) ?_ ?_ <;> omega) | exact bi01 | (rw [sa_432]; omega) | decide) only [sX12_all_0, sX12_all_1, sX12_all_2, sX12_all_3, sX12_all_5, sX12_all_6, sX12_all_9, sX12_all_12, sX12_all_13, sX12_all_14, sX12_all_17, sX12_all_18, sX12_all_21, sX12_all_22, sX12_all_23, sX12_all_24, sX12_all_25, sX12_all_26, sX12_all_29, kX12_all_32_AJNI, sX12_all_32, sX12_all_33, evK_n, evK_v, evK_x, gI_pI, gJ_pI, gR_pI, gI_pJ, gJ_pJ, gR_pJ, gI_pR, gJ_pR, gR_pR, n32_le, n32_lt, n32_add, n32_mul, n32_cl, if_true, if_false, not_true_eq_false, not_false_eq_true, and_true, true_and, and_false, false_and, and_self, or_true, true_or, or_false, false_or, or_self, ne_eq, Decidable.not_not, Nat.reduceEqDiff, Nat.reduceEqDiff, sa_432, sb_432, x4]
    rw [if_pos (by omega)]
  | succ m ih =>
    intro i hi
    have hil : i < l.length := by omega
    have hik : l[i]? = some l[i] := List.getElem?_eq_getElem hil
    obtain ⟨hk, hDk⟩ := hB.it hik
    have hmx := mix_lt hk
    obtain ⟨x6, x7⟩ := x5 i _ hik
    have h := ih (i + 1) (by omega)
    rw [sumL_tk hik, ← n64_add] at h
    have g1 : ¬ l.length ≤ i := by omega
    rw [sX12_all_4]
    simp (disch := first | exact jm_lt0 | (apply jm_ltx; (repeat (first | exact jw_0 | apply jw_i | apply jw_r | apply jw_l)); omega) | omega | assumption | exact sa_432 | exact sa_451 | exact sa_453 | exact n32_inA sb_432 (by omega) (by omega) | exact n32_inA sb_451 (by omega) (by omega) | exact n32_inA sb_453 (by omega) (by omega) | (refine n32_inA (by assumption) ?_ ?_ <;> omega) | exact bi01 | (rw [sa_432]; omega) | (rw [sa_451]; omega) | (rw [sa_453]; omega) | decide) only [sX12_all_0, sX12_all_1, sX12_all_2, sX12_all_3, sX12_all_5, sX12_all_6, sX12_all_9, sX12_all_12, sX12_all_13, sX12_all_14, sX12_all_17, sX12_all_18, sX12_all_21, sX12_all_22, sX12_all_23, sX12_all_24, sX12_all_25, sX12_all_26, sX12_all_29, kX12_all_32_AJNI, sX12_all_32, sX12_all_33, evK_n, evK_v, evK_x, gI_pI, gJ_pI, gR_pI, gI_pJ, gJ_pJ, gR_pJ, gI_pR, gJ_pR, gR_pR, n32_le, n32_lt, n32_add, n32_mul, n32_cl, if_true, if_false, not_true_eq_false, not_false_eq_true, and_true, true_and, and_false, false_and, and_self, or_true, true_or, or_false, false_or, or_self, ne_eq, Decidable.not_not, Nat.reduceEqDiff, Nat.reduceEqDiff, sa_432, sb_432, sa_451, sb_451, sa_453, sb_453, x2, x3, x4, g1, x6, x7]
    exact h
theorem m_all {g : fm_g} {d u : Nat} {t : fm_S} (hF : FX t) (hO : OMw t D u) (hD : sumN D NS ≤ ONE) : ev g d mX12_all 0 [some (.ref (432 : Nat)), none, none, none] [] t = some (.inl (some (.long (Int64.ofNat (sumN D NS)))), t) := by
  obtain ⟨l, o1, o2, -⟩ := hO
  have hB : MB t l D := ⟨hF, o1, o2, hD⟩
  have h := m_allLoop (g := g) (d := d) hB l.length 0 (by omega)
  rw [sX12_all_0, sX12_all_1, sX12_all_2, sX12_all_3]
  exact h
end MG
