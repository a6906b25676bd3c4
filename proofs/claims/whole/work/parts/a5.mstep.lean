/-! the model: a STEP of all parts; behind a VISIT -/
def F467 (t : fm_S) (w : WD) (v : Nat) : Prop := gI t 457 4 = Int32.ofNat (wM w v) ∧ gI t 457 6 = sncW (wW w) (wM w) v v ∧ gI t 457 7 = Int32.ofNat (cntW (wW w) (wW w v) (v + 1))
theorem m_findFacts {g : fm_g} {d k v : Nat} {w : WD} {t : fm_S} (hF : FX t) (hW : MW t w) (hw : wOK w) (hH : MH t k) (hv : v < wn w) (hst : kst k ≤ wn w) (h467 : F467 t w v) : ∃ t', ev g (d + 1) mX12_findFacts 0 [some (.ref (432 : Nat)), some (.int (Int32.ofNat v))] [] t = some (.inl none, t') ∧ FM (fun b _ => b = 457) nO t t' ∧ ∀ j, j < 8 → gI t' 457 j = wX w v k j := by
  have r56 := hF.u 432 56 457 (by decide +kernel)
  have r11 := hF.u 432 11 436 (by decide +kernel)
  obtain ⟨h51, h52, h53, h54, h55⟩ := id hH
  have o0 := hW.1 0 (by decide)
  have hF0 : FX (pI t 457 0 (Int32.ofNat (kcard k))) := hF.pI
  have hW0 : MW (pI t 457 0 (Int32.ofNat (kcard k))) w := hW.of (fun b j hb => by rw [gI_pI, if_neg (by rintro ⟨rfl, -⟩; exact hb (by unfold pM; omega))])
  have hH0 : MH (pI t 457 0 (Int32.ofNat (kcard k))) k := hH.of (fun j h1 h2 => by rw [gI_pI, if_neg (by omega)])
  have e1 := m_isWarm (g := g) (d := d) hF0 hW0 hw hH0 hv hst
  refine ⟨pI (pI (pI (pI (pI t 457 0 (Int32.ofNat (kcard k))) 457 1 (bi (kwm w v k = true))) 457 2 (Int32.ofNat (kc k + kd k))) 457 3 (Int32.ofNat (wT w 0) - Int32.ofNat (kc k) - Int32.ofNat (kd k))) 457 5 (Int32.ofNat (kseen k)), ?_, ?_, ?_⟩
  · cases c : kwm w v k with
    | true =>
      rw [c] at e1
      simp (disch := first | exact jm_lt0 | (apply jm_ltx; (repeat (first | exact jw_0 | apply jw_i | apply jw_r | apply jw_l)); omega) | omega | assumption | exact sa_432 | exact sa_457 | exact sa_436 | exact n32_inA sb_432 (by omega) (by omega) | exact n32_inA sb_457 (by omega) (by omega) | exact n32_inA sb_436 (by omega) (by omega) | (refine n32_inA (by assumption) ?_ ?_ <;> omega) | exact bi01 | (rw [sa_432]; omega) | (rw [sa_457]; omega) | (rw [sa_436]; omega) | decide) only [sX12_findFacts_0, sX12_findFacts_1, sX12_findFacts_4, sX12_findFacts_5, sX12_findFacts_6, sX12_findFacts_9, sX12_findFacts_10, sX12_findFacts_11, sX12_findFacts_14, sX12_findFacts_15, sX12_findFacts_16, sX12_findFacts_17, sX12_findFacts_20, sX12_findFacts_23, sX12_findFacts_24, kX12_findFacts_27_AI, sX12_findFacts_27, kX12_findFacts_28_AI, sX12_findFacts_28, sX12_findFacts_29, sX12_findFacts_30, sX12_findFacts_33, sX12_findFacts_34, sX12_findFacts_35, sX12_findFacts_38, sX12_findFacts_39, sX12_findFacts_42, sX12_findFacts_43, sX12_findFacts_44, sX12_findFacts_45, sX12_findFacts_48, sX12_findFacts_49, sX12_findFacts_50, sX12_findFacts_53, sX12_findFacts_54, sX12_findFacts_55, sX12_findFacts_56, sX12_findFacts_59, sX12_findFacts_60, sX12_findFacts_61, sX12_findFacts_64, sX12_findFacts_65, sX12_findFacts_66, sX12_findFacts_67, sX12_findFacts_70, sX12_findFacts_71, sX12_findFacts_72, sX12_findFacts_75, sX12_findFacts_76, evK_n, evK_v, evK_x, gI_pI, gJ_pI, gR_pI, gI_pJ, gJ_pJ, gR_pJ, gI_pR, gJ_pR, gR_pR, n32_le, n32_lt, n32_add, n32_mul, n32_cl, if_true, if_false, not_true_eq_false, not_false_eq_true, and_true, true_and, and_false, false_and, and_self, or_true, true_or, or_false, false_or, or_self, ne_eq, Decidable.not_not, Nat.reduceEqDiff, Nat.reduceEqDiff, sa_432, sb_432, sa_457, sb_457, sa_436, sb_436, r56, r11, h51, h52, h53, h55, o0, e1, bi, show ¬ (Int32.ofNat 1 = 0) by decide, show ¬ ((432 : Nat) = 457) by decide, show ¬ ((436 : Nat) = 457) by decide]
    | false =>
      rw [c] at e1
      simp (disch := first | exact jm_lt0 | (apply jm_ltx; (repeat (first | exact jw_0 | apply jw_i | apply jw_r | apply jw_l)); omega) | omega | assumption | exact sa_432 | exact sa_457 | exact sa_436 | exact n32_inA sb_432 (by omega) (by omega) | exact n32_inA sb_457 (by omega) (by omega) | exact n32_inA sb_436 (by omega) (by omega) | (refine n32_inA (by assumption) ?_ ?_ <;> omega) | exact bi01 | (rw [sa_432]; omega) | (rw [sa_457]; omega) | (rw [sa_436]; omega) | decide) only [sX12_findFacts_0, sX12_findFacts_1, sX12_findFacts_4, sX12_findFacts_5, sX12_findFacts_6, sX12_findFacts_9, sX12_findFacts_10, sX12_findFacts_11, sX12_findFacts_14, sX12_findFacts_15, sX12_findFacts_16, sX12_findFacts_17, sX12_findFacts_20, sX12_findFacts_23, sX12_findFacts_24, kX12_findFacts_27_AI, sX12_findFacts_27, kX12_findFacts_28_AI, sX12_findFacts_28, sX12_findFacts_29, sX12_findFacts_30, sX12_findFacts_33, sX12_findFacts_34, sX12_findFacts_35, sX12_findFacts_38, sX12_findFacts_39, sX12_findFacts_42, sX12_findFacts_43, sX12_findFacts_44, sX12_findFacts_45, sX12_findFacts_48, sX12_findFacts_49, sX12_findFacts_50, sX12_findFacts_53, sX12_findFacts_54, sX12_findFacts_55, sX12_findFacts_56, sX12_findFacts_59, sX12_findFacts_60, sX12_findFacts_61, sX12_findFacts_64, sX12_findFacts_65, sX12_findFacts_66, sX12_findFacts_67, sX12_findFacts_70, sX12_findFacts_71, sX12_findFacts_72, sX12_findFacts_75, sX12_findFacts_76, evK_n, evK_v, evK_x, gI_pI, gJ_pI, gR_pI, gI_pJ, gJ_pJ, gR_pJ, gI_pR, gJ_pR, gR_pR, n32_le, n32_lt, n32_add, n32_mul, n32_cl, if_true, if_false, not_true_eq_false, not_false_eq_true, and_true, true_and, and_false, false_and, and_self, or_true, true_or, or_false, false_or, or_self, ne_eq, Decidable.not_not, Nat.reduceEqDiff, Nat.reduceEqDiff, sa_432, sb_432, sa_457, sb_457, sa_436, sb_436, r56, r11, h51, h52, h53, h55, o0, e1, bi, z32, Bool.false_eq_true, show ¬ ((432 : Nat) = 457) by decide, show ¬ ((436 : Nat) = 457) by decide]
  · refine FM.tr ?_ (FM.pI rfl)
    refine FM.tr ?_ (FM.pI rfl)
    refine FM.tr ?_ (FM.pI rfl)
    refine FM.tr ?_ (FM.pI rfl)
    refine FM.tr ?_ (FM.pI rfl)
    exact FM.rf
  · intro j hj
    obtain ⟨g4, g6, g7⟩ := h467
    have : j = 0 ∨ j = 1 ∨ j = 2 ∨ j = 3 ∨ j = 4 ∨ j = 5 ∨ j = 6 ∨ j = 7 := by omega
    rcases this with rfl | rfl | rfl | rfl | rfl | rfl | rfl | rfl <;> simp [gI_pI, wX, g4, g6, g7]
section MS
variable {t0 : fm_S} {l : List Nat} {D : Nat → Nat}
theorem m_stepLoop {g : fm_g} {d v h i see : Nat} {w : WD} {dr : Nat → Nat} {wa lo : Nat} (hB : MB t0 l D) (hW : MW t0 w) (hw : wOK w) (hv : v < wn w) (hh : h < 7) (hi : i < hbm (wH w h)) (h44 : gI t0 432 44 = Int32.ofNat see) (hs : see ≤ 16) (h467 : F467 t0 w v) (hsup : ∀ k, k < NS → D k ≠ 0 → kst k ≤ v + 1) (hlive : ∀ k ∈ l, kst k ≤ v + 1) : ∀ (m j : Nat) (t : fm_S), j + m = l.length → QS t0 t l D (prt (cStep (soB w v h i) (wT w 0) see (hbA (wH w h) i) (hbQ (wH w h) i) v) D l j) → CM3 t (addP dr (wW w v) (sumL (gD (soB w v h i) (hbA (wH w h) i) (hbQ (wH w h) i) D) (l.take j))) (wa + sumL (gW (soB w v h i) (hbA (wH w h) i) (hbQ (wH w h) i) D) (l.take j)) (lo + sumL (gL (soB w v h i) (hbA (wH w h) i) (hbQ (wH w h) i) D) (l.take j)) → (∀ j, 43 ≤ j → j ≤ 50 → gI t 432 j = gI t0 432 j) → F467 t w v → ∃ t', ev g (d + 3) mX12_goesStep 35 [some (.ref (432 : Nat)), some (.int (Int32.ofNat h)), some (.int (Int32.ofNat i)), some (.int (Int32.ofNat v)), some (.int (Int32.ofNat (hbA (wH w h) i))), some (.int (Int32.ofNat (hbQ (wH w h) i))), some (.int (Int32.ofNat j)), none, none, none, none, none] [] t = some (.inl none, t') ∧ FM pM qM t0 t' ∧ OM t' (pas (cStep (soB w v h i) (wT w 0) see (hbA (wH w h) i) (hbQ (wH w h) i) v) D) ∧ CM3 t' (addP dr (wW w v) (sumN (gD (soB w v h i) (hbA (wH w h) i) (hbQ (wH w h) i) D) NS)) (wa + sumN (gW (soB w v h i) (hbA (wH w h) i) (hbQ (wH w h) i) D) NS) (lo + sumN (gL (soB w v h i) (hbA (wH w h) i) (hbQ (wH w h) i) D) NS) ∧ (∀ j, 43 ≤ j → j ≤ 50 → gI t' 432 j = gI t0 432 j) ∧ F467 t' w v := by
  have hF := hB.1
  have hn : wn w ≤ 24 := hw.2.2.1
  have hB2 : BIG = 4611686018427387904 := rfl
  have hO2 : ONE = 1099511627776 := rfl
  have hlen := hB.2.1.len
  have hOK1 := hw.2.2.2.2.1 h hh
  obtain ⟨u1, u2, -⟩ := hw.1
  obtain ⟨o1, o2, o3, o4⟩ := id hOK1
  obtain ⟨p1, p2, p3, p4, p5⟩ := o4 i hi
  generalize hso : soB w v h i = so
  have hsoE : ∀ k, so k = cnd (wH w h) i (wX w v k) := fun k => by rw [← hso]; rfl
  generalize hqq : hbQ (wH w h) i = q at p2 ⊢
  generalize hact : hbA (wH w h) i = act at p1 ⊢
  have hamt : ∀ k, k < NS → amt (cStep so (wT w 0) see act q v k (D k)) ≤ D k := fun k hk => Nat.le_of_eq (cStep_ok (by omega) hs p2 (by omega) k (D k) hk trivial).1
  intro m
  induction m with
  | zero =>
    intro j t hj hQ hT hV h4
    have hil : j = l.length := by omega
    subst hil
    obtain ⟨x1, x2, x3, x4, x5⟩ := hQ.refs hF
    obtain ⟨t', f1, f2, f3, f4, f5⟩ := hQ.next (g := g) (d := d + 2) hF
    have hfin : prt (cStep so (wT w 0) see act q v) D l l.length = pas (cStep so (wT w 0) see act q v) D := by
      have hfil : ∀ k, D k = 0 → k < NS → ∀ τ, tal (cStep so (wT w 0) see act q v k (D k)) τ = 0 := fun k h0 hk τ => by
        rw [h0]
        exact Nat.le_zero.mp (Nat.le_trans tal_le (Nat.le_of_eq (cStep_0 (by omega) hs (by omega) hk)))
      funext τ
      show sumL (fun k => tal (cStep so (wT w 0) see act q v k (D k)) τ) (l.take l.length) = _
      rw [List.take_length]
      refine sumL_all hB.2.1.2.1 hB.2.1.2.2.1 (fun k hk hn => hfil k ?_ hk τ)
      rcases Nat.eq_zero_or_pos (D k) with h0 | h0
      · exact h0
      · exact absurd ((hB.2.1.2.2.2.2.2 k hk).2 (by omega)) hn
    have f467 : ∀ jj, gI t' 457 jj = gI t 457 jj := fun jj => by
      obtain ⟨l', hX⟩ := hQ.2.2
      obtain ⟨t'', y1, y2, -⟩ := m_takesNext (g := g) (d := d + 2) x1 hQ.2.1 hX
      rw [f1] at y1
      have : t' = t'' := by
        have := Option.some.inj y1
        exact (Prod.mk.inj this).2
      rw [this]
      exact y2.2.1 _ _ (by unfold pTN; omega)
    refine ⟨t', ?_, f2, by rw [← hfin]; exact f3, ?_, fun j h1 h2 => by rw [f5 j (by omega), hV j h1 h2], ⟨by rw [f467, h4.1], by rw [f467, h4.2.1], by rw [f467, h4.2.2]⟩⟩
    · rw [sX12_goesStep_35]
      simp (disch := first | exact jm_lt0 | (apply jm_ltx; (repeat (first | exact jw_0 | apply jw_i | apply jw_r | apply jw_l)); omega) | omega | assumption | exact sa_432 | exact n32_inA sb_432 (by omega) (by omega) | (refine n32_inA (by assumption) ?_ ?_ <;> omega) | exact bi01 | (rw [sa_432]; omega) | decide) only [sX12_goesStep_0, sX12_goesStep_1, sX12_goesStep_4, sX12_goesStep_6, sX12_goesStep_7, sX12_goesStep_8, sX12_goesStep_9, sX12_goesStep_10, sX12_goesStep_11, sX12_goesStep_12, sX12_goesStep_13, sX12_goesStep_15, sX12_goesStep_16, sX12_goesStep_19, sX12_goesStep_21, sX12_goesStep_22, sX12_goesStep_23, sX12_goesStep_24, sX12_goesStep_25, sX12_goesStep_26, sX12_goesStep_27, sX12_goesStep_28, sX12_goesStep_29, sX12_goesStep_30, sX12_goesStep_32, sX12_goesStep_33, sX12_goesStep_37, sX12_goesStep_38, sX12_goesStep_41, sX12_goesStep_44, sX12_goesStep_45, sX12_goesStep_48, sX12_goesStep_50, sX12_goesStep_51, sX12_goesStep_53, sX12_goesStep_54, sX12_goesStep_57, sX12_goesStep_59, sX12_goesStep_60, sX12_goesStep_62, sX12_goesStep_63, sX12_goesStep_65, sX12_goesStep_68, sX12_goesStep_69, sX12_goesStep_70, sX12_goesStep_73, sX12_goesStep_74, sX12_goesStep_75, sX12_goesStep_76, sX12_goesStep_79, sX12_goesStep_82, sX12_goesStep_83, sX12_goesStep_86, sX12_goesStep_88, sX12_goesStep_91, sX12_goesStep_93, sX12_goesStep_96, sX12_goesStep_98, sX12_goesStep_100, sX12_goesStep_101, sX12_goesStep_102, sX12_goesStep_105, sX12_goesStep_106, sX12_goesStep_108, sX12_goesStep_109, sX12_goesStep_111, sX12_goesStep_113, sX12_goesStep_115, sX12_goesStep_116, sX12_goesStep_119, sX12_goesStep_121, sX12_goesStep_122, sX12_goesStep_123, sX12_goesStep_126, sX12_goesStep_127, sX12_goesStep_129, sX12_goesStep_131, sX12_goesStep_132, kX12_goesStep_135_AIIIIIIIJNJN, sX12_goesStep_135, sX12_goesStep_138, kX12_goesStep_141_AIIIIIINNNNN, sX12_goesStep_141, sX12_goesStep_142, sX12_goesStep_145, evK_n, evK_v, evK_x, gI_pI, gJ_pI, gR_pI, gI_pJ, gJ_pJ, gR_pJ, gI_pR, gJ_pR, gR_pR, n32_le, n32_lt, n32_add, n32_mul, n32_cl, if_true, if_false, not_true_eq_false, not_false_eq_true, and_true, true_and, and_false, false_and, and_self, or_true, true_or, or_false, false_or, or_self, ne_eq, Decidable.not_not, Nat.reduceEqDiff, Nat.reduceEqDiff, sa_432, sb_432, x4]
      rw [if_pos (by omega), f1, evK_n, sX12_goesStep_145]
    · rw [List.take_length, hB.all (fun k hk => (gDWL_0 hk).1), hB.all (fun k hk => (gDWL_0 hk).2.1), hB.all (fun k hk => (gDWL_0 hk).2.2)] at hT
      exact hT.cm f4
  | succ m ih =>
    intro j t hj hQ hT hV h4
    have hil : j < l.length := by omega
    have hik : l[j]? = some l[j] := List.getElem?_eq_getElem hil
    have hst := hlive _ (List.getElem_mem hil)
    generalize l[j] = k at hik hst
    obtain ⟨hk, hDk⟩ := hB.it hik
    have hmx := mix_lt hk
    obtain ⟨x1, x2, x3, x4, x5⟩ := hQ.refs hF
    obtain ⟨x6, x7⟩ := x5 j k hik
    have hpl := hB.pr hamt j
    -- the state in hand
    obtain ⟨t1, e1, hQ1, hM1, hH1⟩ := hQ.state (g := g) (d := d + 2) hk
    have hW1 : MW t1 w := hW.of (fun b j hb => hQ1.1.2.1 b j hb)
    have h41 : F467 t1 w v := ⟨by rw [hM1.2.1 _ _ (by unfold pMh; omega), h4.1], by rw [hM1.2.1 _ _ (by unfold pMh; omega), h4.2.1], by rw [hM1.2.1 _ _ (by unfold pMh; omega), h4.2.2]⟩
    obtain ⟨y1, y2, y3, y4, y5⟩ := hQ1.refs hF
    -- its facts
    obtain ⟨t2, e2, hM2, hX2⟩ := m_findFacts (g := g) (d := d + 1) y1 hW1 hw hH1 hv (by omega) h41
    have hQ2 : QS t0 t2 l D (prt (cStep so (wT w 0) see act q v) D l j) := hQ1.fm (hM2.mono (fun b j q => Or.inr (Or.inr q)) (fun _ _ q => q))
    have hW2 : MW t2 w := hW.of (fun b j hb => hQ2.1.2.1 b j hb)
    have h42 : F467 t2 w v := ⟨by rw [hX2 4 (by omega)]; rfl, by rw [hX2 6 (by omega)]; rfl, by rw [hX2 7 (by omega)]; rfl⟩
    have hH2 : MH t2 k := hH1.of (fun j h1 h2 => hM2.2.1 _ _ (by omega))
    -- its condition
    obtain ⟨t3, e3, hS3⟩ := m_isSo (g := g) (d := d + 1) (hM2.fx y1) hh hOK1 (hW2.2.2.2.2.1 h hh) hi hX2
    have hM3 : FM (fun b j => (b = 432 ∧ 43 ≤ j ∧ j ≤ 60) ∨ b = 444 ∨ b = 457) nO t2 t3 := ⟨by rw [hS3.1], fun b j hb => hS3.2 b j (fun q => hb (Or.inr (Or.inl q))), fun b j _ => by show t3.2.1 b j = t2.2.1 b j; rw [hS3.1]⟩
    have hQ3 := hQ2.fm hM3
    have hW3 : MW t3 w := hW.of (fun b j hb => hQ3.1.2.1 b j hb)
    have hH3 : MH t3 k := hH2.of (fun j h1 h2 => hS3.2 _ _ (by omega))
    have h43' : F467 t3 w v := ⟨by rw [hS3.2 _ _ (by omega), h42.1], by rw [hS3.2 _ _ (by omega), h42.2.1], by rw [hS3.2 _ _ (by omega), h42.2.2]⟩
    have hT3 := ((hT.cm (CM.h hM1)).cm (CM.h hM2)).cm (CM.h hM3)
    have hV3 : ∀ j, 43 ≤ j → j ≤ 50 → gI t3 432 j = gI t0 432 j := fun j h1 h2 => by rw [hS3.2 _ _ (by omega), hM2.2.1 _ _ (by omega), hM1.2.1 _ _ (by unfold pMh; omega), hV j h1 h2]
    rw [← hsoE] at e3
    -- how many act
    have hale := aOf_le (so := so) (k := k) (p := D k) p2
    have stepA : ev g (d + 3) mX12_goesStep 73 [some (.ref (432 : Nat)), some (.int (Int32.ofNat h)), some (.int (Int32.ofNat i)), some (.int (Int32.ofNat v)), some (.int (Int32.ofNat act)), some (.int (Int32.ofNat q)), some (.int (Int32.ofNat j)), some (.int (Int32.ofNat (mix k))), some (.long (Int64.ofNat (D k))), none, none, none] [] t2 = ev g (d + 3) mX12_goesStep 108 [some (.ref (432 : Nat)), some (.int (Int32.ofNat h)), some (.int (Int32.ofNat i)), some (.int (Int32.ofNat v)), some (.int (Int32.ofNat act)), some (.int (Int32.ofNat q)), some (.int (Int32.ofNat j)), some (.int (Int32.ofNat (mix k))), some (.long (Int64.ofNat (D k))), none, some (.long (Int64.ofNat (aOf so q k (D k)))), none] [] t3 := by
      cases c : so k with
      | false =>
        rw [bi_f (by rw [c]; decide)] at e3
        have ha : aOf so q k (D k) = 0 := by unfold aOf; rw [c]; rfl
        rw [ha]
        simp (disch := first | exact jm_lt0 | (apply jm_ltx; (repeat (first | exact jw_0 | apply jw_i | apply jw_r | apply jw_l)); omega) | omega | assumption | exact sa_432 | exact n32_inA sb_432 (by omega) (by omega) | (refine n32_inA (by assumption) ?_ ?_ <;> omega) | exact bi01 | (rw [sa_432]; omega) | decide) only [sX12_goesStep_0, sX12_goesStep_1, sX12_goesStep_4, sX12_goesStep_6, sX12_goesStep_7, sX12_goesStep_8, sX12_goesStep_9, sX12_goesStep_10, sX12_goesStep_11, sX12_goesStep_12, sX12_goesStep_13, sX12_goesStep_15, sX12_goesStep_16, sX12_goesStep_19, sX12_goesStep_21, sX12_goesStep_22, sX12_goesStep_23, sX12_goesStep_24, sX12_goesStep_25, sX12_goesStep_26, sX12_goesStep_27, sX12_goesStep_28, sX12_goesStep_29, sX12_goesStep_30, sX12_goesStep_32, sX12_goesStep_33, sX12_goesStep_37, sX12_goesStep_38, sX12_goesStep_41, sX12_goesStep_44, sX12_goesStep_45, sX12_goesStep_48, sX12_goesStep_50, sX12_goesStep_51, sX12_goesStep_53, sX12_goesStep_54, sX12_goesStep_57, sX12_goesStep_59, sX12_goesStep_60, sX12_goesStep_62, sX12_goesStep_63, sX12_goesStep_65, sX12_goesStep_68, sX12_goesStep_69, sX12_goesStep_70, sX12_goesStep_73, sX12_goesStep_74, sX12_goesStep_75, sX12_goesStep_76, sX12_goesStep_79, sX12_goesStep_82, sX12_goesStep_83, sX12_goesStep_86, sX12_goesStep_88, sX12_goesStep_91, sX12_goesStep_93, sX12_goesStep_96, sX12_goesStep_98, sX12_goesStep_100, sX12_goesStep_101, sX12_goesStep_102, sX12_goesStep_105, sX12_goesStep_106, sX12_goesStep_109, sX12_goesStep_111, sX12_goesStep_113, sX12_goesStep_115, sX12_goesStep_116, sX12_goesStep_119, sX12_goesStep_121, sX12_goesStep_122, sX12_goesStep_123, sX12_goesStep_126, sX12_goesStep_127, sX12_goesStep_129, sX12_goesStep_131, sX12_goesStep_132, kX12_goesStep_135_AIIIIIIIJNJN, sX12_goesStep_135, sX12_goesStep_138, kX12_goesStep_141_AIIIIIINNNNN, sX12_goesStep_141, sX12_goesStep_142, sX12_goesStep_145, evK_n, evK_v, evK_x, gI_pI, gJ_pI, gR_pI, gI_pJ, gJ_pJ, gR_pJ, gI_pR, gJ_pR, gR_pR, n32_le, n32_lt, n32_add, n32_mul, n32_cl, if_true, if_false, not_true_eq_false, not_false_eq_true, and_true, true_and, and_false, false_and, and_self, or_true, true_or, or_false, false_or, or_self, ne_eq, Decidable.not_not, Nat.reduceEqDiff, Nat.reduceEqDiff, e3, z32, show ¬ (Int32.ofNat 1 = 0) by decide, ne_eq]
      | true =>
        rw [bi_t c] at e3
        by_cases cq : q = 0
        · have ha : aOf so q k (D k) = D k := by unfold aOf; rw [if_pos c, if_pos cq]
          rw [ha, cq]
          simp (disch := first | exact jm_lt0 | (apply jm_ltx; (repeat (first | exact jw_0 | apply jw_i | apply jw_r | apply jw_l)); omega) | omega | assumption | exact sa_432 | exact n32_inA sb_432 (by omega) (by omega) | (refine n32_inA (by assumption) ?_ ?_ <;> omega) | exact bi01 | (rw [sa_432]; omega) | decide) only [sX12_goesStep_0, sX12_goesStep_1, sX12_goesStep_4, sX12_goesStep_6, sX12_goesStep_7, sX12_goesStep_8, sX12_goesStep_9, sX12_goesStep_10, sX12_goesStep_11, sX12_goesStep_12, sX12_goesStep_13, sX12_goesStep_15, sX12_goesStep_16, sX12_goesStep_19, sX12_goesStep_21, sX12_goesStep_22, sX12_goesStep_23, sX12_goesStep_24, sX12_goesStep_25, sX12_goesStep_26, sX12_goesStep_27, sX12_goesStep_28, sX12_goesStep_29, sX12_goesStep_30, sX12_goesStep_32, sX12_goesStep_33, sX12_goesStep_37, sX12_goesStep_38, sX12_goesStep_41, sX12_goesStep_44, sX12_goesStep_45, sX12_goesStep_48, sX12_goesStep_50, sX12_goesStep_51, sX12_goesStep_53, sX12_goesStep_54, sX12_goesStep_57, sX12_goesStep_59, sX12_goesStep_60, sX12_goesStep_62, sX12_goesStep_63, sX12_goesStep_65, sX12_goesStep_68, sX12_goesStep_69, sX12_goesStep_70, sX12_goesStep_73, sX12_goesStep_74, sX12_goesStep_75, sX12_goesStep_76, sX12_goesStep_79, sX12_goesStep_82, sX12_goesStep_83, sX12_goesStep_86, sX12_goesStep_88, sX12_goesStep_91, sX12_goesStep_93, sX12_goesStep_96, sX12_goesStep_98, sX12_goesStep_100, sX12_goesStep_101, sX12_goesStep_102, sX12_goesStep_105, sX12_goesStep_106, sX12_goesStep_109, sX12_goesStep_111, sX12_goesStep_113, sX12_goesStep_115, sX12_goesStep_116, sX12_goesStep_119, sX12_goesStep_121, sX12_goesStep_122, sX12_goesStep_123, sX12_goesStep_126, sX12_goesStep_127, sX12_goesStep_129, sX12_goesStep_131, sX12_goesStep_132, kX12_goesStep_135_AIIIIIIIJNJN, sX12_goesStep_135, sX12_goesStep_138, kX12_goesStep_141_AIIIIIINNNNN, sX12_goesStep_141, sX12_goesStep_142, sX12_goesStep_145, evK_n, evK_v, evK_x, gI_pI, gJ_pI, gR_pI, gI_pJ, gJ_pJ, gR_pJ, gI_pR, gJ_pR, gR_pR, n32_le, n32_lt, n32_add, n32_mul, n32_cl, if_true, if_false, not_true_eq_false, not_false_eq_true, and_true, true_and, and_false, false_and, and_self, or_true, true_or, or_false, false_or, or_self, ne_eq, Decidable.not_not, Nat.reduceEqDiff, Nat.reduceEqDiff, e3, z32, show ¬ (Int32.ofNat 1 = 0) by decide, ne_eq]
        · have ha : aOf so q k (D k) = D k * q / 16 := by unfold aOf; rw [if_pos c, if_neg cq]
          have cq' : ¬ Int32.ofNat q = 0 := by rw [n32_eq0 (by omega)]; exact cq
          have q1 : Int64.ofNat (D k * q) / Int64.ofNat 16 = Int64.ofNat (D k * q / 16) := by rw [← n64_mul, lp_q hDk (by omega)]
          rw [ha]
          simp (disch := first | exact jm_lt0 | (apply jm_ltx; (repeat (first | exact jw_0 | apply jw_i | apply jw_r | apply jw_l)); omega) | omega | assumption | exact sa_432 | exact n32_inA sb_432 (by omega) (by omega) | (refine n32_inA (by assumption) ?_ ?_ <;> omega) | exact bi01 | (rw [sa_432]; omega) | decide) only [sX12_goesStep_0, sX12_goesStep_1, sX12_goesStep_4, sX12_goesStep_6, sX12_goesStep_7, sX12_goesStep_8, sX12_goesStep_9, sX12_goesStep_10, sX12_goesStep_11, sX12_goesStep_12, sX12_goesStep_13, sX12_goesStep_15, sX12_goesStep_16, sX12_goesStep_19, sX12_goesStep_21, sX12_goesStep_22, sX12_goesStep_23, sX12_goesStep_24, sX12_goesStep_25, sX12_goesStep_26, sX12_goesStep_27, sX12_goesStep_28, sX12_goesStep_29, sX12_goesStep_30, sX12_goesStep_32, sX12_goesStep_33, sX12_goesStep_37, sX12_goesStep_38, sX12_goesStep_41, sX12_goesStep_44, sX12_goesStep_45, sX12_goesStep_48, sX12_goesStep_50, sX12_goesStep_51, sX12_goesStep_53, sX12_goesStep_54, sX12_goesStep_57, sX12_goesStep_59, sX12_goesStep_60, sX12_goesStep_62, sX12_goesStep_63, sX12_goesStep_65, sX12_goesStep_68, sX12_goesStep_69, sX12_goesStep_70, sX12_goesStep_73, sX12_goesStep_74, sX12_goesStep_75, sX12_goesStep_76, sX12_goesStep_79, sX12_goesStep_82, sX12_goesStep_83, sX12_goesStep_86, sX12_goesStep_88, sX12_goesStep_91, sX12_goesStep_93, sX12_goesStep_96, sX12_goesStep_98, sX12_goesStep_100, sX12_goesStep_101, sX12_goesStep_102, sX12_goesStep_105, sX12_goesStep_106, sX12_goesStep_109, sX12_goesStep_111, sX12_goesStep_113, sX12_goesStep_115, sX12_goesStep_116, sX12_goesStep_119, sX12_goesStep_121, sX12_goesStep_122, sX12_goesStep_123, sX12_goesStep_126, sX12_goesStep_127, sX12_goesStep_129, sX12_goesStep_131, sX12_goesStep_132, kX12_goesStep_135_AIIIIIIIJNJN, sX12_goesStep_135, sX12_goesStep_138, kX12_goesStep_141_AIIIIIINNNNN, sX12_goesStep_141, sX12_goesStep_142, sX12_goesStep_145, evK_n, evK_v, evK_x, gI_pI, gJ_pI, gR_pI, gI_pJ, gJ_pJ, gR_pJ, gI_pR, gJ_pR, gR_pR, n32_le, n32_lt, n32_add, n32_mul, n32_cl, if_true, if_false, not_true_eq_false, not_false_eq_true, and_true, true_and, and_false, false_and, and_self, or_true, true_or, or_false, false_or, or_self, ne_eq, Decidable.not_not, Nat.reduceEqDiff, Nat.reduceEqDiff, e3, cq', n32_64, n64_mul, q1, show ¬ (Int32.ofNat 1 = 0) by decide, show ¬ (Int64.ofNat 16 = 0) by decide, ne_eq]
    obtain ⟨t4, e4, hQ4, hM4⟩ := hQ3.give (g := g) (d := d + 2) (k := k) (m := D k - aOf so q k (D k)) hF hk (by have := hpl k; omega)
    rw [upd_1] at hQ4
    have hW4 : MW t4 w := hW.of (fun b j hb => hQ4.1.2.1 b j hb)
    have hT4 := hT3.cm (CM.n hM4)
    have hH4 : MH t4 k := hH3.of (fun j h1 h2 => hM4.2.1 _ _ (by unfold pNx; omega))
    have h44' : F467 t4 w v := ⟨by rw [hM4.2.1 _ _ (by unfold pNx; omega), h43'.1], by rw [hM4.2.1 _ _ (by unfold pNx; omega), h43'.2.1], by rw [hM4.2.1 _ _ (by unfold pNx; omega), h43'.2.2]⟩
    have hV4 : ∀ j, 43 ≤ j → j ≤ 50 → gI t4 432 j = gI t0 432 j := fun j h1 h2 => by rw [hM4.2.1 _ _ (by unfold pNx; omega), hV3 j h1 h2]
    have hq2 : Int64.ofNat (D k) - Int64.ofNat (aOf so q k (D k)) = Int64.ofNat (D k - aOf so q k (D k)) := n64_sub hale
    have hnext : addF (addF (prt (cStep so (wT w 0) see act q v) D l j) [(k, D k - aOf so q k (D k))]) (cAct (wT w 0) see act v k (aOf so q k (D k))) = prt (cStep so (wT w 0) see act q v) D l (j + 1) := by
      rw [prt_succ hik]
      funext τ
      unfold addF cStep
      rw [tal_cons, tal_cons, tal_nil]
      omega
    have g1 : ¬ l.length ≤ j := by omega
    have pre : ev g (d + 3) mX12_goesStep 35 [some (.ref (432 : Nat)), some (.int (Int32.ofNat h)), some (.int (Int32.ofNat i)), some (.int (Int32.ofNat v)), some (.int (Int32.ofNat act)), some (.int (Int32.ofNat q)), some (.int (Int32.ofNat j)), none, none, none, none, none] [] t = ev g (d + 3) mX12_goesStep 119 [some (.ref (432 : Nat)), some (.int (Int32.ofNat h)), some (.int (Int32.ofNat i)), some (.int (Int32.ofNat v)), some (.int (Int32.ofNat act)), some (.int (Int32.ofNat q)), some (.int (Int32.ofNat j)), some (.int (Int32.ofNat (mix k))), some (.long (Int64.ofNat (D k))), none, some (.long (Int64.ofNat (aOf so q k (D k)))), none] [] t4 := by
      have p1 : ev g (d + 3) mX12_goesStep 35 [some (.ref (432 : Nat)), some (.int (Int32.ofNat h)), some (.int (Int32.ofNat i)), some (.int (Int32.ofNat v)), some (.int (Int32.ofNat act)), some (.int (Int32.ofNat q)), some (.int (Int32.ofNat j)), none, none, none, none, none] [] t = ev g (d + 3) mX12_goesStep 73 [some (.ref (432 : Nat)), some (.int (Int32.ofNat h)), some (.int (Int32.ofNat i)), some (.int (Int32.ofNat v)), some (.int (Int32.ofNat act)), some (.int (Int32.ofNat q)), some (.int (Int32.ofNat j)), some (.int (Int32.ofNat (mix k))), some (.long (Int64.ofNat (D k))), none, none, none] [] t2 := by
        rw [sX12_goesStep_35]
        simp (disch := first | exact jm_lt0 | (apply jm_ltx; (repeat (first | exact jw_0 | apply jw_i | apply jw_r | apply jw_l)); omega) | omega | assumption | exact sa_432 | exact sa_451 | exact sa_453 | exact n32_inA sb_432 (by omega) (by omega) | exact n32_inA sb_451 (by omega) (by omega) | exact n32_inA sb_453 (by omega) (by omega) | (refine n32_inA (by assumption) ?_ ?_ <;> omega) | exact bi01 | (rw [sa_432]; omega) | (rw [sa_451]; omega) | (rw [sa_453]; omega) | decide) only [sX12_goesStep_0, sX12_goesStep_1, sX12_goesStep_4, sX12_goesStep_6, sX12_goesStep_7, sX12_goesStep_8, sX12_goesStep_9, sX12_goesStep_10, sX12_goesStep_11, sX12_goesStep_12, sX12_goesStep_13, sX12_goesStep_15, sX12_goesStep_16, sX12_goesStep_19, sX12_goesStep_21, sX12_goesStep_22, sX12_goesStep_23, sX12_goesStep_24, sX12_goesStep_25, sX12_goesStep_26, sX12_goesStep_27, sX12_goesStep_28, sX12_goesStep_29, sX12_goesStep_30, sX12_goesStep_32, sX12_goesStep_33, sX12_goesStep_37, sX12_goesStep_38, sX12_goesStep_41, sX12_goesStep_44, sX12_goesStep_45, sX12_goesStep_48, sX12_goesStep_50, sX12_goesStep_51, sX12_goesStep_53, sX12_goesStep_54, sX12_goesStep_57, sX12_goesStep_59, sX12_goesStep_60, sX12_goesStep_62, sX12_goesStep_63, sX12_goesStep_65, sX12_goesStep_68, sX12_goesStep_69, sX12_goesStep_70, sX12_goesStep_74, sX12_goesStep_75, sX12_goesStep_76, sX12_goesStep_79, sX12_goesStep_82, sX12_goesStep_83, sX12_goesStep_86, sX12_goesStep_88, sX12_goesStep_91, sX12_goesStep_93, sX12_goesStep_96, sX12_goesStep_98, sX12_goesStep_100, sX12_goesStep_101, sX12_goesStep_102, sX12_goesStep_105, sX12_goesStep_106, sX12_goesStep_108, sX12_goesStep_109, sX12_goesStep_111, sX12_goesStep_113, sX12_goesStep_115, sX12_goesStep_116, sX12_goesStep_119, sX12_goesStep_121, sX12_goesStep_122, sX12_goesStep_123, sX12_goesStep_126, sX12_goesStep_127, sX12_goesStep_129, sX12_goesStep_131, sX12_goesStep_132, kX12_goesStep_135_AIIIIIIIJNJN, sX12_goesStep_135, sX12_goesStep_138, kX12_goesStep_141_AIIIIIINNNNN, sX12_goesStep_141, sX12_goesStep_142, sX12_goesStep_145, evK_n, evK_v, evK_x, gI_pI, gJ_pI, gR_pI, gI_pJ, gJ_pJ, gR_pJ, gI_pR, gJ_pR, gR_pR, n32_le, n32_lt, n32_add, n32_mul, n32_cl, if_true, if_false, not_true_eq_false, not_false_eq_true, and_true, true_and, and_false, false_and, and_self, or_true, true_or, or_false, false_or, or_self, ne_eq, Decidable.not_not, Nat.reduceEqDiff, Nat.reduceEqDiff, sa_432, sb_432, sa_451, sb_451, sa_453, sb_453, x2, x3, x4, g1, x6, x7, e1, e2]
      rw [p1, stepA]
      simp (disch := first | exact jm_lt0 | (apply jm_ltx; (repeat (first | exact jw_0 | apply jw_i | apply jw_r | apply jw_l)); omega) | omega | assumption | exact sa_432 | exact sa_451 | exact sa_453 | exact n32_inA sb_432 (by omega) (by omega) | exact n32_inA sb_451 (by omega) (by omega) | exact n32_inA sb_453 (by omega) (by omega) | (refine n32_inA (by assumption) ?_ ?_ <;> omega) | exact bi01 | (rw [sa_432]; omega) | (rw [sa_451]; omega) | (rw [sa_453]; omega) | decide) only [sX12_goesStep_0, sX12_goesStep_1, sX12_goesStep_4, sX12_goesStep_6, sX12_goesStep_7, sX12_goesStep_8, sX12_goesStep_9, sX12_goesStep_10, sX12_goesStep_11, sX12_goesStep_12, sX12_goesStep_13, sX12_goesStep_15, sX12_goesStep_16, sX12_goesStep_19, sX12_goesStep_21, sX12_goesStep_22, sX12_goesStep_23, sX12_goesStep_24, sX12_goesStep_25, sX12_goesStep_26, sX12_goesStep_27, sX12_goesStep_28, sX12_goesStep_29, sX12_goesStep_30, sX12_goesStep_32, sX12_goesStep_33, sX12_goesStep_37, sX12_goesStep_38, sX12_goesStep_41, sX12_goesStep_44, sX12_goesStep_45, sX12_goesStep_48, sX12_goesStep_50, sX12_goesStep_51, sX12_goesStep_53, sX12_goesStep_54, sX12_goesStep_57, sX12_goesStep_59, sX12_goesStep_60, sX12_goesStep_62, sX12_goesStep_63, sX12_goesStep_65, sX12_goesStep_68, sX12_goesStep_69, sX12_goesStep_70, sX12_goesStep_73, sX12_goesStep_74, sX12_goesStep_75, sX12_goesStep_76, sX12_goesStep_79, sX12_goesStep_82, sX12_goesStep_83, sX12_goesStep_86, sX12_goesStep_88, sX12_goesStep_91, sX12_goesStep_93, sX12_goesStep_96, sX12_goesStep_98, sX12_goesStep_100, sX12_goesStep_101, sX12_goesStep_102, sX12_goesStep_105, sX12_goesStep_106, sX12_goesStep_108, sX12_goesStep_109, sX12_goesStep_111, sX12_goesStep_113, sX12_goesStep_115, sX12_goesStep_116, sX12_goesStep_121, sX12_goesStep_122, sX12_goesStep_123, sX12_goesStep_126, sX12_goesStep_127, sX12_goesStep_129, sX12_goesStep_131, sX12_goesStep_132, kX12_goesStep_135_AIIIIIIIJNJN, sX12_goesStep_135, sX12_goesStep_138, kX12_goesStep_141_AIIIIIINNNNN, sX12_goesStep_141, sX12_goesStep_142, sX12_goesStep_145, evK_n, evK_v, evK_x, gI_pI, gJ_pI, gR_pI, gI_pJ, gJ_pJ, gR_pJ, gI_pR, gJ_pR, gR_pR, n32_le, n32_lt, n32_add, n32_mul, n32_cl, if_true, if_false, not_true_eq_false, not_false_eq_true, and_true, true_and, and_false, false_and, and_self, or_true, true_or, or_false, false_or, or_self, ne_eq, Decidable.not_not, Nat.reduceEqDiff, Nat.reduceEqDiff, sa_432, sb_432, sa_451, sb_451, sa_453, sb_453, hq2, e4]
    by_cases c0 : aOf so q k (D k) = 0
    · have hz : addF (addF (prt (cStep so (wT w 0) see act q v) D l j) [(k, D k - aOf so q k (D k))]) (cAct (wT w 0) see act v k (aOf so q k (D k))) = addF (prt (cStep so (wT w 0) see act q v) D l j) [(k, D k - aOf so q k (D k))] := addF_zero (by rw [(cAct_ok (by omega) hs (by omega) hk).1, c0])
      rw [hz] at hnext
      rw [hnext] at hQ4
      obtain ⟨t', f1, f2, f3, f4, f5, f6⟩ := ih (j + 1) t4 (by omega) hQ4 (by
        rw [sumL_tk hik, sumL_tk hik, sumL_tk hik]
        have e0 : gD so act q D k = 0 ∧ gW so act q D k = 0 ∧ gL so act q D k = 0 := by unfold gD gW gL; rw [c0]; simp
        rw [e0.1, e0.2.1, e0.2.2]
        exact hT4) hV4 h44'
      refine ⟨t', ?_, f2, f3, f4, f5, f6⟩
      rw [pre, c0]
      simp (disch := first | exact jm_lt0 | (apply jm_ltx; (repeat (first | exact jw_0 | apply jw_i | apply jw_r | apply jw_l)); omega) | omega | assumption | exact sa_432 | exact n32_inA sb_432 (by omega) (by omega) | (refine n32_inA (by assumption) ?_ ?_ <;> omega) | exact bi01 | (rw [sa_432]; omega) | decide) only [sX12_goesStep_0, sX12_goesStep_1, sX12_goesStep_4, sX12_goesStep_6, sX12_goesStep_7, sX12_goesStep_8, sX12_goesStep_9, sX12_goesStep_10, sX12_goesStep_11, sX12_goesStep_12, sX12_goesStep_13, sX12_goesStep_15, sX12_goesStep_16, sX12_goesStep_19, sX12_goesStep_21, sX12_goesStep_22, sX12_goesStep_23, sX12_goesStep_24, sX12_goesStep_25, sX12_goesStep_26, sX12_goesStep_27, sX12_goesStep_28, sX12_goesStep_29, sX12_goesStep_30, sX12_goesStep_32, sX12_goesStep_33, sX12_goesStep_37, sX12_goesStep_38, sX12_goesStep_41, sX12_goesStep_44, sX12_goesStep_45, sX12_goesStep_48, sX12_goesStep_50, sX12_goesStep_51, sX12_goesStep_53, sX12_goesStep_54, sX12_goesStep_57, sX12_goesStep_59, sX12_goesStep_60, sX12_goesStep_62, sX12_goesStep_63, sX12_goesStep_65, sX12_goesStep_68, sX12_goesStep_69, sX12_goesStep_70, sX12_goesStep_73, sX12_goesStep_74, sX12_goesStep_75, sX12_goesStep_76, sX12_goesStep_79, sX12_goesStep_82, sX12_goesStep_83, sX12_goesStep_86, sX12_goesStep_88, sX12_goesStep_91, sX12_goesStep_93, sX12_goesStep_96, sX12_goesStep_98, sX12_goesStep_100, sX12_goesStep_101, sX12_goesStep_102, sX12_goesStep_105, sX12_goesStep_106, sX12_goesStep_108, sX12_goesStep_109, sX12_goesStep_111, sX12_goesStep_113, sX12_goesStep_115, sX12_goesStep_116, sX12_goesStep_119, sX12_goesStep_121, sX12_goesStep_122, sX12_goesStep_123, sX12_goesStep_126, sX12_goesStep_127, sX12_goesStep_129, sX12_goesStep_131, sX12_goesStep_132, kX12_goesStep_135_AIIIIIIIJNJN, sX12_goesStep_135, sX12_goesStep_138, kX12_goesStep_141_AIIIIIINNNNN, sX12_goesStep_141, sX12_goesStep_142, sX12_goesStep_145, evK_n, evK_v, evK_x, gI_pI, gJ_pI, gR_pI, gI_pJ, gJ_pJ, gR_pJ, gI_pR, gJ_pR, gR_pR, n32_le, n32_lt, n32_add, n32_mul, n32_cl, if_true, if_false, not_true_eq_false, not_false_eq_true, and_true, true_and, and_false, false_and, and_self, or_true, true_or, or_false, false_or, or_self, ne_eq, Decidable.not_not, Nat.reduceEqDiff, Nat.reduceEqDiff, n64_cle, show (Int64.ofNat 0 ≤ Int64.ofNat 0) = True from eq_true (by decide)]
      exact f1
    · have hFb : ∀ τ, addF (prt (cStep so (wT w 0) see act q v) D l j) [(k, D k - aOf so q k (D k))] τ ≤ ONE := fun τ => by
        have h1 : addF (prt (cStep so (wT w 0) see act q v) D l j) [(k, D k - aOf so q k (D k))] τ ≤ prt (cStep so (wT w 0) see act q v) D l (j + 1) τ := by
          rw [← hnext]
          unfold addF
          omega
        exact Nat.le_trans h1 (hB.pr hamt (j + 1) τ)
      obtain ⟨t5, e6, hQ5, hT5, hM5⟩ := m_does (g := g) (d := d) (act := act) (a := aOf so q k (D k)) (see := see) hF hw hW4 hQ4 hH4 hk hv (by rw [hV4 _ (by omega) (by omega), h44]) hs (by omega) p1 hFb hT4
      rw [hnext] at hQ5
      obtain ⟨t', f1, f2, f3, f4, f5, f6⟩ := ih (j + 1) t5 (by omega) hQ5 (by
        rw [sumL_tk hik, sumL_tk hik, sumL_tk hik, ← addP_add, ← Nat.add_assoc, ← Nat.add_assoc]
        exact hT5) (fun j h1 h2 => by rw [hM5.2.1 _ _ (by unfold pNx; omega), hV4 j h1 h2]) ⟨by rw [hM5.2.1 _ _ (by unfold pNx; omega), h44'.1], by rw [hM5.2.1 _ _ (by unfold pNx; omega), h44'.2.1], by rw [hM5.2.1 _ _ (by unfold pNx; omega), h44'.2.2]⟩
      refine ⟨t', ?_, f2, f3, f4, f5, f6⟩
      have hgt : (Int64.ofNat (aOf so q k (D k)) ≤ Int64.ofNat 0) = False := by
        rw [n64_le (by omega) (by decide)]
        exact eq_false (by omega)
      rw [pre]
      simp (disch := first | exact jm_lt0 | (apply jm_ltx; (repeat (first | exact jw_0 | apply jw_i | apply jw_r | apply jw_l)); omega) | omega | assumption | exact sa_432 | exact n32_inA sb_432 (by omega) (by omega) | (refine n32_inA (by assumption) ?_ ?_ <;> omega) | exact bi01 | (rw [sa_432]; omega) | decide) only [sX12_goesStep_0, sX12_goesStep_1, sX12_goesStep_4, sX12_goesStep_6, sX12_goesStep_7, sX12_goesStep_8, sX12_goesStep_9, sX12_goesStep_10, sX12_goesStep_11, sX12_goesStep_12, sX12_goesStep_13, sX12_goesStep_15, sX12_goesStep_16, sX12_goesStep_19, sX12_goesStep_21, sX12_goesStep_22, sX12_goesStep_23, sX12_goesStep_24, sX12_goesStep_25, sX12_goesStep_26, sX12_goesStep_27, sX12_goesStep_28, sX12_goesStep_29, sX12_goesStep_30, sX12_goesStep_32, sX12_goesStep_33, sX12_goesStep_37, sX12_goesStep_38, sX12_goesStep_41, sX12_goesStep_44, sX12_goesStep_45, sX12_goesStep_48, sX12_goesStep_50, sX12_goesStep_51, sX12_goesStep_53, sX12_goesStep_54, sX12_goesStep_57, sX12_goesStep_59, sX12_goesStep_60, sX12_goesStep_62, sX12_goesStep_63, sX12_goesStep_65, sX12_goesStep_68, sX12_goesStep_69, sX12_goesStep_70, sX12_goesStep_73, sX12_goesStep_74, sX12_goesStep_75, sX12_goesStep_76, sX12_goesStep_79, sX12_goesStep_82, sX12_goesStep_83, sX12_goesStep_86, sX12_goesStep_88, sX12_goesStep_91, sX12_goesStep_93, sX12_goesStep_96, sX12_goesStep_98, sX12_goesStep_100, sX12_goesStep_101, sX12_goesStep_102, sX12_goesStep_105, sX12_goesStep_106, sX12_goesStep_108, sX12_goesStep_109, sX12_goesStep_111, sX12_goesStep_113, sX12_goesStep_115, sX12_goesStep_116, sX12_goesStep_119, sX12_goesStep_121, sX12_goesStep_122, sX12_goesStep_123, sX12_goesStep_126, sX12_goesStep_127, sX12_goesStep_129, sX12_goesStep_131, sX12_goesStep_132, kX12_goesStep_135_AIIIIIIIJNJN, sX12_goesStep_135, sX12_goesStep_138, kX12_goesStep_141_AIIIIIINNNNN, sX12_goesStep_141, sX12_goesStep_142, sX12_goesStep_145, evK_n, evK_v, evK_x, gI_pI, gJ_pI, gR_pI, gI_pJ, gJ_pJ, gR_pJ, gI_pR, gJ_pR, gR_pR, n32_le, n32_lt, n32_add, n32_mul, n32_cl, if_true, if_false, not_true_eq_false, not_false_eq_true, and_true, true_and, and_false, false_and, and_self, or_true, true_or, or_false, false_or, or_self, ne_eq, Decidable.not_not, Nat.reduceEqDiff, Nat.reduceEqDiff, sa_432, sb_432, n64_cle, hgt, e6]
      exact f1
end MS
