/-! the model: all VISITS -/
def zMd (w : WD) (o : OPT) (bk : Bool) : Nat → ZZ
  | 0 => zBeg w
  | v + 1 => if wW w v = o.2.2.2.1 then zMd w o bk v else zAct w o v (wW w v) (zCome w o bk v (zMd w o bk v).1, (zMd w o bk v).2)
theorem zMd_go {w : WD} {o : OPT} : ∀ v, zMd w o false v = zGo w o v
  | 0 => rfl
  | v + 1 => by
    rw [zMd, zMd_go v, zGo, zVis]
    rfl
theorem zMd_gb {w : WD} {o : OPT} (hw : wOK w) (ho : o.2.2.2.1 = 99) : ∀ v, v ≤ wn w → zMd w o true v = zGb w o v
  | 0, _ => rfl
  | v + 1, h => by
    have := (hw.2.2.2.1 v (by omega)).1
    rw [zMd, zMd_gb hw ho v (by omega), if_neg (by omega), zGb]
    rfl
theorem md_ok {w : WD} {o : OPT} {bk : Bool} (hw : wOK w) (ho : oOK o) : ∀ v, v ≤ wn w → SUP v (zMd w o bk v).1 ∧ UNS (zMd w o bk v).1 ∧ sumN (zMd w o bk v).1 NS ≤ ONE
  | 0, _ => ⟨(zBeg_ok hw).1, (zBeg_ok hw).2.1, Nat.le_of_eq (zBeg_ok hw).2.2⟩
  | v + 1, hv => by
    obtain ⟨h1, h2, h3⟩ := md_ok (bk := bk) hw ho v (by omega)
    have hn : wn w ≤ 24 := hw.2.2.1
    have hw' := (hw.2.2.2.1 v (by omega)).1
    rw [zMd]
    split
    · exact ⟨h1.up (by omega), h2, h3⟩
    · obtain ⟨f1, f2, f3⟩ := come_ok (w := w) (bk := bk) (v := v) ho h1 h2
      obtain ⟨a1, a2, a3⟩ := act_ok (v := v) (p := wW w v) (Z := (zCome w o bk v (zMd w o bk v).1, (zMd w o bk v).2)) hw ho (by omega) hw' (f1.up (by omega)) f2
      refine And.intro a1 (And.intro a2 ?_)
      rw [a3]
      exact Nat.le_trans f3 h3
theorem OMw.cn {t : fm_S} {D D' : Nat → Nat} {u : Nat} (h : OMw t D u) (e : D = D') : OMw t D' u := e ▸ h
theorem m_stpsLoop {g : fm_g} {d v h p see : Nat} {w : WD} {x : Int32} {Z : ZZ} {t0 : fm_S} (hF : FX t0) (hW : MW t0 w) (hw : wOK w) (hv : v < wn w) (hh : h < 7) (hpp : p = wW w v) (h44 : gI t0 432 44 = Int32.ofNat see) (hs : see ≤ 16) (hS : SUP (v + 1) Z.1) (hU : UNS Z.1) (hD : sumN Z.1 NS ≤ ONE) : ∀ (m i : Nat) (t : fm_S), i + m = hbm (wH w h) → FM pM qM t0 t → OMw t (zSts w v h p see Z i).1 (v + 1) → CM3 t (zSts w v h p see Z i).2.1 (zSts w v h p see Z i).2.2.1 (zSts w v h p see Z i).2.2.2 → OPq t0 t → F467 t w v → ∃ t', ev g (d + 4) mX12_goes 46 [some (.ref (432 : Nat)), some (.int x), some (.int (Int32.ofNat v)), some (.int (Int32.ofNat h)), some (.int (Int32.ofNat i))] [] t = ev g (d + 4) mX12_goes 71 [some (.ref (432 : Nat)), some (.int x), some (.int (Int32.ofNat v)), none, none] [] t' ∧ FM pM qM t0 t' ∧ OMw t' (zSts w v h p see Z (hbm (wH w h))).1 (v + 1) ∧ CM3 t' (zSts w v h p see Z (hbm (wH w h))).2.1 (zSts w v h p see Z (hbm (wH w h))).2.2.1 (zSts w v h p see Z (hbm (wH w h))).2.2.2 ∧ OPq t0 t' := by
  have hn : wn w ≤ 24 := hw.2.2.1
  have hOK1 := hw.2.2.2.2.1 h hh
  have hm8 := hOK1.1
  intro m
  induction m with
  | zero =>
    intro i t hi hM hO hT hV h4
    have hil : i = hbm (wH w h) := by omega
    have hFt := hM.fx hF
    have hWt : MW t w := hW.of hM.2.1
    have c1 := (hWt.2.2.2.2.1 h hh).1
    have r27 := hFt.u 432 27 448 (by decide +kernel)
    rw [hil] at hO hT
    refine ⟨t, ?_, hM, hO, hT, hV⟩
    rw [sX12_goes_46]
    simp (disch := first | exact jm_lt0 | (apply jm_ltx; (repeat (first | exact jw_0 | apply jw_i | apply jw_r | apply jw_l)); omega) | omega | assumption | exact sa_432 | exact sa_448 | exact n32_inA sb_432 (by omega) (by omega) | exact n32_inA sb_448 (by omega) (by omega) | (refine n32_inA (by assumption) ?_ ?_ <;> omega) | exact bi01 | (rw [sa_432]; omega) | (rw [sa_448]; omega) | decide) only [sX12_goes_0, sX12_goes_1, sX12_goes_4, sX12_goes_5, sX12_goes_7, sX12_goes_8, sX12_goes_11, sX12_goes_12, sX12_goes_15, sX12_goes_16, sX12_goes_17, sX12_goes_18, sX12_goes_21, sX12_goes_24, sX12_goes_27, sX12_goes_28, sX12_goes_29, sX12_goes_32, sX12_goes_33, sX12_goes_34, sX12_goes_37, sX12_goes_38, sX12_goes_39, sX12_goes_42, sX12_goes_43, sX12_goes_44, sX12_goes_48, sX12_goes_49, sX12_goes_52, sX12_goes_53, sX12_goes_54, sX12_goes_57, sX12_goes_58, sX12_goes_59, sX12_goes_61, sX12_goes_62, sX12_goes_65, sX12_goes_68, kX12_goes_71_AIIII, sX12_goes_72, sX12_goes_73, sX12_goes_76, sX12_goes_77, sX12_goes_80, sX12_goes_81, sX12_goes_82, sX12_goes_83, sX12_goes_84, sX12_goes_87, sX12_goes_88, sX12_goes_91, kX12_goes_94_AIINN, sX12_goes_94, evK_n, evK_v, evK_x, gI_pI, gJ_pI, gR_pI, gI_pJ, gJ_pJ, gR_pJ, gI_pR, gJ_pR, gR_pR, n32_le, n32_lt, n32_add, n32_mul, n32_cl, if_true, if_false, not_true_eq_false, not_false_eq_true, and_true, true_and, and_false, false_and, and_self, or_true, true_or, or_false, false_or, or_self, ne_eq, Decidable.not_not, Nat.reduceEqDiff, Nat.reduceEqDiff, sa_432, sb_432, sa_448, sb_448, r27, c1]
    rw [if_pos (by omega)]
  | succ m ih =>
    intro i t hi hM hO hT hV h4
    have hil : i < hbm (wH w h) := by omega
    have hFt := hM.fx hF
    have hWt : MW t w := hW.of hM.2.1
    have c1 := (hWt.2.2.2.2.1 h hh).1
    have r27 := hFt.u 432 27 448 (by decide +kernel)
    obtain ⟨z1, -, z3⟩ := zSts_ok (p := p) hw hh hs (show v < 24 by omega) hS hU i (by omega)
    obtain ⟨t1, e1, hM1, hO1, hT1, hV1, h41⟩ := m_goesStep (g := g) (d := d) hFt hO (by omega) hWt hw hv hh hil (by rw [hV _ (by omega) (by omega), h44]) hs h4 z1 hT
    rw [← hpp] at hT1
    have hz : zSts w v h p see Z (i + 1) = zStp w v h p see (zSts w v h p see Z i) i := rfl
    obtain ⟨z4, -, -⟩ := zSts_ok (p := p) hw hh hs (show v < 24 by omega) hS hU (i + 1) (by omega)
    have hO1' : OMw t1 (zSts w v h p see Z (i + 1)).1 (v + 1) := OM.w (D := (zSts w v h p see Z (i + 1)).1) (by rw [hz]; exact hO1) z4
    obtain ⟨t', f1, f2, f3, f4, f5⟩ := ih (i + 1) t1 (by omega) (hM.tr hM1) hO1' (by rw [hz]; exact hT1) (hV.tr hV1) h41
    refine ⟨t', ?_, f2, f3, f4, f5⟩
    have g1 : ¬ hbm (wH w h) ≤ i := by omega
    rw [sX12_goes_46]
    simp (disch := first | exact jm_lt0 | (apply jm_ltx; (repeat (first | exact jw_0 | apply jw_i | apply jw_r | apply jw_l)); omega) | omega | assumption | exact sa_432 | exact sa_448 | exact n32_inA sb_432 (by omega) (by omega) | exact n32_inA sb_448 (by omega) (by omega) | (refine n32_inA (by assumption) ?_ ?_ <;> omega) | exact bi01 | (rw [sa_432]; omega) | (rw [sa_448]; omega) | decide) only [sX12_goes_0, sX12_goes_1, sX12_goes_4, sX12_goes_5, sX12_goes_7, sX12_goes_8, sX12_goes_11, sX12_goes_12, sX12_goes_15, sX12_goes_16, sX12_goes_17, sX12_goes_18, sX12_goes_21, sX12_goes_24, sX12_goes_27, sX12_goes_28, sX12_goes_29, sX12_goes_32, sX12_goes_33, sX12_goes_34, sX12_goes_37, sX12_goes_38, sX12_goes_39, sX12_goes_42, sX12_goes_43, sX12_goes_44, sX12_goes_48, sX12_goes_49, sX12_goes_52, sX12_goes_53, sX12_goes_54, sX12_goes_57, sX12_goes_58, sX12_goes_59, sX12_goes_61, sX12_goes_62, sX12_goes_65, sX12_goes_68, kX12_goes_71_AIIII, sX12_goes_72, sX12_goes_73, sX12_goes_76, sX12_goes_77, sX12_goes_80, sX12_goes_81, sX12_goes_82, sX12_goes_83, sX12_goes_84, sX12_goes_87, sX12_goes_88, sX12_goes_91, kX12_goes_94_AIINN, sX12_goes_94, evK_n, evK_v, evK_x, gI_pI, gJ_pI, gR_pI, gI_pJ, gJ_pJ, gR_pJ, gI_pR, gJ_pR, gR_pR, n32_le, n32_lt, n32_add, n32_mul, n32_cl, if_true, if_false, not_true_eq_false, not_false_eq_true, and_true, true_and, and_false, false_and, and_self, or_true, true_or, or_false, false_or, or_self, ne_eq, Decidable.not_not, Nat.reduceEqDiff, Nat.reduceEqDiff, sa_432, sb_432, sa_448, sb_448, r27, c1, g1, e1]
    exact f1
def TRA (t : fm_S) (w : WD) (o : OPT) (bk : Bool) (N : Nat) : Prop := ∀ v, v < N → wW w v ≠ o.2.2.2.1 → gJ t 456 v = Int64.ofNat (fctS w v 1 (zMd w o bk (v + 1)).1)
theorem m_goesLoop {g : fm_g} {d N : Nat} {x : Int32} {w : WD} {o : OPT} {bk : Bool} {t0 : fm_S} (hF : FX t0) (hW : MW t0 w) (hw : wOK w) (hP : PM t0 o bk) (ho : oOK o) (hN : N ≤ wn w) (hx : ∀ v, v ≤ 24 → ((x < Int32.ofNat v) = (N ≤ v))) : ∀ (m v : Nat) (t : fm_S), v + m = N → FM pM qMT t0 t → OM t (zMd w o bk v).1 → CM3 t (zMd w o bk v).2.1 (zMd w o bk v).2.2.1 (zMd w o bk v).2.2.2 → OPq t0 t → TRA t w o bk v → ∃ t', ev g (d + 4) mX12_goes 6 [some (.ref (432 : Nat)), some (.int x), some (.int (Int32.ofNat v)), none, none] [] t = some (.inl none, t') ∧ FM pM qMT t0 t' ∧ OM t' (zMd w o bk N).1 ∧ CM3 t' (zMd w o bk N).2.1 (zMd w o bk N).2.2.1 (zMd w o bk N).2.2.2 ∧ OPq t0 t' ∧ TRA t' w o bk N := by
  have hn : wn w ≤ 24 := hw.2.2.1
  intro m
  induction m with
  | zero =>
    intro v t hv hM hO hT hV hR
    have hil : v = N := by omega
    subst hil
    refine ⟨t, ?_, hM, hO, hT, hV, hR⟩
    have hc : (x < Int32.ofNat v) = True := by rw [hx v (by omega)]; simp
    rw [sX12_goes_6]
    simp (disch := first | exact jm_lt0 | (apply jm_ltx; (repeat (first | exact jw_0 | apply jw_i | apply jw_r | apply jw_l)); omega) | omega | assumption | exact sa_432 | exact n32_inA sb_432 (by omega) (by omega) | (refine n32_inA (by assumption) ?_ ?_ <;> omega) | exact bi01 | (rw [sa_432]; omega) | decide) only [sX12_goes_0, sX12_goes_1, sX12_goes_4, sX12_goes_5, sX12_goes_7, sX12_goes_8, sX12_goes_11, sX12_goes_12, sX12_goes_15, sX12_goes_16, sX12_goes_17, sX12_goes_18, sX12_goes_21, sX12_goes_24, sX12_goes_27, sX12_goes_28, sX12_goes_29, sX12_goes_32, sX12_goes_33, sX12_goes_34, sX12_goes_37, sX12_goes_38, sX12_goes_39, sX12_goes_42, sX12_goes_43, sX12_goes_44, sX12_goes_48, sX12_goes_49, sX12_goes_52, sX12_goes_53, sX12_goes_54, sX12_goes_57, sX12_goes_58, sX12_goes_59, sX12_goes_61, sX12_goes_62, sX12_goes_65, sX12_goes_68, kX12_goes_71_AIIII, sX12_goes_71, sX12_goes_72, sX12_goes_73, sX12_goes_76, sX12_goes_77, sX12_goes_80, sX12_goes_81, sX12_goes_82, sX12_goes_83, sX12_goes_84, sX12_goes_87, sX12_goes_88, sX12_goes_91, kX12_goes_94_AIINN, sX12_goes_94, evK_n, evK_v, evK_x, gI_pI, gJ_pI, gR_pI, gI_pJ, gJ_pJ, gR_pJ, gI_pR, gJ_pR, gR_pR, if_true, if_false, not_true_eq_false, not_false_eq_true, and_true, true_and, and_false, false_and, and_self, or_true, true_or, or_false, false_or, or_self, ne_eq, Decidable.not_not, Nat.reduceEqDiff, Nat.reduceEqDiff, sa_432, sb_432, hc]
  | succ m ih =>
    intro v t hv hM hO hT hV hR
    have hvn : v < wn w := by omega
    have hc : (x < Int32.ofNat v) = False := by rw [hx v (by omega)]; simp; omega
    have hFt := hM.fx hF
    have hWt : MW t w := hW.of hM.2.1
    have hPt := hP.of hV
    have wv := ((hWt.2.2.2.1.2.2 v hvn).1).1
    have hWv := (hw.2.2.2.1 v hvn).1
    have r14 := hFt.u 432 14 439 (by decide +kernel)
    have h46 := hPt.2.2.2.1
    have ho4 := ho.2.2.2.1
    have hcmp : (Int32.ofNat (wW w v) = (if o.2.2.2.1 = 99 then -1 else Int32.ofNat o.2.2.2.1)) ↔ wW w v = o.2.2.2.1 := by
      by_cases c : o.2.2.2.1 = 99
      · rw [if_pos c, n32_neg (by omega)]
        simp
        omega
      · rw [if_neg c, n32_eq (by omega) (by omega)]
    by_cases cl : wW w v = o.2.2.2.1
    · have hz : zMd w o bk (v + 1) = zMd w o bk v := by rw [zMd, if_pos cl]
      obtain ⟨t', f1, f2⟩ := ih (v + 1) t (by omega) hM (by rw [hz]; exact hO) (by rw [hz]; exact hT) hV (fun u hu hne => by
        by_cases cu : u = v
        · subst cu
          exact absurd cl hne
        · exact hR u (by omega) hne)
      refine ⟨t', ?_, f2⟩
      have hcc := eq_true (hcmp.mpr cl)
      rw [sX12_goes_6]
      simp (disch := first | exact jm_lt0 | (apply jm_ltx; (repeat (first | exact jw_0 | apply jw_i | apply jw_r | apply jw_l)); omega) | omega | assumption | exact sa_432 | exact sa_439 | exact n32_inA sb_432 (by omega) (by omega) | exact n32_inA sb_439 (by omega) (by omega) | (refine n32_inA (by assumption) ?_ ?_ <;> omega) | exact bi01 | (rw [sa_432]; omega) | (rw [sa_439]; omega) | decide) only [sX12_goes_0, sX12_goes_1, sX12_goes_4, sX12_goes_5, sX12_goes_7, sX12_goes_8, sX12_goes_11, sX12_goes_12, sX12_goes_15, sX12_goes_16, sX12_goes_17, sX12_goes_18, sX12_goes_21, sX12_goes_24, sX12_goes_27, sX12_goes_28, sX12_goes_29, sX12_goes_32, sX12_goes_33, sX12_goes_34, sX12_goes_37, sX12_goes_38, sX12_goes_39, sX12_goes_42, sX12_goes_43, sX12_goes_44, sX12_goes_48, sX12_goes_49, sX12_goes_52, sX12_goes_53, sX12_goes_54, sX12_goes_57, sX12_goes_58, sX12_goes_59, sX12_goes_61, sX12_goes_62, sX12_goes_65, sX12_goes_68, kX12_goes_71_AIIII, sX12_goes_71, sX12_goes_72, sX12_goes_73, sX12_goes_76, sX12_goes_77, sX12_goes_80, sX12_goes_81, sX12_goes_82, sX12_goes_83, sX12_goes_84, sX12_goes_87, sX12_goes_88, sX12_goes_91, kX12_goes_94_AIINN, sX12_goes_94, evK_n, evK_v, evK_x, gI_pI, gJ_pI, gR_pI, gI_pJ, gJ_pJ, gR_pJ, gI_pR, gJ_pR, gR_pR, n32_cl, n32_add, if_true, if_false, not_true_eq_false, not_false_eq_true, and_true, true_and, and_false, false_and, and_self, or_true, true_or, or_false, false_or, or_self, ne_eq, Decidable.not_not, Nat.reduceEqDiff, Nat.reduceEqDiff, sa_432, sb_432, sa_439, sb_439, hc, r14, wv, h46, hcc]
      exact f1
    · have hz : zMd w o bk (v + 1) = zAct w o v (wW w v) (zCome w o bk v (zMd w o bk v).1, (zMd w o bk v).2) := by rw [zMd, if_neg cl]
      obtain ⟨i1, i2, i3⟩ := md_ok (bk := bk) hw ho v (by omega)
      obtain ⟨t1, e1, hM1, hO1, hC1, hV1, h41⟩ := m_comes (g := g) (d := d) hFt hO i3 i1 i2 hWt hw hvn hPt ho
      obtain ⟨c1, c2, c3⟩ := come_ok (w := w) (bk := bk) (v := v) ho i1 i2
      have hF1 := hM1.fx hFt
      have hW1 : MW t1 w := hWt.of hM1.2.1
      have hP1 := hPt.of hV1
      have e2 := m_habitOf (g := g) (d := d + 3) hP1 hWv
      have wv1 := ((hW1.2.2.2.1.2.2 v hvn).1).1
      have r14' := hF1.u 432 14 439 (by decide +kernel)
      have hh := ho.2.2.2.2 _ hWv
      obtain ⟨t2, e3, hM2, hO2, hT2, hV2⟩ := m_stpsLoop (g := g) (d := d) (x := x) (p := wW w v) (Z := (zCome w o bk v (zMd w o bk v).1, (zMd w o bk v).2)) hF1 hW1 hw hvn hh rfl hP1.2.1 ho.2.1 (c1.up (by omega)) c2 (by show sumN (zCome w o bk v (zMd w o bk v).1) NS ≤ ONE; omega) _ 0 t1 (Nat.zero_add _) FM.rf hO1 (hT.cm hC1) OPq.rf h41
      obtain ⟨z1, -, z3⟩ := zSts_ok (p := wW w v) (Z := (zCome w o bk v (zMd w o bk v).1, (zMd w o bk v).2)) hw hh ho.2.1 (show v < 24 by omega) (c1.up (by omega)) c2 _ (Nat.le_refl _)
      have hF2 := hM2.fx hF1
      have hP2 := hP1.of hV2
      have hW2 : MW t2 w := hW1.of hM2.2.1
      obtain ⟨t3, e4, hM3, hO3, hT3, hV3⟩ := m_ends (g := g) (d := d + 1) (v := v) hF2 hO2 (by rw [z3]; show sumN (zCome w o bk v (zMd w o bk v).1) NS ≤ ONE; omega) hw (by omega) ho.2.2.1 hP2.2.2.1 hT2
      have hF3 := hM3.fx hF2
      have hW3 : MW t3 w := hW2.of hM3.2.1
      obtain ⟨j1, j2, j3⟩ := md_ok (bk := bk) hw ho (v + 1) (by omega)
      have hO3' : OM t3 (zMd w o bk (v + 1)).1 := by rw [hz]; exact hO3
      have hT3' : CM3 t3 (zMd w o bk (v + 1)).2.1 (zMd w o bk (v + 1)).2.2.1 (zMd w o bk (v + 1)).2.2.2 := by rw [hz]; exact hT3
      obtain ⟨t4, e5, hM4⟩ := m_likely (g := g) (d := d + 1) (v := v) (what := 1) hF3 (hO3'.w j1) j3 hW3 hw (by decide) (by omega)
      have hF4 := hM4.fx hF3
      have r40 := hF3.u 432 40 456 (by decide +kernel)
      have hM14 : FM pM qM t t4 := (((hM1.tr hM2).tr hM3).tr (hM4.mono (fun b j q => by unfold pMh at q; unfold pM; omega) (fun _ _ q => q.elim)))
      have hM15 : FM pM qMT t (pJ t4 456 v (Int64.ofNat (fctS w v 1 (zMd w o bk (v + 1)).1))) := (FM.mt hM14).tr (FM.pJ (Or.inr rfl))
      have hOf : OM (pJ t4 456 v (Int64.ofNat (fctS w v 1 (zMd w o bk (v + 1)).1))) (zMd w o bk (v + 1)).1 := by
        obtain ⟨l, a1, a2, a3⟩ := hO3'
        refine ⟨l, a1.of ?_ (fun j => ?_) (fun j => ?_), a2.of ?_ (fun j => ?_) (fun j => ?_), a3⟩
        · rw [gI_pJ, hM4.2.1 _ _ (by unfold pMh; omega)]
        · rw [gI_pJ, hM4.2.1 _ _ (by unfold pMh; omega)]
        · rw [gJ_pJ, if_neg (by omega), hM4.2.2 _ _ (fun h => h)]
        · rw [gI_pJ, hM4.2.1 _ _ (by unfold pMh; omega)]
        · rw [gI_pJ, hM4.2.1 _ _ (by unfold pMh; omega)]
        · rw [gJ_pJ, if_neg (by omega), hM4.2.2 _ _ (fun h => h)]
      have hTf : CM3 (pJ t4 456 v (Int64.ofNat (fctS w v 1 (zMd w o bk (v + 1)).1))) (zMd w o bk (v + 1)).2.1 (zMd w o bk (v + 1)).2.2.1 (zMd w o bk (v + 1)).2.2.2 := (hT3'.cm (CM.h hM4)).cm ⟨fun j => by rw [gJ_pJ, if_neg (by omega)], by rw [gJ_pJ, if_neg (by omega)], by rw [gJ_pJ, if_neg (by omega)]⟩
      have hVf : OPq t (pJ t4 456 v (Int64.ofNat (fctS w v 1 (zMd w o bk (v + 1)).1))) := fun j h1 h2 => by
        rw [gI_pJ, hM4.2.1 _ _ (by unfold pMh; omega), hV3 j h1 h2, hV2 j h1 h2, hV1 j h1 h2]
      have hRf : TRA (pJ t4 456 v (Int64.ofNat (fctS w v 1 (zMd w o bk (v + 1)).1))) w o bk (v + 1) := fun u hu hne => by
        rw [gJ_pJ]
        by_cases cu : u = v
        · rw [if_pos ⟨rfl, cu⟩, cu]
        · rw [if_neg (fun q => cu q.2), hM14.2.2 _ _ (by unfold qM; omega)]
          exact hR u (by omega) hne
      obtain ⟨t', f1, f2⟩ := ih (v + 1) _ (by omega) (hM.tr hM15) hOf hTf (hV.tr hVf) hRf
      refine ⟨t', ?_, f2⟩
      have hcc := eq_false (fun h => cl (hcmp.mp h))
      rw [sX12_goes_6]
      simp (disch := first | exact jm_lt0 | (apply jm_ltx; (repeat (first | exact jw_0 | apply jw_i | apply jw_r | apply jw_l)); omega) | omega | assumption | exact sa_432 | exact sa_439 | exact sa_456 | exact n32_inA sb_432 (by omega) (by omega) | exact n32_inA sb_439 (by omega) (by omega) | exact n32_inA sb_456 (by omega) (by omega) | (refine n32_inA (by assumption) ?_ ?_ <;> omega) | exact bi01 | (rw [sa_432]; omega) | (rw [sa_439]; omega) | (rw [sa_456]; omega) | decide) only [sX12_goes_0, sX12_goes_1, sX12_goes_4, sX12_goes_5, sX12_goes_7, sX12_goes_8, sX12_goes_11, sX12_goes_12, sX12_goes_15, sX12_goes_16, sX12_goes_17, sX12_goes_18, sX12_goes_21, sX12_goes_24, sX12_goes_27, sX12_goes_28, sX12_goes_29, sX12_goes_32, sX12_goes_33, sX12_goes_34, sX12_goes_37, sX12_goes_38, sX12_goes_39, sX12_goes_42, sX12_goes_43, sX12_goes_44, sX12_goes_48, sX12_goes_49, sX12_goes_52, sX12_goes_53, sX12_goes_54, sX12_goes_57, sX12_goes_58, sX12_goes_59, sX12_goes_61, sX12_goes_62, sX12_goes_65, sX12_goes_68, kX12_goes_71_AIIII, sX12_goes_72, sX12_goes_73, sX12_goes_76, sX12_goes_77, sX12_goes_80, sX12_goes_81, sX12_goes_82, sX12_goes_83, sX12_goes_84, sX12_goes_87, sX12_goes_88, sX12_goes_91, kX12_goes_94_AIINN, sX12_goes_94, evK_n, evK_v, evK_x, gI_pI, gJ_pI, gR_pI, gI_pJ, gJ_pJ, gR_pJ, gI_pR, gJ_pR, gR_pR, n32_cl, n32_add, if_true, if_false, not_true_eq_false, not_false_eq_true, and_true, true_and, and_false, false_and, and_self, or_true, true_or, or_false, false_or, or_self, ne_eq, Decidable.not_not, Nat.reduceEqDiff, Nat.reduceEqDiff, sa_432, sb_432, sa_439, sb_439, sa_456, sb_456, hc, r14, wv, h46, hcc, e1, r14', wv1, e2]
      rw [e3]
      simp (disch := first | exact jm_lt0 | (apply jm_ltx; (repeat (first | exact jw_0 | apply jw_i | apply jw_r | apply jw_l)); omega) | omega | assumption | exact sa_432 | exact sa_439 | exact sa_456 | exact n32_inA sb_432 (by omega) (by omega) | exact n32_inA sb_439 (by omega) (by omega) | exact n32_inA sb_456 (by omega) (by omega) | (refine n32_inA (by assumption) ?_ ?_ <;> omega) | exact bi01 | (rw [sa_432]; omega) | (rw [sa_439]; omega) | (rw [sa_456]; omega) | decide) only [sX12_goes_0, sX12_goes_1, sX12_goes_4, sX12_goes_5, sX12_goes_7, sX12_goes_8, sX12_goes_11, sX12_goes_12, sX12_goes_15, sX12_goes_16, sX12_goes_17, sX12_goes_18, sX12_goes_21, sX12_goes_24, sX12_goes_27, sX12_goes_28, sX12_goes_29, sX12_goes_32, sX12_goes_33, sX12_goes_34, sX12_goes_37, sX12_goes_38, sX12_goes_39, sX12_goes_42, sX12_goes_43, sX12_goes_44, sX12_goes_48, sX12_goes_49, sX12_goes_52, sX12_goes_53, sX12_goes_54, sX12_goes_57, sX12_goes_58, sX12_goes_59, sX12_goes_61, sX12_goes_62, sX12_goes_65, sX12_goes_68, kX12_goes_71_AIIII, sX12_goes_71, sX12_goes_72, sX12_goes_73, sX12_goes_76, sX12_goes_77, sX12_goes_80, sX12_goes_81, sX12_goes_82, sX12_goes_83, sX12_goes_84, sX12_goes_87, sX12_goes_88, sX12_goes_91, kX12_goes_94_AIINN, sX12_goes_94, evK_n, evK_v, evK_x, gI_pI, gJ_pI, gR_pI, gI_pJ, gJ_pJ, gR_pJ, gI_pR, gJ_pR, gR_pR, n32_cl, n32_add, if_true, if_false, not_true_eq_false, not_false_eq_true, and_true, true_and, and_false, false_and, and_self, or_true, true_or, or_false, false_or, or_self, ne_eq, Decidable.not_not, Nat.reduceEqDiff, Nat.reduceEqDiff, sa_432, sb_432, sa_439, sb_439, sa_456, sb_456, e4, r40, e5, z32]
      exact f1
