/-! a day that passes, the class: a VISIT, all -/
/-- as a VISIT begins: nothing is seen, the card falls -/
def dFal (nf : Int32 → Int32) (df : Int32 → Nat → Nat) (w : WD) (Z : DZ) : DZ := (nf Z.1, nm (kc Z.2.1) (kd Z.2.1) (if df Z.1 16 < wT w 4 then 1 - kcard Z.2.1 else kcard Z.2.1) 0 (kst Z.2.1), Z.2.2)
def dVis (nf : Int32 → Int32) (df : Int32 → Nat → Nat) (w : WD) (v : Nat) (Z : DZ) : DZ := dSts nf df w v (dFal nf df w Z) (hbm (wH w (wW w v)))
def dDay (nf : Int32 → Int32) (df : Int32 → Nat → Nat) (w : WD) (y : Int32) : Nat → DZ
  | 0 => (y, begK w, 0, 0, 0)
  | n + 1 => dVis nf df w n (dDay nf df w y n)
theorem dFal_ok {nf : Int32 → Int32} {df : Int32 → Nat → Nat} {w : WD} {Z : DZ} {v : Nat} (hk : Z.2.1 < NS) (hst : kst Z.2.1 ≤ v) : (dFal nf df w Z).2.1 < NS ∧ kst (dFal nf df w Z).2.1 ≤ v := by
  obtain ⟨h1, h2, h3⟩ := k_lt hk
  have h5 := k_cd Z.2.1
  have hc : (if df Z.1 16 < wT w 4 then 1 - kcard Z.2.1 else kcard Z.2.1) < 2 := by split <;> omega
  obtain ⟨-, -, -, -, e5⟩ := k_nm (st := kst Z.2.1) h5 hc (show 0 < 2 by decide)
  exact ⟨nm_lt h5 hc (by decide) (by omega), by unfold dFal; dsimp only; rw [e5]; exact hst⟩
theorem dDay_ok {nf : Int32 → Int32} {df : Int32 → Nat → Nat} {w : WD} {y : Int32} (hw : wOK w) : ∀ n, n ≤ wn w → (dDay nf df w y n).2.1 < NS ∧ kst (dDay nf df w y n).2.1 ≤ n
  | 0, _ => by
    obtain ⟨b1, b2, b3, b4, b5, b6⟩ := begK_ok hw
    exact ⟨b1, by show kst (begK w) ≤ 0; omega⟩
  | n + 1, hn => by
    obtain ⟨h1, h2⟩ := dDay_ok hw n (by omega)
    obtain ⟨h3, h4⟩ := dFal_ok (nf := nf) (df := df) (w := w) h1 h2
    have := hw.2.2.1
    exact dSts_ok hw h3 (by omega) (by omega) _
/-- what a day touches, the class -/
def pDD (b j : Nat) : Prop := (b = 428 ∧ 1 ≤ j ∧ j ≤ 4) ∨ (b = 429 ∧ j ≤ 9) ∨ b = 430 ∨ b = 431 ∨ (b = 60 ∨ b = 71 ∨ b = 78 ∨ b = 85 ∨ b = 92 ∨ b = 99 ∨ b = 106) ∨ (j = 8 ∧ (b = 54 ∨ b = 65 ∨ b = 72 ∨ b = 79 ∨ b = 86 ∨ b = 93 ∨ b = 100))
theorem pDD_TC {b j : Nat} (h : pDD b j) : TC b j := by unfold pDD at h; unfold TC; omega
section CV
variable {g : fm_g} {d v : Nat} {w : WD} {nf : Int32 → Int32} {df : Int32 → Nat → Nat}
theorem c3_passVisit {Z : DZ} {s : fm_S} (hF : FX s) (hC : CW s w) (hw : wOK w) (hv : v < wn w) (hD : DC s Z) (hk : Z.2.1 < NS) (hst : kst Z.2.1 ≤ v) (hdr : ∀ e y, hDr g e y (nf y) (df y)) (hdl : ∀ y n, 0 < n → df y n < n) : ∃ s', ev g (d + 4) mX3_passVisit 0 [some (.ref (428 : Nat)), some (.ref (3 : Nat)), some (.int (Int32.ofNat v)), none, none, none, none] [] s = some (.inl none, s') ∧ FM pDD nO s s' ∧ DC s' (dVis nf df w v Z) := by
  have hn : wn w ≤ 24 := hw.2.2.1
  have hp : wW w v < 6 := (hw.2.2.2.1 v hv).1
  have hT4 : wT w 4 ≤ 16 := hw.1.2.2.2.2.1
  have r0 := hF.u 3 0 4 (by decide +kernel)
  have r1 := hF.u 428 0 429 (by decide +kernel)
  obtain ⟨s1, e1, hM1, hE1⟩ := c2_enter (g := g) (d := d) (c := 429) (by decide) hF hC hw hv
  have hM1' : FM pDD nO s s1 := hM1.mono (fun b j q => by unfold pE at q; unfold pDD; omega) (fun _ _ q => q)
  have hF1 := hM1.fx hF
  have r1' := hF1.u 428 0 429 (by decide +kernel)
  obtain ⟨⟨h0, h1, h2, h3, h4⟩, h5, h6, h7, h8⟩ := id hD
  have pe : ∀ b j, b = 428 ∨ (b = 429 ∧ j ≤ 4) → gI s1 b j = gI s b j := fun b j h => hM1.2.1 b j (by unfold pE; omega)
  have hF2 : FX (pI s1 429 3 (Int32.ofNat 0)) := hF1.pI
  have e2 := hdr (d + 3) Z.1 16 (pI s1 429 3 (Int32.ofNat 0)) (by rw [gI_pI, if_neg (by omega), pe _ _ (by omega)]; exact h5) (by omega)
  have hdl' := hdl Z.1 16 (by decide)
  generalize hs3 : pI (pI s1 429 3 (Int32.ofNat 0)) 428 4 (nf Z.1) = s3 at e2
  have hM3 : FM pDD nO s s3 := by
    rw [← hs3]
    exact (hM1'.tr (FM.pI (by unfold pDD; omega))).tr (FM.pI (by unfold pDD; omega))
  have hF3 := hM3.fx hF
  have hC3 : CW s3 w := hC.of hw (fun b j hb => hM3.2.1 b j (fun q => hb (pDD_TC q)))
  have e3 := w_told (g := g) (d := d + 3) (i := 4) hF3 hC3 (by decide)
  have hkS := k_small Z.2.1
  have stepA : ∃ s4, ev g (d + 4) mX3_passVisit 0 [some (.ref (428 : Nat)), some (.ref (3 : Nat)), some (.int (Int32.ofNat v)), none, none, none, none] [] s = ev g (d + 4) mX3_passVisit 52 [some (.ref (428 : Nat)), some (.ref (3 : Nat)), some (.int (Int32.ofNat v)), some (.ref (4 : Nat)), none, none, none] [] s4 ∧ FM pDD nO s s4 ∧ DC s4 (dFal nf df w Z) ∧ HE s4 429 w v := by
    have g3 : ∀ b j, (b = 429 ∧ j ≠ 3) ∨ (b = 428 ∧ j ≠ 4) ∨ b = 431 → gI s3 b j = gI s1 b j := fun b j h => by
      rw [← hs3, gI_pI, if_neg (by omega), gI_pI, if_neg (by omega)]
    have k2 : gI s3 429 2 = Int32.ofNat (kcard Z.2.1) := by rw [g3 _ _ (by omega), pe _ _ (by omega)]; exact h2
    have r3 := hF3.u 428 0 429 (by decide +kernel)
    by_cases c : df Z.1 16 < wT w 4
    · have c' : ¬ wT w 4 ≤ df Z.1 16 := by omega
      refine ⟨pI s3 429 2 (Int32.ofNat (1 - kcard Z.2.1)), ?_, hM3.tr (FM.pI (by unfold pDD; omega)), ⟨HN.nm (k_cd _) (by rw [if_pos c]; omega) (by decide) ?_ ?_ ?_ ?_ ?_, ?_, ?_, ?_, ?_⟩, ?_⟩
      · generalize hdf : df Z.1 16 = r at *
        simp (disch := first | exact jm_lt0 | (apply jm_ltx; (repeat (first | exact jw_0 | apply jw_i | apply jw_r | apply jw_l)); omega) | omega | assumption | exact sa_428 | exact sa_429 | exact sa_4 | exact sa_3 | exact n32_inA sb_428 (by omega) (by omega) | exact n32_inA sb_429 (by omega) (by omega) | exact n32_inA sb_4 (by omega) (by omega) | exact n32_inA sb_3 (by omega) (by omega) | (refine n32_inA (by assumption) ?_ ?_ <;> omega) | exact bi01 | (rw [sa_428]; omega) | (rw [sa_429]; omega) | (rw [sa_4]; omega) | (rw [sa_3]; omega) | decide) only [sX3_passVisit_0, sX3_passVisit_1, sX3_passVisit_4, sX3_passVisit_5, sX3_passVisit_6, sX3_passVisit_9, sX3_passVisit_10, sX3_passVisit_11, sX3_passVisit_14, sX3_passVisit_15, sX3_passVisit_18, sX3_passVisit_19, sX3_passVisit_22, sX3_passVisit_23, sX3_passVisit_25, sX3_passVisit_28, sX3_passVisit_29, sX3_passVisit_30, sX3_passVisit_33, sX3_passVisit_36, sX3_passVisit_37, sX3_passVisit_40, sX3_passVisit_41, sX3_passVisit_42, sX3_passVisit_45, sX3_passVisit_48, sX3_passVisit_49, sX3_passVisit_53, sX3_passVisit_56, sX3_passVisit_57, sX3_passVisit_60, sX3_passVisit_62, sX3_passVisit_63, sX3_passVisit_65, sX3_passVisit_68, sX3_passVisit_70, sX3_passVisit_71, kX3_passVisit_73_AAIAIAI, sX3_passVisit_75, sX3_passVisit_77, sX3_passVisit_80, sX3_passVisit_83, sX3_passVisit_84, sX3_passVisit_86, sX3_passVisit_88, sX3_passVisit_91, sX3_passVisit_94, sX3_passVisit_95, sX3_passVisit_97, sX3_passVisit_99, sX3_passVisit_102, sX3_passVisit_103, sX3_passVisit_105, sX3_passVisit_108, sX3_passVisit_111, sX3_passVisit_114, kX3_passVisit_117_ANNANAI, sX3_passVisit_117, evK_n, evK_v, evK_x, gI_pI, gJ_pI, gR_pI, gI_pJ, gJ_pJ, gR_pJ, gI_pR, gJ_pR, gR_pR, n32_le, n32_lt, n32_add, n32_mul, n32_cl, if_true, if_false, not_true_eq_false, not_false_eq_true, and_true, true_and, and_false, false_and, and_self, or_true, true_or, or_false, false_or, or_self, ne_eq, Decidable.not_not, Nat.reduceEqDiff, Nat.reduceEqDiff, sa_428, sb_428, sa_429, sb_429, sa_4, sb_4, sa_3, sb_3, r0, r1, r1', e1, e2, e3, c', r3, k2, n32_sub (show kcard Z.2.1 ≤ 1 by omega)]
      · rw [gI_pI, if_neg (by omega), g3 _ _ (by omega), pe _ _ (by omega)]; exact h0
      · rw [gI_pI, if_neg (by omega), g3 _ _ (by omega), pe _ _ (by omega)]; exact h1
      · rw [gI_pI, if_pos ⟨rfl, rfl⟩, if_pos c]
      · rw [gI_pI, if_neg (by omega), g3 _ _ (by omega), pe _ _ (by omega)]; exact h4
      · rw [gI_pI, if_neg (by omega), ← hs3, gI_pI, if_neg (by omega), gI_pI, if_pos ⟨rfl, rfl⟩]
      · rw [gI_pI, if_neg (by omega), ← hs3, gI_pI, if_pos ⟨rfl, rfl⟩]; rfl
      · rw [gI_pI, if_neg (by omega), g3 _ _ (by omega), pe _ _ (by omega)]; exact h6
      · rw [gI_pI, if_neg (by omega), g3 _ _ (by omega), pe _ _ (by omega)]; exact h7
      · rw [gI_pI, if_neg (by omega), g3 _ _ (by omega), pe _ _ (by omega)]; exact h8
      · obtain ⟨a1, a2, a3, a4, a5, a6⟩ := hE1
        refine ⟨?_, ?_, ?_, ?_, ?_, fun u hu => ?_⟩
        · rw [gI_pI, if_neg (by omega), g3 _ _ (by omega), a1]
        · rw [gI_pI, if_neg (by omega), g3 _ _ (by omega), a2]
        · rw [gI_pI, if_neg (by omega), g3 _ _ (by omega), a3]
        · rw [gI_pI, if_neg (by omega), g3 _ _ (by omega), a4]
        · rw [gI_pI, if_neg (by omega), g3 _ _ (by omega), a5]
        · rw [gI_pI, if_neg (by omega), g3 _ _ (by omega), a6 u hu]
    · have c' : wT w 4 ≤ df Z.1 16 := by omega
      refine ⟨s3, ?_, hM3, ⟨HN.nm (k_cd _) (by rw [if_neg c]; omega) (by decide) ?_ ?_ ?_ ?_ ?_, ?_, ?_, ?_, ?_⟩, ?_⟩
      · generalize hdf : df Z.1 16 = r at *
        simp (disch := first | exact jm_lt0 | (apply jm_ltx; (repeat (first | exact jw_0 | apply jw_i | apply jw_r | apply jw_l)); omega) | omega | assumption | exact sa_428 | exact sa_429 | exact sa_4 | exact sa_3 | exact n32_inA sb_428 (by omega) (by omega) | exact n32_inA sb_429 (by omega) (by omega) | exact n32_inA sb_4 (by omega) (by omega) | exact n32_inA sb_3 (by omega) (by omega) | (refine n32_inA (by assumption) ?_ ?_ <;> omega) | exact bi01 | (rw [sa_428]; omega) | (rw [sa_429]; omega) | (rw [sa_4]; omega) | (rw [sa_3]; omega) | decide) only [sX3_passVisit_0, sX3_passVisit_1, sX3_passVisit_4, sX3_passVisit_5, sX3_passVisit_6, sX3_passVisit_9, sX3_passVisit_10, sX3_passVisit_11, sX3_passVisit_14, sX3_passVisit_15, sX3_passVisit_18, sX3_passVisit_19, sX3_passVisit_22, sX3_passVisit_23, sX3_passVisit_25, sX3_passVisit_28, sX3_passVisit_29, sX3_passVisit_30, sX3_passVisit_33, sX3_passVisit_36, sX3_passVisit_37, sX3_passVisit_40, sX3_passVisit_41, sX3_passVisit_42, sX3_passVisit_45, sX3_passVisit_48, sX3_passVisit_49, sX3_passVisit_53, sX3_passVisit_56, sX3_passVisit_57, sX3_passVisit_60, sX3_passVisit_62, sX3_passVisit_63, sX3_passVisit_65, sX3_passVisit_68, sX3_passVisit_70, sX3_passVisit_71, kX3_passVisit_73_AAIAIAI, sX3_passVisit_75, sX3_passVisit_77, sX3_passVisit_80, sX3_passVisit_83, sX3_passVisit_84, sX3_passVisit_86, sX3_passVisit_88, sX3_passVisit_91, sX3_passVisit_94, sX3_passVisit_95, sX3_passVisit_97, sX3_passVisit_99, sX3_passVisit_102, sX3_passVisit_103, sX3_passVisit_105, sX3_passVisit_108, sX3_passVisit_111, sX3_passVisit_114, kX3_passVisit_117_ANNANAI, sX3_passVisit_117, evK_n, evK_v, evK_x, gI_pI, gJ_pI, gR_pI, gI_pJ, gJ_pJ, gR_pJ, gI_pR, gJ_pR, gR_pR, n32_le, n32_lt, n32_add, n32_mul, n32_cl, if_true, if_false, not_true_eq_false, not_false_eq_true, and_true, true_and, and_false, false_and, and_self, or_true, true_or, or_false, false_or, or_self, ne_eq, Decidable.not_not, Nat.reduceEqDiff, Nat.reduceEqDiff, sa_428, sb_428, sa_429, sb_429, sa_4, sb_4, sa_3, sb_3, r0, r1, r1', e1, e2, e3, c']
      · rw [g3 _ _ (by omega), pe _ _ (by omega)]; exact h0
      · rw [g3 _ _ (by omega), pe _ _ (by omega)]; exact h1
      · rw [if_neg c, g3 _ _ (by omega), pe _ _ (by omega)]; exact h2
      · rw [g3 _ _ (by omega), pe _ _ (by omega)]; exact h4
      · rw [← hs3, gI_pI, if_neg (by omega), gI_pI, if_pos ⟨rfl, rfl⟩]
      · rw [← hs3, gI_pI, if_pos ⟨rfl, rfl⟩]; rfl
      · rw [g3 _ _ (by omega), pe _ _ (by omega)]; exact h6
      · rw [g3 _ _ (by omega), pe _ _ (by omega)]; exact h7
      · rw [g3 _ _ (by omega), pe _ _ (by omega)]; exact h8
      · obtain ⟨a1, a2, a3, a4, a5, a6⟩ := hE1
        refine ⟨?_, ?_, ?_, ?_, ?_, fun u hu => ?_⟩
        · rw [g3 _ _ (by omega), a1]
        · rw [g3 _ _ (by omega), a2]
        · rw [g3 _ _ (by omega), a3]
        · rw [g3 _ _ (by omega), a4]
        · rw [g3 _ _ (by omega), a5]
        · rw [g3 _ _ (by omega), a6 u hu]
  obtain ⟨s4, f1, hM4, hD4, hE4⟩ := stepA
  have hF4 := hM4.fx hF
  have hC4 : CW s4 w := hC.of hw (fun b j hb => hM4.2.1 b j (fun q => hb (pDD_TC q)))
  obtain ⟨n, hDI⟩ := hC4.2.2.1
  have e5 := d_personOf (g := g) (d := d + 2) hF4 (by decide) hDI hv
  obtain ⟨k1, k2⟩ := dFal_ok (nf := nf) (df := df) (w := w) hk hst
  obtain ⟨s', f2, hM5, hD5⟩ := c3_stsLoop (g := g) (d := d + 1) (nf := nf) (df := df) hF4 hC4 hw hv hE4 k1 (by omega) hdr hdl (hbm (wH w (wW w v))) 0 s4 (by omega) FM.rf hD4
  have hcc : hcl (wW w v) = 54 ∨ hcl (wW w v) = 65 ∨ hcl (wW w v) = 72 ∨ hcl (wW w v) = 79 ∨ hcl (wW w v) = 86 ∨ hcl (wW w v) = 93 ∨ hcl (wW w v) = 100 := by unfold hcl; split <;> omega
  have hM5' : FM pDD nO s4 s' := hM5.mono (fun b j q => by unfold pDv pDd pDc at q; unfold pDD; omega) (fun _ _ q => q)
  refine ⟨s', ?_, hM4.tr hM5', hD5⟩
  rw [f1]
  have r40 := hF4.u 4 0 5 (by decide +kernel)
  have kh := fun d => c10_habitOf (g := g) (d := d) hF4 hp
  have g1 : ¬ 6 ≤ wW w v := by omega
  generalize wW w v = p at *
  simp (disch := first | exact jm_lt0 | (apply jm_ltx; (repeat (first | exact jw_0 | apply jw_i | apply jw_r | apply jw_l)); omega) | omega | assumption | exact sa_3 | exact sa_4 | exact sa_5 | exact sa_53 | exact n32_inA sb_3 (by omega) (by omega) | exact n32_inA sb_4 (by omega) (by omega) | exact n32_inA sb_5 (by omega) (by omega) | exact n32_inA sb_53 (by omega) (by omega) | (refine n32_inA (by assumption) ?_ ?_ <;> omega) | exact bi01 | (rw [sa_3]; omega) | (rw [sa_4]; omega) | (rw [sa_5]; omega) | (rw [sa_53]; omega) | decide) only [sX3_passVisit_0, sX3_passVisit_1, sX3_passVisit_4, sX3_passVisit_5, sX3_passVisit_6, sX3_passVisit_9, sX3_passVisit_10, sX3_passVisit_11, sX3_passVisit_14, sX3_passVisit_15, sX3_passVisit_18, sX3_passVisit_19, sX3_passVisit_22, sX3_passVisit_23, sX3_passVisit_25, sX3_passVisit_28, sX3_passVisit_29, sX3_passVisit_30, sX3_passVisit_33, sX3_passVisit_36, sX3_passVisit_37, sX3_passVisit_40, sX3_passVisit_41, sX3_passVisit_42, sX3_passVisit_45, sX3_passVisit_48, sX3_passVisit_49, sX3_passVisit_52, sX3_passVisit_53, sX3_passVisit_56, sX3_passVisit_57, sX3_passVisit_60, sX3_passVisit_62, sX3_passVisit_63, sX3_passVisit_65, sX3_passVisit_68, sX3_passVisit_70, sX3_passVisit_71, kX3_passVisit_73_AAIAIAI, sX3_passVisit_75, sX3_passVisit_77, sX3_passVisit_80, sX3_passVisit_83, sX3_passVisit_84, sX3_passVisit_86, sX3_passVisit_88, sX3_passVisit_91, sX3_passVisit_94, sX3_passVisit_95, sX3_passVisit_97, sX3_passVisit_99, sX3_passVisit_102, sX3_passVisit_103, sX3_passVisit_105, sX3_passVisit_108, sX3_passVisit_111, sX3_passVisit_114, kX3_passVisit_117_ANNANAI, sX3_passVisit_117, evK_n, evK_v, evK_x, gI_pI, gJ_pI, gR_pI, gI_pJ, gJ_pJ, gR_pJ, gI_pR, gJ_pR, gR_pR, n32_le, n32_lt, n32_add, n32_mul, n32_cl, n32_lt0, if_true, if_false, not_true_eq_false, not_false_eq_true, and_true, true_and, and_false, false_and, and_self, or_true, true_or, or_false, false_or, or_self, ne_eq, Decidable.not_not, Nat.reduceEqDiff, Nat.reduceEqDiff, sa_3, sb_3, sa_4, sb_4, sa_5, sb_5, sa_53, sb_53, r40, e5, kh, f2]
/-- ahead of all VISITS -/
theorem c3_setOut {s : fm_S} (hF : FX s) (hC : CW s w) (hw : wOK w) : ev g (d + 1) mX2_setOut 0 [some (.ref (429 : Nat)), some (.ref (4 : Nat))] [] s = some (.inl none, pI (pI (pI (pI (pI (pI s 429 0 (Int32.ofNat (wT w 1))) 429 1 (Int32.ofNat (wT w 2))) 429 2 (Int32.ofNat (wT w 3))) 429 6 (Int32.ofNat (wT w 0))) 429 3 (Int32.ofNat 0)) 429 4 (-1)) := by
  have CWp : ∀ {s' : fm_S} {j : Nat} {v : Int32}, CW s' w → CW (pI s' 429 j v) w := fun h => h.of hw (fun b i hb => by rw [gI_pI, if_neg (by rintro ⟨rfl, -⟩; exact hb (by unfold TC; omega))])
  have k1 := w_told (g := g) (d := d) (i := 1) hF hC (by decide)
  have k2 := w_told (g := g) (d := d) (i := 2) (s := pI s 429 0 (Int32.ofNat (wT w 1))) hF.pI (CWp hC) (by decide)
  have k3 := w_told (g := g) (d := d) (i := 3) (s := pI (pI s 429 0 (Int32.ofNat (wT w 1))) 429 1 (Int32.ofNat (wT w 2))) hF.pI.pI (CWp (CWp hC)) (by decide)
  have k0 := w_told (g := g) (d := d) (i := 0) (s := pI (pI (pI s 429 0 (Int32.ofNat (wT w 1))) 429 1 (Int32.ofNat (wT w 2))) 429 2 (Int32.ofNat (wT w 3))) hF.pI.pI.pI (CWp (CWp (CWp hC))) (by decide)
  simp (disch := first | exact jm_lt0 | (apply jm_ltx; (repeat (first | exact jw_0 | apply jw_i | apply jw_r | apply jw_l)); omega) | omega | assumption | exact sa_429 | exact sa_4 | exact n32_inA sb_429 (by omega) (by omega) | exact n32_inA sb_4 (by omega) (by omega) | (refine n32_inA (by assumption) ?_ ?_ <;> omega) | exact bi01 | (rw [sa_429]; omega) | (rw [sa_4]; omega) | decide) only [sX2_setOut_0, sX2_setOut_1, sX2_setOut_2, sX2_setOut_3, sX2_setOut_6, sX2_setOut_9, sX2_setOut_10, sX2_setOut_11, sX2_setOut_12, sX2_setOut_15, sX2_setOut_18, sX2_setOut_19, sX2_setOut_20, sX2_setOut_21, sX2_setOut_24, sX2_setOut_27, sX2_setOut_28, sX2_setOut_29, sX2_setOut_30, sX2_setOut_33, sX2_setOut_36, sX2_setOut_37, sX2_setOut_38, sX2_setOut_41, sX2_setOut_42, sX2_setOut_43, sX2_setOut_46, evK_n, evK_v, evK_x, gI_pI, gJ_pI, gR_pI, gI_pJ, gJ_pJ, gR_pJ, gI_pR, gJ_pR, gR_pR, sa_429, sb_429, sa_4, sb_4, k0, k1, k2, k3]
theorem c3_passLoop {y : Int32} {n : Nat} {s0 : fm_S} (hF : FX s0) (hC : CW s0 w) (hw : wOK w) (hn : n ≤ wn w) (hdr : ∀ e y, hDr g e y (nf y) (df y)) (hdl : ∀ y n, 0 < n → df y n < n) : ∀ (m i : Nat) (s : fm_S), i + m = n → FM pDD nO s0 s → DC s (dDay nf df w y i) → ∃ s', ev g (d + 5) mX3_pass 34 [some (.ref (428 : Nat)), some (.ref (3 : Nat)), none, some (.int (Int32.ofNat n)), some (.int (Int32.ofNat i))] [] s = some (.inl none, s') ∧ FM pDD nO s0 s' ∧ DC s' (dDay nf df w y n) := by
  have hn' : wn w ≤ 24 := hw.2.2.1
  intro m
  induction m with
  | zero =>
    intro i s hi hM hD
    have hil : i = n := by omega
    subst hil
    refine ⟨s, ?_, hM, hD⟩
    rw [sX3_pass_34]
    by_cases c : 24 ≤ i
    · simp (disch := first | exact jm_lt0 | (apply jm_ltx; (repeat (first | exact jw_0 | apply jw_i | apply jw_r | apply jw_l)); omega) | omega | assumption | (refine n32_inA (by assumption) ?_ ?_ <;> omega) | exact bi01 | decide) only [sX3_pass_0, sX3_pass_1, sX3_pass_2, sX3_pass_5, sX3_pass_6, sX3_pass_7, sX3_pass_10, sX3_pass_11, sX3_pass_12, sX3_pass_15, sX3_pass_16, sX3_pass_17, sX3_pass_20, sX3_pass_21, sX3_pass_24, sX3_pass_25, sX3_pass_28, sX3_pass_31, sX3_pass_32, kX3_pass_34_AAIII, sX3_pass_36, sX3_pass_38, sX3_pass_41, sX3_pass_43, sX3_pass_44, sX3_pass_47, sX3_pass_48, sX3_pass_49, sX3_pass_51, sX3_pass_54, sX3_pass_57, kX3_pass_60_AANII, sX3_pass_60, n32_le, n32_lt, n32_add, n32_mul, n32_cl, if_true, if_false, not_true_eq_false, not_false_eq_true, and_true, true_and, and_false, false_and, and_self, or_true, true_or, or_false, false_or, or_self, ne_eq, Decidable.not_not, Nat.reduceEqDiff, Nat.reduceEqDiff, c]
    · simp (disch := first | exact jm_lt0 | (apply jm_ltx; (repeat (first | exact jw_0 | apply jw_i | apply jw_r | apply jw_l)); omega) | omega | assumption | (refine n32_inA (by assumption) ?_ ?_ <;> omega) | exact bi01 | decide) only [sX3_pass_0, sX3_pass_1, sX3_pass_2, sX3_pass_5, sX3_pass_6, sX3_pass_7, sX3_pass_10, sX3_pass_11, sX3_pass_12, sX3_pass_15, sX3_pass_16, sX3_pass_17, sX3_pass_20, sX3_pass_21, sX3_pass_24, sX3_pass_25, sX3_pass_28, sX3_pass_31, sX3_pass_32, kX3_pass_34_AAIII, sX3_pass_36, sX3_pass_38, sX3_pass_41, sX3_pass_43, sX3_pass_44, sX3_pass_47, sX3_pass_48, sX3_pass_49, sX3_pass_51, sX3_pass_54, sX3_pass_57, kX3_pass_60_AANII, sX3_pass_60, n32_le, n32_lt, n32_add, n32_mul, n32_cl, if_true, if_false, not_true_eq_false, not_false_eq_true, and_true, true_and, and_false, false_and, and_self, or_true, true_or, or_false, false_or, or_self, ne_eq, Decidable.not_not, Nat.reduceEqDiff, Nat.reduceEqDiff, c]
      rw [if_pos (Nat.le_refl _)]
  | succ m ih =>
    intro i s hi hM hD
    obtain ⟨h1, h2⟩ := dDay_ok (nf := nf) (df := df) (y := y) hw i (by omega)
    have hCs : CW s w := hC.of hw (fun b j hb => hM.2.1 b j (fun q => hb (pDD_TC q)))
    obtain ⟨s1, e1, hM1, hD1⟩ := c3_passVisit (g := g) (d := d) (v := i) (nf := nf) (df := df) (hM.fx hF) hCs hw (by omega) hD h1 h2 hdr hdl
    obtain ⟨s', f1, f2⟩ := ih (i + 1) s1 (by omega) (hM.tr hM1) hD1
    refine ⟨s', ?_, f2⟩
    have g1 : ¬ 24 ≤ i := by omega
    have g2 : ¬ n ≤ i := by omega
    rw [sX3_pass_34]
    simp (disch := first | exact jm_lt0 | (apply jm_ltx; (repeat (first | exact jw_0 | apply jw_i | apply jw_r | apply jw_l)); omega) | omega | assumption | exact sa_428 | exact n32_inA sb_428 (by omega) (by omega) | (refine n32_inA (by assumption) ?_ ?_ <;> omega) | exact bi01 | (rw [sa_428]; omega) | decide) only [sX3_pass_0, sX3_pass_1, sX3_pass_2, sX3_pass_5, sX3_pass_6, sX3_pass_7, sX3_pass_10, sX3_pass_11, sX3_pass_12, sX3_pass_15, sX3_pass_16, sX3_pass_17, sX3_pass_20, sX3_pass_21, sX3_pass_24, sX3_pass_25, sX3_pass_28, sX3_pass_31, sX3_pass_32, kX3_pass_34_AAIII, sX3_pass_36, sX3_pass_38, sX3_pass_41, sX3_pass_43, sX3_pass_44, sX3_pass_47, sX3_pass_48, sX3_pass_49, sX3_pass_51, sX3_pass_54, sX3_pass_57, kX3_pass_60_AANII, sX3_pass_60, evK_n, evK_v, evK_x, gI_pI, gJ_pI, gR_pI, gI_pJ, gJ_pJ, gR_pJ, gI_pR, gJ_pR, gR_pR, n32_le, n32_lt, n32_add, n32_mul, n32_cl, if_true, if_false, not_true_eq_false, not_false_eq_true, and_true, true_and, and_false, false_and, and_self, or_true, true_or, or_false, false_or, or_self, ne_eq, Decidable.not_not, Nat.reduceEqDiff, Nat.reduceEqDiff, sa_428, sb_428, g1, g2, e1, f1]
theorem c3_pass {y : Int32} {n : Nat} {s : fm_S} (hF : FX s) (hC : CW s w) (hw : wOK w) (hn : n ≤ wn w) (hdr : ∀ e y, hDr g e y (nf y) (df y)) (hdl : ∀ y n, 0 < n → df y n < n) : ∃ s', ev g (d + 5) mX3_pass 0 [some (.ref (428 : Nat)), some (.ref (3 : Nat)), some (.int y), some (.int (Int32.ofNat n)), none] [] s = some (.inl none, s') ∧ FM pDD nO s s' ∧ DC s' (dDay nf df w y n) := by
  obtain ⟨b1, b2, b3, b4, b5, b6⟩ := begK_ok hw
  obtain ⟨t1, t2, t3, t4, -⟩ := hw.1
  generalize hs1 : pI (pI (pI (pI s 428 4 y) 428 1 (Int32.ofNat 0)) 428 2 (Int32.ofNat 0)) 428 3 (Int32.ofNat 0) = s1
  have hM1 : FM pDD nO s s1 := by
    rw [← hs1]
    exact (((FM.pI (by unfold pDD; omega)).tr (FM.pI (by unfold pDD; omega))).tr (FM.pI (by unfold pDD; omega))).tr (FM.pI (by unfold pDD; omega))
  have hF1 := hM1.fx hF
  have hC1 : CW s1 w := hC.of hw (fun b j hb => hM1.2.1 b j (fun q => hb (pDD_TC q)))
  have e1 := c3_setOut (g := g) (d := d + 3) hF1 hC1 hw
  have r0 := hF1.u 428 0 429 (by decide +kernel)
  have r1 := hF1.u 3 0 4 (by decide +kernel)
  generalize hs2 : pI (pI (pI (pI (pI (pI s1 429 0 (Int32.ofNat (wT w 1))) 429 1 (Int32.ofNat (wT w 2))) 429 2 (Int32.ofNat (wT w 3))) 429 6 (Int32.ofNat (wT w 0))) 429 3 (Int32.ofNat 0)) 429 4 (-1) = s2 at e1
  have hM2 : FM pDD nO s s2 := by
    rw [← hs2]
    exact (((((hM1.tr (FM.pI (by unfold pDD; omega))).tr (FM.pI (by unfold pDD; omega))).tr (FM.pI (by unfold pDD; omega))).tr (FM.pI (by unfold pDD; omega))).tr (FM.pI (by unfold pDD; omega))).tr (FM.pI (by unfold pDD; omega))
  have hD2 : DC s2 (dDay nf df w y 0) := by
    rw [← hs2, ← hs1]
    refine ⟨HN.nm (st := 0) (by omega) (by omega) (by decide) ?_ ?_ ?_ ?_ ?_, ?_, ?_, ?_, ?_⟩ <;> simp [gI_pI, stI, dDay]
  obtain ⟨s', f1, f2, f3⟩ := c3_passLoop (g := g) (d := d) (y := y) (nf := nf) (df := df) (hM2.fx hF) (hC.of hw (fun b j hb => hM2.2.1 b j (fun q => hb (pDD_TC q)))) hw hn hdr hdl n 0 s2 (by omega) FM.rf hD2
  refine ⟨s', ?_, hM2.tr f2, f3⟩
  rw [← hs1] at e1 r0 r1
  simp (disch := first | exact jm_lt0 | (apply jm_ltx; (repeat (first | exact jw_0 | apply jw_i | apply jw_r | apply jw_l)); omega) | omega | assumption | exact sa_428 | exact sa_3 | exact sa_429 | exact n32_inA sb_428 (by omega) (by omega) | exact n32_inA sb_3 (by omega) (by omega) | exact n32_inA sb_429 (by omega) (by omega) | (refine n32_inA (by assumption) ?_ ?_ <;> omega) | exact bi01 | (rw [sa_428]; omega) | (rw [sa_3]; omega) | (rw [sa_429]; omega) | decide) only [sX3_pass_0, sX3_pass_1, sX3_pass_2, sX3_pass_5, sX3_pass_6, sX3_pass_7, sX3_pass_10, sX3_pass_11, sX3_pass_12, sX3_pass_15, sX3_pass_16, sX3_pass_17, sX3_pass_20, sX3_pass_21, sX3_pass_24, sX3_pass_25, sX3_pass_28, sX3_pass_31, sX3_pass_32, kX3_pass_34_AAIII, sX3_pass_36, sX3_pass_38, sX3_pass_41, sX3_pass_43, sX3_pass_44, sX3_pass_47, sX3_pass_48, sX3_pass_49, sX3_pass_51, sX3_pass_54, sX3_pass_57, kX3_pass_60_AANII, sX3_pass_60, evK_n, evK_v, evK_x, gI_pI, gJ_pI, gR_pI, gI_pJ, gJ_pJ, gR_pJ, gI_pR, gJ_pR, gR_pR, if_true, if_false, not_true_eq_false, not_false_eq_true, and_true, true_and, and_false, false_and, and_self, or_true, true_or, or_false, false_or, or_self, ne_eq, Decidable.not_not, Nat.reduceEqDiff, Nat.reduceEqDiff, sa_428, sb_428, sa_3, sb_3, sa_429, sb_429, r0, r1, e1, f1]
end CV
