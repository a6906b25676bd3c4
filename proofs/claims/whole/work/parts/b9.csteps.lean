/-! a day that passes: a PERSON's STEPS, the class -/
theorem dDo_ok {held see act v : Nat} {nx : Int32} {dw : Nat → Nat} {Z : DZ} (hh : held ≤ 12) (hk : Z.2.1 < NS) (hst : kst Z.2.1 ≤ v + 1) (hv : v < 24) : (dDo held see act v nx dw Z).2.1 < NS ∧ kst (dDo held see act v nx dw Z).2.1 ≤ v + 1 := by
  obtain ⟨y, k, dr, wa, lo⟩ := Z
  dsimp only at hk hst
  obtain ⟨h1, h2, h3⟩ := k_lt hk
  have h5 := k_cd k
  have key : ∀ cl di ca se st, cl + di ≤ 12 → ca < 2 → se < 2 → st ≤ v + 1 → nm cl di ca se st < NS ∧ kst (nm cl di ca se st) ≤ v + 1 := fun cl di ca se st q1 q2 q3 q4 => by
    obtain ⟨-, -, -, -, e5⟩ := k_nm (st := st) q1 q2 q3
    exact ⟨nm_lt q1 q2 q3 (by omega), by rw [e5]; exact q4⟩
  unfold dDo
  dsimp only
  split
  · exact key _ _ _ _ _ (by split <;> omega) h1 h2 hst
  split
  · split
    · exact ⟨hk, hst⟩
    split
    · exact key _ _ _ _ _ (by omega) h1 h2 hst
    · exact key _ _ _ _ _ (by omega) h1 h2 hst
  split
  · split
    · exact ⟨hk, hst⟩
    · dsimp only
      split
      · exact key _ _ _ _ _ h5 h1 (by omega) hst
      · exact ⟨hk, hst⟩
  split
  · split
    · exact ⟨hk, hst⟩
    · exact key _ _ _ _ _ (by omega) h1 h2 (by omega)
  split
  · exact key _ _ _ _ _ (by omega) h1 h2 hst
  · exact key _ _ _ _ _ h5 (by split; omega; split <;> omega) h2 hst
def dStp (nf : Int32 → Int32) (df : Int32 → Nat → Nat) (w : WD) (v i : Nat) (Z : DZ) : DZ := if (dDec (soB w v (wW w v) i) (hbQ (wH w (wW w v)) i) (nf Z.1) (df Z.1) Z).1 = true then dDo (wT w 0) (wT w 6) (hbA (wH w (wW w v)) i) v (nf (dDec (soB w v (wW w v) i) (hbQ (wH w (wW w v)) i) (nf Z.1) (df Z.1) Z).2) (df (dDec (soB w v (wW w v) i) (hbQ (wH w (wW w v)) i) (nf Z.1) (df Z.1) Z).2) ((dDec (soB w v (wW w v) i) (hbQ (wH w (wW w v)) i) (nf Z.1) (df Z.1) Z).2, Z.2) else ((dDec (soB w v (wW w v) i) (hbQ (wH w (wW w v)) i) (nf Z.1) (df Z.1) Z).2, Z.2)
def dSts (nf : Int32 → Int32) (df : Int32 → Nat → Nat) (w : WD) (v : Nat) (Z : DZ) : Nat → DZ
  | 0 => Z
  | n + 1 => dStp nf df w v n (dSts nf df w v Z n)
theorem dSts_ok {nf : Int32 → Int32} {df : Int32 → Nat → Nat} {w : WD} {v : Nat} {Z : DZ} (hw : wOK w) (hk : Z.2.1 < NS) (hst : kst Z.2.1 ≤ v + 1) (hv : v < 24) : ∀ n, (dSts nf df w v Z n).2.1 < NS ∧ kst (dSts nf df w v Z n).2.1 ≤ v + 1
  | 0 => ⟨hk, hst⟩
  | n + 1 => by
    obtain ⟨h1, h2⟩ := dSts_ok hw hk hst hv n
    rw [dSts, dStp]
    split
    · exact dDo_ok (by have := hw.1; omega) h1 h2 hv
    · exact ⟨h1, h2⟩
def pDv (h b j : Nat) : Prop := pDd h b j ∨ pDc b j
section CT
variable {g : fm_g} {d v : Nat} {w : WD} {nf : Int32 → Int32} {df : Int32 → Nat → Nat}
theorem c3_stsLoop {Z : DZ} {s0 : fm_S} (hF : FX s0) (hCW : CW s0 w) (hw : wOK w) (hv : v < wn w) (hE : HE s0 429 w v) (hk : Z.2.1 < NS) (hst : kst Z.2.1 ≤ v + 1) (hdr : ∀ e y, hDr g e y (nf y) (df y)) (hdl : ∀ y n, 0 < n → df y n < n) : ∀ (m i : Nat) (s : fm_S), i + m = hbm (wH w (wW w v)) → FM (pDv (hcl (wW w v))) nO s0 s → DC s (dSts nf df w v Z i) → ∃ s', ev g (d + 3) mX3_passVisit 73 [some (.ref (428 : Nat)), none, none, some (.ref (4 : Nat)), none, some (.ref (hcl (wW w v))), some (.int (Int32.ofNat i))] [] s = some (.inl none, s') ∧ FM (pDv (hcl (wW w v))) nO s0 s' ∧ DC s' (dSts nf df w v Z (hbm (wH w (wW w v)))) := by
  have hn : wn w ≤ 24 := hw.2.2.1
  have hp : wW w v < 6 := (hw.2.2.2.1 v hv).1
  have hOK1 := hw.2.2.2.2.1 (wW w v) (by omega)
  have hm8 := hOK1.1
  have hT6 := hw.1.2.2.2.2.2.2.2.1
  have hcc : hcl (wW w v) = 54 ∨ hcl (wW w v) = 65 ∨ hcl (wW w v) = 72 ∨ hcl (wW w v) = 79 ∨ hcl (wW w v) = 86 ∨ hcl (wW w v) = 93 ∨ hcl (wW w v) = 100 := by unfold hcl; split <;> omega
  have hhL := hcl_in (p := wW w v) (by omega)
  have sH := (hS_of hhL).1
  have tc : ∀ b j, pDv (hcl (wW w v)) b j → TC b j := fun b j q => by unfold pDv pDd pDc at q; unfold TC; omega
  intro m
  induction m with
  | zero =>
    intro i s hi hM hD
    have hil : i = hbm (wH w (wW w v)) := by omega
    subst hil
    have hCs : CW s w := hCW.of hw (fun b j hb => hM.2.1 b j (fun q => hb (tc b j q)))
    have c0 := (hCs.2.2.2.1 (wW w v) (by omega)).1
    refine ⟨s, ?_, hM, hD⟩
    rw [sX3_passVisit_73]
    simp (disch := first | exact jm_lt0 | (apply jm_ltx; (repeat (first | exact jw_0 | apply jw_i | apply jw_r | apply jw_l)); omega) | omega | assumption | exact sa_428 | exact n32_inA sb_428 (by omega) (by omega) | (refine n32_inA (by assumption) ?_ ?_ <;> omega) | exact bi01 | (rw [sa_428]; omega) | decide) only [sX3_passVisit_0, sX3_passVisit_1, sX3_passVisit_4, sX3_passVisit_5, sX3_passVisit_6, sX3_passVisit_9, sX3_passVisit_10, sX3_passVisit_11, sX3_passVisit_14, sX3_passVisit_15, sX3_passVisit_18, sX3_passVisit_19, sX3_passVisit_22, sX3_passVisit_23, sX3_passVisit_25, sX3_passVisit_28, sX3_passVisit_29, sX3_passVisit_30, sX3_passVisit_33, sX3_passVisit_36, sX3_passVisit_37, sX3_passVisit_40, sX3_passVisit_41, sX3_passVisit_42, sX3_passVisit_45, sX3_passVisit_48, sX3_passVisit_49, sX3_passVisit_52, sX3_passVisit_53, sX3_passVisit_56, sX3_passVisit_57, sX3_passVisit_60, sX3_passVisit_62, sX3_passVisit_63, sX3_passVisit_65, sX3_passVisit_68, sX3_passVisit_70, sX3_passVisit_71, kX3_passVisit_73_AAIAIAI, sX3_passVisit_75, sX3_passVisit_77, sX3_passVisit_80, sX3_passVisit_83, sX3_passVisit_84, sX3_passVisit_86, sX3_passVisit_88, sX3_passVisit_91, sX3_passVisit_94, sX3_passVisit_95, sX3_passVisit_97, sX3_passVisit_99, sX3_passVisit_102, sX3_passVisit_103, sX3_passVisit_105, sX3_passVisit_108, sX3_passVisit_111, sX3_passVisit_114, kX3_passVisit_117_ANNANAI, sX3_passVisit_117, evK_n, evK_v, evK_x, gI_pI, gJ_pI, gR_pI, gI_pJ, gJ_pJ, gR_pJ, gI_pR, gJ_pR, gR_pR, n32_le, n32_lt, n32_add, n32_mul, n32_cl, if_true, if_false, not_true_eq_false, not_false_eq_true, and_true, true_and, and_false, false_and, and_self, or_true, true_or, or_false, false_or, or_self, ne_eq, Decidable.not_not, Nat.reduceEqDiff, Nat.reduceEqDiff, sa_428, sb_428, sH, c0]
    rw [if_pos (Nat.le_refl _)]
  | succ m ih =>
    intro i s hi hM hD
    have hil : i < hbm (wH w (wW w v)) := by omega
    have hFs := hM.fx hF
    have hCs : CW s w := hCW.of hw (fun b j hb => hM.2.1 b j (fun q => hb (tc b j q)))
    have hC1 := hCs.2.2.2.1 (wW w v) (by omega)
    have c0 := hC1.1
    have HEk : ∀ s' : fm_S, FM (pDv (hcl (wW w v))) nO s0 s' → HE s' 429 w v := fun s' x => by
      obtain ⟨a1, a2, a3, a4, a5, a6⟩ := hE
      refine ⟨?_, ?_, ?_, ?_, ?_, fun u hu => ?_⟩
      · rw [x.2.1 _ _ (by unfold pDv pDd pDc; omega), a1]
      · rw [x.2.1 _ _ (by unfold pDv pDd pDc; omega), a2]
      · rw [x.2.1 _ _ (by unfold pDv pDd pDc; omega), a3]
      · rw [x.2.1 _ _ (by unfold pDv pDd pDc; omega), a4]
      · rw [x.2.1 _ _ (by unfold pDv pDd pDc; omega), a5]
      · rw [x.2.1 _ _ (by unfold pDv pDd pDc; omega), a6 u hu]
    obtain ⟨k1, k2⟩ := dSts_ok (nf := nf) (df := df) hw hk hst (show v < 24 by omega) i
    have hz : dSts nf df w v Z (i + 1) = dStp nf df w v i (dSts nf df w v Z i) := rfl
    generalize dSts nf df w v Z i = Y at *
    obtain ⟨s1, e1, hM1, hD1⟩ := c3_isDone (g := g) (d := d) (nx := nf Y.1) (dw := df Y.1) hFs hw (by omega) hC1 hil (HEk s hM) hD k1 (by omega) k2 (hdr _ _) (hdl _)
    have hM01 : FM (pDv (hcl (wW w v))) nO s0 s1 := hM.tr (hM1.mono (fun b j q => Or.inl q) (fun _ _ q => q))
    have g1 : ¬ hbm (wH w (wW w v)) ≤ i := by omega
    rw [dStp] at hz
    generalize dDec (soB w v (wW w v) i) (hbQ (wH w (wW w v)) i) (nf Y.1) (df Y.1) Y = B at *
    by_cases cB : B.1 = true
    · rw [if_pos cB] at hz
      rw [bi_t cB] at e1
      have hF1 := hM01.fx hF
      have hCs1 : CW s1 w := hCW.of hw (fun b j hb => hM01.2.1 b j (fun q => hb (tc b j q)))
      have e2 := c5_actOf (g := g) (d := d + 2) hF1 hhL hOK1 (hCs1.2.2.2.1 (wW w v) (by omega)) hil
      have e3 := w_told (g := g) (d := d + 2) (i := 6) hF1 hCs1 (by decide)
      have hE1 := HEk s1 hM01
      obtain ⟨s2, e4, hM2, hD2⟩ := c3_doAct (g := g) (d := d) (v := v) (act := hbA (wH w (wW w v)) i) (Z := (B.2, Y.2)) hF1 hw hE1.1 hE1.2.1 hD1 k1 hT6 (hOK1.2.2.2 i hil).1 (hdr _ _) (hdl _)
      obtain ⟨s', f1, f2⟩ := ih (i + 1) s2 (by omega) (hM01.tr (hM2.mono (fun b j q => Or.inr q) (fun _ _ q => q))) (by rw [hz]; exact hD2)
      refine ⟨s', ?_, f2⟩
      rw [sX3_passVisit_73]
      simp (disch := first | exact jm_lt0 | (apply jm_ltx; (repeat (first | exact jw_0 | apply jw_i | apply jw_r | apply jw_l)); omega) | omega | assumption | exact sa_428 | exact sa_4 | exact n32_inA sb_428 (by omega) (by omega) | exact n32_inA sb_4 (by omega) (by omega) | (refine n32_inA (by assumption) ?_ ?_ <;> omega) | exact bi01 | (rw [sa_428]; omega) | (rw [sa_4]; omega) | decide) only [sX3_passVisit_0, sX3_passVisit_1, sX3_passVisit_4, sX3_passVisit_5, sX3_passVisit_6, sX3_passVisit_9, sX3_passVisit_10, sX3_passVisit_11, sX3_passVisit_14, sX3_passVisit_15, sX3_passVisit_18, sX3_passVisit_19, sX3_passVisit_22, sX3_passVisit_23, sX3_passVisit_25, sX3_passVisit_28, sX3_passVisit_29, sX3_passVisit_30, sX3_passVisit_33, sX3_passVisit_36, sX3_passVisit_37, sX3_passVisit_40, sX3_passVisit_41, sX3_passVisit_42, sX3_passVisit_45, sX3_passVisit_48, sX3_passVisit_49, sX3_passVisit_52, sX3_passVisit_53, sX3_passVisit_56, sX3_passVisit_57, sX3_passVisit_60, sX3_passVisit_62, sX3_passVisit_63, sX3_passVisit_65, sX3_passVisit_68, sX3_passVisit_70, sX3_passVisit_71, kX3_passVisit_73_AAIAIAI, sX3_passVisit_75, sX3_passVisit_77, sX3_passVisit_80, sX3_passVisit_83, sX3_passVisit_84, sX3_passVisit_86, sX3_passVisit_88, sX3_passVisit_91, sX3_passVisit_94, sX3_passVisit_95, sX3_passVisit_97, sX3_passVisit_99, sX3_passVisit_102, sX3_passVisit_103, sX3_passVisit_105, sX3_passVisit_108, sX3_passVisit_111, sX3_passVisit_114, kX3_passVisit_117_ANNANAI, sX3_passVisit_117, evK_n, evK_v, evK_x, gI_pI, gJ_pI, gR_pI, gI_pJ, gJ_pJ, gR_pJ, gI_pR, gJ_pR, gR_pR, n32_le, n32_lt, n32_add, n32_mul, n32_cl, if_true, if_false, not_true_eq_false, not_false_eq_true, and_true, true_and, and_false, false_and, and_self, or_true, true_or, or_false, false_or, or_self, ne_eq, Decidable.not_not, Nat.reduceEqDiff, Nat.reduceEqDiff, sa_428, sb_428, sa_4, sb_4, sH, c0, g1, e1, show ¬ (Int32.ofNat 1 = 0) by decide, e2, e3, e4]
      exact f1
    · rw [if_neg cB] at hz
      rw [bi_f cB] at e1
      obtain ⟨s', f1, f2⟩ := ih (i + 1) s1 (by omega) hM01 (by rw [hz]; exact hD1)
      refine ⟨s', ?_, f2⟩
      rw [sX3_passVisit_73]
      simp (disch := first | exact jm_lt0 | (apply jm_ltx; (repeat (first | exact jw_0 | apply jw_i | apply jw_r | apply jw_l)); omega) | omega | assumption | exact sa_428 | exact sa_4 | exact n32_inA sb_428 (by omega) (by omega) | exact n32_inA sb_4 (by omega) (by omega) | (refine n32_inA (by assumption) ?_ ?_ <;> omega) | exact bi01 | (rw [sa_428]; omega) | (rw [sa_4]; omega) | decide) only [sX3_passVisit_0, sX3_passVisit_1, sX3_passVisit_4, sX3_passVisit_5, sX3_passVisit_6, sX3_passVisit_9, sX3_passVisit_10, sX3_passVisit_11, sX3_passVisit_14, sX3_passVisit_15, sX3_passVisit_18, sX3_passVisit_19, sX3_passVisit_22, sX3_passVisit_23, sX3_passVisit_25, sX3_passVisit_28, sX3_passVisit_29, sX3_passVisit_30, sX3_passVisit_33, sX3_passVisit_36, sX3_passVisit_37, sX3_passVisit_40, sX3_passVisit_41, sX3_passVisit_42, sX3_passVisit_45, sX3_passVisit_48, sX3_passVisit_49, sX3_passVisit_52, sX3_passVisit_53, sX3_passVisit_56, sX3_passVisit_57, sX3_passVisit_60, sX3_passVisit_62, sX3_passVisit_63, sX3_passVisit_65, sX3_passVisit_68, sX3_passVisit_70, sX3_passVisit_71, kX3_passVisit_73_AAIAIAI, sX3_passVisit_75, sX3_passVisit_77, sX3_passVisit_80, sX3_passVisit_83, sX3_passVisit_84, sX3_passVisit_86, sX3_passVisit_88, sX3_passVisit_91, sX3_passVisit_94, sX3_passVisit_95, sX3_passVisit_97, sX3_passVisit_99, sX3_passVisit_102, sX3_passVisit_103, sX3_passVisit_105, sX3_passVisit_108, sX3_passVisit_111, sX3_passVisit_114, kX3_passVisit_117_ANNANAI, sX3_passVisit_117, evK_n, evK_v, evK_x, gI_pI, gJ_pI, gR_pI, gI_pJ, gJ_pJ, gR_pJ, gI_pR, gJ_pR, gR_pR, n32_le, n32_lt, n32_add, n32_mul, n32_cl, if_true, if_false, not_true_eq_false, not_false_eq_true, and_true, true_and, and_false, false_and, and_self, or_true, true_or, or_false, false_or, or_self, ne_eq, Decidable.not_not, Nat.reduceEqDiff, Nat.reduceEqDiff, sa_428, sb_428, sa_4, sb_4, sH, c0, g1, e1, z32]
      exact f1
end CT
