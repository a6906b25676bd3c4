/-! the class: the beginning of a reckoning, and what is counted of it -/
def begK (w : WD) : Nat := nm (wT w 1) (wT w 2) (wT w 3) 0 0
def zBeg (w : WD) : ZZ := (fun k => if k = begK w then ONE else 0, fun _ => 0, 0, 0)
theorem begK_ok {w : WD} (hw : wOK w) : begK w < NS ∧ kc (begK w) = wT w 1 ∧ kd (begK w) = wT w 2 ∧ kcard (begK w) = wT w 3 ∧ kseen (begK w) = 0 ∧ kst (begK w) = 0 := by
  obtain ⟨t1, t2, t3, t4, -⟩ := hw.1
  exact ⟨nm_lt (by omega) (by omega) (by omega) (by omega), k_nm (by omega) (by omega) (by omega)⟩
theorem zBeg_ok {w : WD} (hw : wOK w) : SUP 0 (zBeg w).1 ∧ UNS (zBeg w).1 ∧ sumN (zBeg w).1 NS = ONE := by
  obtain ⟨h1, h2, h3, h4, h5, h6⟩ := begK_ok hw
  refine ⟨fun k hk => ?_, fun k hk => ?_, sumN_at (f := fun _ => ONE) h1⟩
  · have : k = begK w := by
      by_cases c : k = begK w
      · exact c
      · exact absurd (if_neg c) hk
    rw [this]
    exact ⟨h1, by omega⟩
  · have : k = begK w := by
      by_cases c : k = begK w
      · exact c
      · exact absurd (if_neg c) hk
    rw [this, h5]
section SU
variable {D : Nat → Nat}
theorem c2_setOut {g : fm_g} {d : Nat} {w : WD} {s : fm_S} (hF : FX s) (hC : CW s w) (hw : wOK w) : ev g (d + 1) mX2_setOut 0 [some (.ref (310 : Nat)), some (.ref (4 : Nat))] [] s = some (.inl none, pI (pI (pI (pI (pI (pI s 310 0 (Int32.ofNat (wT w 1))) 310 1 (Int32.ofNat (wT w 2))) 310 2 (Int32.ofNat (wT w 3))) 310 6 (Int32.ofNat (wT w 0))) 310 3 (Int32.ofNat 0)) 310 4 (-1)) := by
  have CWp : ∀ {s' : fm_S} {j : Nat} {v : Int32}, CW s' w → CW (pI s' 310 j v) w := fun h => h.of hw (fun b i hb => by rw [gI_pI, if_neg (by rintro ⟨rfl, -⟩; exact hb (by unfold TC; omega))])
  have k1 := w_told (g := g) (d := d) (i := 1) hF hC (by decide)
  have k2 := w_told (g := g) (d := d) (i := 2) (s := pI s 310 0 (Int32.ofNat (wT w 1))) hF.pI (CWp hC) (by decide)
  have k3 := w_told (g := g) (d := d) (i := 3) (s := pI (pI s 310 0 (Int32.ofNat (wT w 1))) 310 1 (Int32.ofNat (wT w 2))) hF.pI.pI (CWp (CWp hC)) (by decide)
  have k0 := w_told (g := g) (d := d) (i := 0) (s := pI (pI (pI s 310 0 (Int32.ofNat (wT w 1))) 310 1 (Int32.ofNat (wT w 2))) 310 2 (Int32.ofNat (wT w 3))) hF.pI.pI.pI (CWp (CWp (CWp hC))) (by decide)
  simp (disch := first | exact jm_lt0 | (apply jm_ltx; (repeat (first | exact jw_0 | apply jw_i | apply jw_r | apply jw_l)); omega) | omega | assumption | exact sa_310 | exact sa_4 | exact n32_inA sb_310 (by omega) (by omega) | exact n32_inA sb_4 (by omega) (by omega) | (refine n32_inA (by assumption) ?_ ?_ <;> omega) | exact bi01 | (rw [sa_310]; omega) | (rw [sa_4]; omega) | decide) only [sX2_setOut_0, sX2_setOut_1, sX2_setOut_2, sX2_setOut_3, sX2_setOut_6, sX2_setOut_9, sX2_setOut_10, sX2_setOut_11, sX2_setOut_12, sX2_setOut_15, sX2_setOut_18, sX2_setOut_19, sX2_setOut_20, sX2_setOut_21, sX2_setOut_24, sX2_setOut_27, sX2_setOut_28, sX2_setOut_29, sX2_setOut_30, sX2_setOut_33, sX2_setOut_36, sX2_setOut_37, sX2_setOut_38, sX2_setOut_41, sX2_setOut_42, sX2_setOut_43, sX2_setOut_46, evK_n, evK_v, evK_x, gI_pI, gJ_pI, gR_pI, gI_pJ, gJ_pJ, gR_pJ, gI_pR, gJ_pR, gR_pR, sa_310, sb_310, sa_4, sb_4, k0, k1, k2, k3]
theorem c7_setOut {g : fm_g} {d : Nat} {w : WD} {s : fm_S} (hF : FX s) (hO : OS s D) (hC : CW s w) (hw : wOK w) : ∃ s', ev g (d + 2) mX7_setOut 0 [some (.ref (307 : Nat)), some (.ref (4 : Nat)), none] [] s = some (.inl none, s') ∧ RM pN qO rsw s s' ∧ ZS s' (zBeg w) := by
  obtain ⟨A, A', l, o1, o2, o3⟩ := hO
  obtain ⟨a1, a2, a3⟩ := od_A o1
  have sA : (shp A).1 = 1 := (clS o1.2.2.1).1
  obtain ⟨b1, b2, b3, b4, b5, b6⟩ := begK_ok hw
  obtain ⟨t1, t2, t3, t4, -⟩ := hw.1
  generalize hs1 : pJ (pJ (pJ (pJ (pJ (pJ (pJ (pJ s 307 6 (Int64.ofNat 0)) 307 7 (Int64.ofNat 0)) 314 0 (Int64.ofNat 0)) 314 1 (Int64.ofNat 0)) 314 2 (Int64.ofNat 0)) 314 3 (Int64.ofNat 0)) 314 4 (Int64.ofNat 0)) 314 5 (Int64.ofNat 0) = s1
  have hT1 : CT3 s1 (fun _ => 0) 0 0 := by
    rw [← hs1]
    refine ⟨fun p hp => ?_, by simp [gJ_pJ], by simp [gJ_pJ]⟩
    have : p = 0 ∨ p = 1 ∨ p = 2 ∨ p = 3 ∨ p = 4 ∨ p = 5 := by omega
    rcases this with rfl | rfl | rfl | rfl | rfl | rfl <;> simp [gJ_pJ]
  have hM1 : FM pO qO s s1 := by
    rw [← hs1]
    exact (((((((FM.pJ (by unfold qO; omega)).tr (FM.pJ (by unfold qO; omega))).tr (FM.pJ (by unfold qO; omega))).tr (FM.pJ (by unfold qO; omega))).tr (FM.pJ (by unfold qO; omega))).tr (FM.pJ (by unfold qO; omega))).tr (FM.pJ (by unfold qO; omega))).tr (FM.pJ (by unfold qO; omega))
  have hc1 : ∀ x, x = A ∨ x = A' → ∀ l D, CL s x l D → CL s1 x l D := fun x hx l D h => by
    rw [← hs1]
    refine h.of ?_ (fun j => ?_) (fun j => ?_)
    · simp only [gI_pJ]
    · simp only [gI_pJ]
    · simp only [gJ_pJ]
      repeat rw [if_neg (by omega)]
  have hF1 := hM1.fx hF
  obtain ⟨s2, e2, hM2, hc2⟩ := c1_clear (g := g) (d := d + 1) hF1 o1.2.2.1 (hc1 A (Or.inl rfl) l D o2)
  have hM2' : FM pO qO s1 s2 := hM2.mono (fun b j q => by unfold pC at q; unfold pO; omega) (fun b j q => by unfold qC at q; unfold qO; omega)
  have hc2' : CL s2 A' [] (fun _ => 0) := (hc1 A' (Or.inr rfl) _ _ o3).of (hM2.2.1 _ _ (by unfold pC; omega)) (fun j => hM2.2.1 _ _ (by unfold pC; omega)) (fun j => hM2.2.2 _ _ (by unfold qC; omega))
  have hF2 := hM2'.fx hF1
  have hC2 : CW s2 w := hC.of hw (fun b j hb => (hM1.tr hM2').2.1 b j (fun q => hb (pO_TC q)))
  have e3 := c2_setOut (g := g) (d := d) hF2 hC2 hw
  generalize hs3 : pI (pI (pI (pI (pI (pI s2 310 0 (Int32.ofNat (wT w 1))) 310 1 (Int32.ofNat (wT w 2))) 310 2 (Int32.ofNat (wT w 3))) 310 6 (Int32.ofNat (wT w 0))) 310 3 (Int32.ofNat 0)) 310 4 (-1) = s3 at e3
  have hM3 : FM pN qO s2 s3 := by
    rw [← hs3]
    exact (((((FM.pI (by unfold pN pO; omega)).tr (FM.pI (by unfold pN pO; omega))).tr (FM.pI (by unfold pN pO; omega))).tr (FM.pI (by unfold pN pE; omega))).tr (FM.pI (by unfold pN pO; omega))).tr (FM.pI (by unfold pN pO; omega))
  have hF3 := hM3.fx hF2
  have h5 : HN5 s3 310 (wT w 1) (wT w 2) (wT w 3) 0 0 := by
    rw [← hs3]
    exact ⟨by simp [gI_pI], by simp [gI_pI], by simp [gI_pI], by simp [gI_pI], by simp [gI_pI, stI]⟩
  have e4 := c1_numberOf (g := g) (d := d + 1) (by decide) h5 (by omega)
  have hc3 : ∀ x, x = A ∨ x = A' → ∀ l D, CL s2 x l D → CL s3 x l D := fun x hx l D h => by
    rw [← hs3]
    refine h.of ?_ (fun j => ?_) (fun j => ?_)
    · simp only [gI_pI]
      repeat rw [if_neg (by omega)]
    · simp only [gI_pI]
      repeat rw [if_neg (by omega)]
    · simp only [gJ_pI]
  obtain ⟨s4, l4, e5, hM4, hc4⟩ := c1_add (g := g) (d := d + 1) (k := begK w) (m := ONE) hF3 o1.2.2.1 (hc3 A (Or.inl rfl) _ _ hc2) b1 (by decide)
  have hM4' : FM pO qO s3 s4 := hM4.mono (fun b j q => by unfold pC at q; unfold pO; omega) (fun b j q => by unfold qC at q; unfold qO; omega)
  have hR : RM pN qO rsw s s4 := (((hM1.tr hM2').mono (fun _ _ h => Or.inl h) (fun _ _ h => h)).tr (hM3.tr (hM4'.mono (fun _ _ h => Or.inl h) (fun _ _ h => h)))).rm
  refine ⟨s4, ?_, hR, ⟨A, A', l4, ?_, ?_, ?_⟩, ?_⟩
  · have y1 : gR s1 307 8 = A := by rw [hM1.gR, o1.1]
    have y2 : gR s2 307 8 = A := by rw [hM2.gR, y1]
    have y3 : gR s3 307 8 = A := by rw [hM3.gR, y2]
    have y4 := hF2.u 307 2 310 (by decide +kernel)
    have y5 := hF3.u 307 2 310 (by decide +kernel)
    have r4 := hF.u 307 4 314 (by decide +kernel)
    have hk : nm (wT w 1) (wT w 2) (wT w 3) 0 0 = begK w := rfl
    rw [hk] at e4
    simp (disch := first | exact jm_lt0 | (apply jm_ltx; (repeat (first | exact jw_0 | apply jw_i | apply jw_r | apply jw_l)); omega) | omega | assumption | exact sa_307 | exact sa_314 | exact n32_inA sb_307 (by omega) (by omega) | exact n32_inA sb_314 (by omega) (by omega) | (refine n32_inA (by assumption) ?_ ?_ <;> omega) | exact bi01 | (rw [sa_307]; omega) | (rw [sa_314]; omega) | decide) only [sX7_setOut_0, sX7_setOut_1, sX7_setOut_2, sX7_setOut_5, sX7_setOut_6, sX7_setOut_7, sX7_setOut_10, sX7_setOut_11, sX7_setOut_12, sX7_setOut_13, sX7_setOut_15, sX7_setOut_18, sX7_setOut_19, sX7_setOut_22, sX7_setOut_23, sX7_setOut_24, sX7_setOut_25, sX7_setOut_28, kX7_setOut_31_AAI, sX7_setOut_31, sX7_setOut_32, sX7_setOut_35, sX7_setOut_38, sX7_setOut_39, sX7_setOut_42, sX7_setOut_43, sX7_setOut_46, sX7_setOut_47, sX7_setOut_50, sX7_setOut_51, sX7_setOut_54, sX7_setOut_57, sX7_setOut_60, sX7_setOut_63, evK_n, evK_v, evK_x, gI_pI, gJ_pI, gR_pI, gI_pJ, gJ_pJ, gR_pJ, gI_pR, gJ_pR, gR_pR, n32_le, n32_lt, n32_add, n32_mul, n32_cl, if_true, if_false, not_true_eq_false, not_false_eq_true, and_true, true_and, and_false, false_and, and_self, or_true, true_or, or_false, false_or, or_self, ne_eq, Decidable.not_not, Nat.reduceEqDiff, Nat.reduceEqDiff, sa_307, sb_307, sa_314, sb_314, r4, Nat.reduceLeDiff, Nat.reduceAdd, show ¬ ((6 : Nat) ≤ 0) by decide, show ¬ ((6 : Nat) ≤ 1) by decide, show ¬ ((6 : Nat) ≤ 2) by decide, show ¬ ((6 : Nat) ≤ 3) by decide, show ¬ ((6 : Nat) ≤ 4) by decide, show ¬ ((6 : Nat) ≤ 5) by decide, show ((6 : Nat) ≤ 6) = True from eq_true (by decide), hs1, y1, e2, y2, y4, e3, y3, y5, e4]
    have e5' : ev g (d + 1) mX1_add 0 [some (.ref A), some (.int (Int32.ofNat (begK w))), some (.long (Int64.ofNat 1099511627776)), none] [] s3 = some (.inl none, s4) := e5
    simp (disch := first | exact jm_lt0 | (apply jm_ltx; (repeat (first | exact jw_0 | apply jw_i | apply jw_r | apply jw_l)); omega) | omega | assumption | exact sa_307 | exact sa_314 | exact n32_inA sb_307 (by omega) (by omega) | exact n32_inA sb_314 (by omega) (by omega) | (refine n32_inA (by assumption) ?_ ?_ <;> omega) | exact bi01 | (rw [sa_307]; omega) | (rw [sa_314]; omega) | decide) only [sX7_setOut_0, sX7_setOut_1, sX7_setOut_2, sX7_setOut_5, sX7_setOut_6, sX7_setOut_7, sX7_setOut_10, sX7_setOut_11, sX7_setOut_13, sX7_setOut_15, sX7_setOut_18, sX7_setOut_19, sX7_setOut_22, sX7_setOut_23, sX7_setOut_24, sX7_setOut_25, sX7_setOut_28, kX7_setOut_31_AAI, sX7_setOut_31, sX7_setOut_32, sX7_setOut_35, sX7_setOut_38, sX7_setOut_39, sX7_setOut_42, sX7_setOut_43, sX7_setOut_46, sX7_setOut_47, sX7_setOut_50, sX7_setOut_51, sX7_setOut_54, sX7_setOut_57, sX7_setOut_60, sX7_setOut_63, evK_n, evK_v, evK_x, gI_pI, gJ_pI, gR_pI, gI_pJ, gJ_pJ, gR_pJ, gI_pR, gJ_pR, gR_pR, if_true, if_false, not_true_eq_false, not_false_eq_true, and_true, true_and, and_false, false_and, and_self, or_true, true_or, or_false, false_or, or_self, ne_eq, Decidable.not_not, Nat.reduceEqDiff, Nat.reduceEqDiff, e5']
  · exact ((o1.fm hM1).fm hM2).fm hM3 |>.fm hM4
  · refine ⟨hc4.1, hc4.2.1, hc4.2.2.1, hc4.2.2.2.1, fun k hk => ?_⟩
    have := hc4.2.2.2.2 k hk
    have e : updD (fun _ => 0) (begK w) ONE k = (zBeg w).1 k := by
      unfold updD zBeg
      dsimp only
      rw [Nat.zero_add]
    rw [← e]
    exact this
  · exact (hc3 A' (Or.inr rfl) _ _ hc2').of (hM4.2.1 _ _ (by unfold pC; omega)) (fun j => hM4.2.1 _ _ (by unfold pC; omega)) (fun j => hM4.2.2 _ _ (by unfold qC; omega))
  · refine hT1.cn ((CN.cl hM2 a1).tr (CN.tr ?_ (CN.cl hM4 a1)))
    rw [← hs3]
    exact ((((CN.pI.tr CN.pI).tr CN.pI).tr CN.pI).tr CN.pI).tr CN.pI
theorem c7_isLeftOut {g : fm_g} {d v : Nat} {w : WD} {o : OPT} {s : fm_S} (hF : FX s) (hC : CW s w) (hP : PL s o) (ho : oOK o) (hv : v < wn w) : ev g (d + 2) mX7_isLeftOut 0 [some (.ref (307 : Nat)), some (.ref (4 : Nat)), some (.int (Int32.ofNat v))] [] s = some (.inl (some (.int (bi (wW w v = o.2.2.2.1)))), s) := by
  obtain ⟨n, hD⟩ := hC.2.2.1
  have k1 := d_personOf (g := g) (d := d) hF (by decide) hD hv
  have h13 := hP.2.2.2.1
  have r0 := hF.u 4 0 5 (by decide +kernel)
  have hW := (hD.2.2.2.2 v hv).1.2
  by_cases c : o.2.2.2.1 = 99
  · rw [if_pos c] at h13
    have : ¬ wW w v = o.2.2.2.1 := by omega
    simp (disch := first | exact jm_lt0 | (apply jm_ltx; (repeat (first | exact jw_0 | apply jw_i | apply jw_r | apply jw_l)); omega) | omega | assumption | exact sa_307 | exact sa_4 | exact sa_5 | exact n32_inA sb_307 (by omega) (by omega) | exact n32_inA sb_4 (by omega) (by omega) | exact n32_inA sb_5 (by omega) (by omega) | (refine n32_inA (by assumption) ?_ ?_ <;> omega) | exact bi01 | (rw [sa_307]; omega) | (rw [sa_4]; omega) | (rw [sa_5]; omega) | decide) only [sX7_isLeftOut_0, sX7_isLeftOut_1, sX7_isLeftOut_4, sX7_isLeftOut_5, sX7_isLeftOut_8, sX7_isLeftOut_9, sX7_isLeftOut_12, sX7_isLeftOut_13, sX7_isLeftOut_16, sX7_isLeftOut_17, sX7_isLeftOut_20, sX7_isLeftOut_23, sX7_isLeftOut_24, kX7_isLeftOut_27_AAI, sX7_isLeftOut_27, kX7_isLeftOut_28_AAI, sX7_isLeftOut_28, evK_n, evK_v, evK_x, gI_pI, gJ_pI, gR_pI, gI_pJ, gJ_pJ, gR_pJ, gI_pR, gJ_pR, gR_pR, n32_le, n32_lt, n32_add, n32_mul, n32_cl, if_true, if_false, not_true_eq_false, not_false_eq_true, and_true, true_and, and_false, false_and, and_self, or_true, true_or, or_false, false_or, or_self, ne_eq, Decidable.not_not, Nat.reduceEqDiff, Nat.reduceEqDiff, sa_307, sb_307, sa_4, sb_4, sa_5, sb_5, h13, bi_f this]
  · rw [if_neg c] at h13
    have ho4 := ho.2.2.2.1
    by_cases c2 : wW w v = o.2.2.2.1
    · simp (disch := first | exact jm_lt0 | (apply jm_ltx; (repeat (first | exact jw_0 | apply jw_i | apply jw_r | apply jw_l)); omega) | omega | assumption | exact sa_307 | exact sa_4 | exact sa_5 | exact n32_inA sb_307 (by omega) (by omega) | exact n32_inA sb_4 (by omega) (by omega) | exact n32_inA sb_5 (by omega) (by omega) | (refine n32_inA (by assumption) ?_ ?_ <;> omega) | exact bi01 | (rw [sa_307]; omega) | (rw [sa_4]; omega) | (rw [sa_5]; omega) | decide) only [sX7_isLeftOut_0, sX7_isLeftOut_1, sX7_isLeftOut_4, sX7_isLeftOut_5, sX7_isLeftOut_8, sX7_isLeftOut_9, sX7_isLeftOut_12, sX7_isLeftOut_13, sX7_isLeftOut_16, sX7_isLeftOut_17, sX7_isLeftOut_20, sX7_isLeftOut_23, sX7_isLeftOut_24, kX7_isLeftOut_27_AAI, sX7_isLeftOut_27, kX7_isLeftOut_28_AAI, sX7_isLeftOut_28, evK_n, evK_v, evK_x, gI_pI, gJ_pI, gR_pI, gI_pJ, gJ_pJ, gR_pJ, gI_pR, gJ_pR, gR_pR, n32_le, n32_lt, n32_add, n32_mul, n32_cl, if_true, if_false, not_true_eq_false, not_false_eq_true, and_true, true_and, and_false, false_and, and_self, or_true, true_or, or_false, false_or, or_self, ne_eq, Decidable.not_not, Nat.reduceEqDiff, Nat.reduceEqDiff, sa_307, sb_307, sa_4, sb_4, sa_5, sb_5, h13, n32_neg, r0, k1, n32_eq, c2, bi]
    · simp (disch := first | exact jm_lt0 | (apply jm_ltx; (repeat (first | exact jw_0 | apply jw_i | apply jw_r | apply jw_l)); omega) | omega | assumption | exact sa_307 | exact sa_4 | exact sa_5 | exact n32_inA sb_307 (by omega) (by omega) | exact n32_inA sb_4 (by omega) (by omega) | exact n32_inA sb_5 (by omega) (by omega) | (refine n32_inA (by assumption) ?_ ?_ <;> omega) | exact bi01 | (rw [sa_307]; omega) | (rw [sa_4]; omega) | (rw [sa_5]; omega) | decide) only [sX7_isLeftOut_0, sX7_isLeftOut_1, sX7_isLeftOut_4, sX7_isLeftOut_5, sX7_isLeftOut_8, sX7_isLeftOut_9, sX7_isLeftOut_12, sX7_isLeftOut_13, sX7_isLeftOut_16, sX7_isLeftOut_17, sX7_isLeftOut_20, sX7_isLeftOut_23, sX7_isLeftOut_24, kX7_isLeftOut_27_AAI, sX7_isLeftOut_27, kX7_isLeftOut_28_AAI, sX7_isLeftOut_28, evK_n, evK_v, evK_x, gI_pI, gJ_pI, gR_pI, gI_pJ, gJ_pJ, gR_pJ, gI_pR, gJ_pR, gR_pR, n32_le, n32_lt, n32_add, n32_mul, n32_cl, if_true, if_false, not_true_eq_false, not_false_eq_true, and_true, true_and, and_false, false_and, and_self, or_true, true_or, or_false, false_or, or_self, ne_eq, Decidable.not_not, Nat.reduceEqDiff, Nat.reduceEqDiff, sa_307, sb_307, sa_4, sb_4, sa_5, sb_5, h13, n32_neg, r0, k1, n32_eq, c2, bi]
theorem c7_cost {g : fm_g} {d : Nat} {w : WD} {dr : Nat → Nat} {wa lo : Nat} {s : fm_S} (hF : FX s) (hC : CW s w) (hw : wOK w) (hT : CT3 s dr wa lo) : ev g (d + 1) mX7_costAt 0 [some (.ref (307 : Nat)), some (.ref (4 : Nat)), none, none, none] [] s = some (.inl (some (.long (Int64.ofNat (wP w 0 * sumN dr 6 + wP w 1 * wa + wP w 2 * lo)))), s) := by
  obtain ⟨h1, h2, h3⟩ := hT
  have k0 := w_price (g := g) (d := d) (i := 0) hF hC (by decide)
  have k1 := w_price (g := g) (d := d) (i := 1) hF hC (by decide)
  have k2 := w_price (g := g) (d := d) (i := 2) hF hC (by decide)
  have r4 := hF.u 307 4 314 (by decide +kernel)
  have c0 := h1 0 (by decide)
  have c1 := h1 1 (by decide)
  have c2 := h1 2 (by decide)
  have c3 := h1 3 (by decide)
  have c4 := h1 4 (by decide)
  have c5 := h1 5 (by decide)
  have p0 := hC.2.1 0 (by decide)
  simp (disch := first | exact jm_lt0 | (apply jm_ltx; (repeat (first | exact jw_0 | apply jw_i | apply jw_r | apply jw_l)); omega) | omega | assumption | exact sa_307 | exact sa_314 | exact sa_4 | exact n32_inA sb_307 (by omega) (by omega) | exact n32_inA sb_314 (by omega) (by omega) | exact n32_inA sb_4 (by omega) (by omega) | (refine n32_inA (by assumption) ?_ ?_ <;> omega) | exact bi01 | (rw [sa_307]; omega) | (rw [sa_314]; omega) | (rw [sa_4]; omega) | decide) only [sX7_costAt_0, sX7_costAt_1, sX7_costAt_2, sX7_costAt_3, sX7_costAt_5, sX7_costAt_7, sX7_costAt_9, sX7_costAt_12, sX7_costAt_13, sX7_costAt_14, sX7_costAt_17, sX7_costAt_19, sX7_costAt_20, sX7_costAt_21, sX7_costAt_22, sX7_costAt_25, kX7_costAt_28_AAJNI, sX7_costAt_28, sX7_costAt_29, sX7_costAt_30, sX7_costAt_33, sX7_costAt_34, sX7_costAt_35, sX7_costAt_36, sX7_costAt_37, sX7_costAt_38, sX7_costAt_41, sX7_costAt_42, sX7_costAt_43, sX7_costAt_46, sX7_costAt_47, sX7_costAt_48, sX7_costAt_49, sX7_costAt_50, sX7_costAt_53, sX7_costAt_54, sX7_costAt_55, sX7_costAt_58, sX7_costAt_59, sX7_costAt_60, evK_n, evK_v, evK_x, gI_pI, gJ_pI, gR_pI, gI_pJ, gJ_pJ, gR_pJ, gI_pR, gJ_pR, gR_pR, n32_le, n32_lt, n32_add, n32_mul, n32_cl, if_true, if_false, not_true_eq_false, not_false_eq_true, and_true, true_and, and_false, false_and, and_self, or_true, true_or, or_false, false_or, or_self, ne_eq, Decidable.not_not, Nat.reduceEqDiff, Nat.reduceEqDiff, sa_307, sb_307, sa_314, sb_314, sa_4, sb_4, r4, Nat.reduceAdd, show ¬ ((6 : Nat) ≤ 0) by decide, show ¬ ((6 : Nat) ≤ 1) by decide, show ¬ ((6 : Nat) ≤ 2) by decide, show ¬ ((6 : Nat) ≤ 3) by decide, show ¬ ((6 : Nat) ≤ 4) by decide, show ¬ ((6 : Nat) ≤ 5) by decide, show ((6 : Nat) ≤ 6) = True from eq_true (by decide), c0, c1, c2, c3, c4, c5, n64_add, k0, k1, k2, h2, h3]
  have hP := hw.2.1
  have q0 := hP 0 (by decide)
  have q1 := hP 1 (by decide)
  have q2 := hP 2 (by decide)
  rw [n32_64 (by omega), n32_64 (by omega), n32_64 (by omega), n64_mul, n64_mul, n64_mul, n64_add, n64_add]
  rfl
end SU
