/-! the class: GIVEN the BOOK -/
def qV (b j : Nat) : Prop := qO b j ∨ (378 ≤ b ∧ b < 428)
theorem RM.V {s s' : fm_S} (x : RM pN qO rsw s s') : RM pN qV rsw s s' := x.mono (fun _ _ h => h) (fun _ _ h => Or.inl h) (fun _ _ h => h)
theorem PL.V {s s' : fm_S} {o : OPT} {Q : Nat → Nat → Prop} (h : PL s o) (x : RM pN Q rsw s s') : PL s' o := by
  obtain ⟨h1, h2, h3, h4, h5⟩ := h
  refine ⟨?_, ?_, ?_, ?_, fun p hp => ?_⟩
  · rw [x.2.1 _ _ (by unfold pN pO pE HSK; omega), h1]
  · rw [x.2.1 _ _ (by unfold pN pO pE HSK; omega), h2]
  · rw [x.2.1 _ _ (by unfold pN pO pE HSK; omega), h3]
  · rw [x.2.1 _ _ (by unfold pN pO pE HSK; omega), h4]
  · rw [x.2.2.2 _ _ (by unfold rsw; omega), h5 p hp]
theorem TB.V {s s' : fm_S} {Q : Nat → Nat → Prop} (h : TB s) (x : RM pN Q rsw s s') : TB s' := h.of (fun j => ⟨x.2.1 _ _ (by unfold pN pO pE HSK; omega), x.2.1 _ _ (by unfold pN pO pE HSK; omega)⟩)
theorem CW.V {s s' : fm_S} {w : WD} {Q : Nat → Nat → Prop} (h : CW s w) (hw : wOK w) (x : RM pN Q rsw s s') : CW s' w := h.of hw (fun b j hb => x.2.1 b j (fun q => hb (pN_TC q)))
theorem opt_0 {w : WD} : (opt w 0 0).1 = wT w 4 ∧ (opt w 0 0).2.1 = wT w 6 ∧ (opt w 0 0).2.2.1 = 0 ∧ (opt w 0 0).2.2.2.1 = 99 := ⟨rfl, rfl, rfl, rfl⟩
theorem c6_gvLoop {g : fm_g} {d : Nat} {w : WD} {s0 : fm_S} (hF : FX s0) (hB : TB s0) (hCW : CW s0 w) (hw : wOK w) (hP : PL s0 (opt w 0 0)) : ∀ (m v : Nat) (s : fm_S), v + m = wn w → RM pN qV rsw s0 s → ZS s (zGb w (opt w 0 0) v) → (∀ u, u < v → GR s w u) → ∃ s', ev g (d + 5) mX6_reckonGiven 37 [some (.ref (306 : Nat)), some (.ref (3 : Nat)), some (.ref (4 : Nat)), some (.int (Int32.ofNat v))] [] s = ev g (d + 5) mX6_reckonGiven 136 [some (.ref (306 : Nat)), none, none, none] [] s' ∧ RM pN qV rsw s0 s' ∧ ZS s' (zGb w (opt w 0 0) (wn w)) ∧ (∀ u, u < wn w → GR s' w u) := by
  have hc : cOK 0 0 := by unfold cOK; omega
  have ho := opt_ok hw hc
  have hn : wn w ≤ 24 := hw.2.2.1
  intro m
  induction m with
  | zero =>
    intro v s hv hM hZ hR
    have hvn : v = wn w := by omega
    subst hvn
    have hCs := hCW.V hw hM
    have hFs := hM.fxs hF
    obtain ⟨n, hD⟩ := hCs.2.2.1
    have e1 := d_total (g := g) (d := d + 4) hFs (by decide) hD
    have r0 := hFs.u 4 0 5 (by decide +kernel)
    refine ⟨s, ?_, hM, hZ, hR⟩
    rw [sX6_reckonGiven_37]
    by_cases c24 : 24 ≤ wn w
    · simp (disch := first | exact jm_lt0 | (apply jm_ltx; (repeat (first | exact jw_0 | apply jw_i | apply jw_r | apply jw_l)); omega) | omega | assumption | exact sa_306 | exact sa_4 | exact sa_5 | exact n32_inA sb_306 (by omega) (by omega) | exact n32_inA sb_4 (by omega) (by omega) | exact n32_inA sb_5 (by omega) (by omega) | (refine n32_inA (by assumption) ?_ ?_ <;> omega) | exact bi01 | (rw [sa_306]; omega) | (rw [sa_4]; omega) | (rw [sa_5]; omega) | decide) only [sX6_reckonGiven_0, sX6_reckonGiven_1, sX6_reckonGiven_4, sX6_reckonGiven_5, sX6_reckonGiven_8, sX6_reckonGiven_11, sX6_reckonGiven_12, sX6_reckonGiven_13, sX6_reckonGiven_16, sX6_reckonGiven_17, sX6_reckonGiven_18, sX6_reckonGiven_21, sX6_reckonGiven_22, sX6_reckonGiven_23, sX6_reckonGiven_24, sX6_reckonGiven_27, sX6_reckonGiven_28, sX6_reckonGiven_31, sX6_reckonGiven_32, sX6_reckonGiven_35, sX6_reckonGiven_36, sX6_reckonGiven_38, sX6_reckonGiven_40, sX6_reckonGiven_43, sX6_reckonGiven_44, sX6_reckonGiven_45, sX6_reckonGiven_48, sX6_reckonGiven_51, sX6_reckonGiven_54, sX6_reckonGiven_55, sX6_reckonGiven_58, sX6_reckonGiven_59, sX6_reckonGiven_60, sX6_reckonGiven_63, sX6_reckonGiven_64, sX6_reckonGiven_67, sX6_reckonGiven_68, sX6_reckonGiven_71, sX6_reckonGiven_72, sX6_reckonGiven_75, sX6_reckonGiven_76, sX6_reckonGiven_79, sX6_reckonGiven_80, sX6_reckonGiven_81, sX6_reckonGiven_84, sX6_reckonGiven_87, sX6_reckonGiven_88, sX6_reckonGiven_89, sX6_reckonGiven_92, sX6_reckonGiven_93, sX6_reckonGiven_96, sX6_reckonGiven_97, sX6_reckonGiven_98, sX6_reckonGiven_101, sX6_reckonGiven_102, sX6_reckonGiven_105, sX6_reckonGiven_106, sX6_reckonGiven_107, sX6_reckonGiven_110, sX6_reckonGiven_111, sX6_reckonGiven_112, sX6_reckonGiven_115, sX6_reckonGiven_116, sX6_reckonGiven_119, sX6_reckonGiven_120, sX6_reckonGiven_123, sX6_reckonGiven_124, sX6_reckonGiven_127, sX6_reckonGiven_130, sX6_reckonGiven_133, kX6_reckonGiven_136_AAAI, sX6_reckonGiven_137, sX6_reckonGiven_138, sX6_reckonGiven_141, sX6_reckonGiven_144, sX6_reckonGiven_147, sX6_reckonGiven_148, sX6_reckonGiven_149, sX6_reckonGiven_152, sX6_reckonGiven_155, evK_n, evK_v, evK_x, gI_pI, gJ_pI, gR_pI, gI_pJ, gJ_pJ, gR_pJ, gI_pR, gJ_pR, gR_pR, n32_le, n32_lt, n32_add, n32_mul, n32_cl, if_true, if_false, not_true_eq_false, not_false_eq_true, and_true, true_and, and_false, false_and, and_self, or_true, true_or, or_false, false_or, or_self, ne_eq, Decidable.not_not, Nat.reduceEqDiff, Nat.reduceEqDiff, sa_306, sb_306, sa_4, sb_4, sa_5, sb_5, c24]
    · simp (disch := first | exact jm_lt0 | (apply jm_ltx; (repeat (first | exact jw_0 | apply jw_i | apply jw_r | apply jw_l)); omega) | omega | assumption | exact sa_306 | exact sa_4 | exact sa_5 | exact n32_inA sb_306 (by omega) (by omega) | exact n32_inA sb_4 (by omega) (by omega) | exact n32_inA sb_5 (by omega) (by omega) | (refine n32_inA (by assumption) ?_ ?_ <;> omega) | exact bi01 | (rw [sa_306]; omega) | (rw [sa_4]; omega) | (rw [sa_5]; omega) | decide) only [sX6_reckonGiven_0, sX6_reckonGiven_1, sX6_reckonGiven_4, sX6_reckonGiven_5, sX6_reckonGiven_8, sX6_reckonGiven_11, sX6_reckonGiven_12, sX6_reckonGiven_13, sX6_reckonGiven_16, sX6_reckonGiven_17, sX6_reckonGiven_18, sX6_reckonGiven_21, sX6_reckonGiven_22, sX6_reckonGiven_23, sX6_reckonGiven_24, sX6_reckonGiven_27, sX6_reckonGiven_28, sX6_reckonGiven_31, sX6_reckonGiven_32, sX6_reckonGiven_35, sX6_reckonGiven_36, sX6_reckonGiven_38, sX6_reckonGiven_40, sX6_reckonGiven_43, sX6_reckonGiven_44, sX6_reckonGiven_45, sX6_reckonGiven_48, sX6_reckonGiven_51, sX6_reckonGiven_54, sX6_reckonGiven_55, sX6_reckonGiven_58, sX6_reckonGiven_59, sX6_reckonGiven_60, sX6_reckonGiven_63, sX6_reckonGiven_64, sX6_reckonGiven_67, sX6_reckonGiven_68, sX6_reckonGiven_71, sX6_reckonGiven_72, sX6_reckonGiven_75, sX6_reckonGiven_76, sX6_reckonGiven_79, sX6_reckonGiven_80, sX6_reckonGiven_81, sX6_reckonGiven_84, sX6_reckonGiven_87, sX6_reckonGiven_88, sX6_reckonGiven_89, sX6_reckonGiven_92, sX6_reckonGiven_93, sX6_reckonGiven_96, sX6_reckonGiven_97, sX6_reckonGiven_98, sX6_reckonGiven_101, sX6_reckonGiven_102, sX6_reckonGiven_105, sX6_reckonGiven_106, sX6_reckonGiven_107, sX6_reckonGiven_110, sX6_reckonGiven_111, sX6_reckonGiven_112, sX6_reckonGiven_115, sX6_reckonGiven_116, sX6_reckonGiven_119, sX6_reckonGiven_120, sX6_reckonGiven_123, sX6_reckonGiven_124, sX6_reckonGiven_127, sX6_reckonGiven_130, sX6_reckonGiven_133, kX6_reckonGiven_136_AAAI, sX6_reckonGiven_137, sX6_reckonGiven_138, sX6_reckonGiven_141, sX6_reckonGiven_144, sX6_reckonGiven_147, sX6_reckonGiven_148, sX6_reckonGiven_149, sX6_reckonGiven_152, sX6_reckonGiven_155, evK_n, evK_v, evK_x, gI_pI, gJ_pI, gR_pI, gI_pJ, gJ_pJ, gR_pJ, gI_pR, gJ_pR, gR_pR, n32_le, n32_lt, n32_add, n32_mul, n32_cl, if_true, if_false, not_true_eq_false, not_false_eq_true, and_true, true_and, and_false, false_and, and_self, or_true, true_or, or_false, false_or, or_self, ne_eq, Decidable.not_not, Nat.reduceEqDiff, Nat.reduceEqDiff, sa_306, sb_306, sa_4, sb_4, sa_5, sb_5, c24, r0, e1]
      rw [if_pos (by omega)]
  | succ m ih =>
    intro v s hv hM hZ hR
    have hCs := hCW.V hw hM
    have hFs := hM.fxs hF
    have hBs := hB.V hM
    have hPs := hP.V hM
    obtain ⟨n, hD⟩ := hCs.2.2.1
    have e1 := d_total (g := g) (d := d + 4) hFs (by decide) hD
    have r0 := hFs.u 4 0 5 (by decide +kernel)
    have r6 := hFs.u 306 0 307 (by decide +kernel)
    have hvn : v < wn w := by omega
    have hWv := (hw.2.2.2.1 v hvn).1
    obtain ⟨i1, i2, i3⟩ := gb_ok hw ho v (by omega)
    obtain ⟨k1, k2, k3⟩ := gf_ok hw ho hvn
    obtain ⟨f1, f2, f3⟩ := fall_ok ho.1 i1 i2
    have g1 : ¬ 24 ≤ v := by omega
    have g2 : ¬ wn w ≤ v := by omega
    -- it begins
    obtain ⟨s1, e3, hM1, hO1, hN1, hE1⟩ := c7_enter (g := g) (d := d) hFs hBs hZ.1 i3 hCs hw hvn ho.1 hPs.1
    have hF1 := hM1.fxs hFs
    have hB1 := hBs.N hM1
    have hC1 := hCs.N hw hM1
    have hP1 := hPs.rm hM1
    have r61 := hF1.u 306 0 307 (by decide +kernel)
    have r33 := hF1.u 3 3 61 (by decide +kernel)
    -- what fits
    obtain ⟨s2, e4, hM2, hO2, hN2⟩ := c7_keep (g := g) (d := d + 1) hF1 hB1 hO1 (by rw [f3]; exact i3) hC1 hw hE1 (by omega) (fun k _ h0 => Nat.le_succ_of_le (f1 k h0).2)
    have hF2 := hM2.fxs hF1
    have hB2 := hB1.ofO hM2.2.1
    have hC2 := hC1.N hw hM2.N
    have hE2 := hE1.of hM2.2.1
    have hP2 := hP1.rm hM2.N
    have hO2' : OS s2 (gDs w v) := hO2
    have hS2 : SUP v (gDs w v) := k1
    have hD2 : sumN (gDs w v) NS ≤ ONE := k3
    have r62 := hF2.u 306 0 307 (by decide +kernel)
    have r6e := hF2.u 306 14 427 (by decide +kernel)
    have e5 := c7_all (g := g) (d := d + 2) hF2 hB2 hO2' hD2
    generalize hs3 : pJ s2 427 v (Int64.ofNat (sumN (gDs w v) NS)) = s3
    have hM3 : FM nO (fun b _ => b = 427) s2 s3 := by rw [← hs3]; exact FM.pJ rfl
    have hF3 := hM3.fx hF2
    have hB3 : TB s3 := hB2.of (fun j => ⟨hM3.2.1 _ _ (fun h => h), hM3.2.1 _ _ (fun h => h)⟩)
    have hO3 : OS s3 (gDs w v) := hO2'.of (fun b j hb => ⟨hM3.2.1 _ _ (fun h => h), hM3.2.2 _ _ (by omega)⟩) (fun j _ => hM3.gR _ _)
    have hE3 : HE s3 310 w v := hE2.of (fun b j _ => hM3.2.1 _ _ (fun h => h))
    have hC3 : CW s3 w := hC2.of hw (fun b j _ => hM3.2.1 _ _ (fun h => h))
    have r63 := hF3.u 306 0 307 (by decide +kernel)
    have r6c := hF3.u 306 12 377 (by decide +kernel)
    obtain ⟨q1, q2⟩ := rows_b v (by omega)
    obtain ⟨q5, q6, q7, q8⟩ := rows_d v (by omega)
    have rcv : gR s3 377 v = 378 + v := hF3 _ q1
    have rcn : gR s3 377 (Int32.ofNat v).toNatClampNeg ≠ 0 := by rw [n32_cl (by omega), rcv]; omega
    have hsupv : ∀ k, k < NS → gDs w v k ≠ 0 → kst k ≤ v + 1 := fun k _ h0 => Nat.le_succ_of_le (hS2 k h0).2
    obtain ⟨s4, e6, hM4, hx4⟩ := c7_sumFacts (g := g) (d := d + 1) (r := 378 + v) hF3 hB3 hO3 hD2 hE3 q5 q6 (by omega) hw (by omega) hsupv
    have hF4 := hM4.fx hF3
    have hO4 := hO3.keep hM4 (by omega)
    have hB4 : TB s4 := hB3.of (fun j => ⟨hM4.2.1 _ _ (by unfold pH; omega), hM4.2.1 _ _ (by unfold pH; omega)⟩)
    have hE4 := hE_keep hE3 hM4
    have hC4 := hC3.H hw hM4
    have r64 := hF4.u 306 0 307 (by decide +kernel)
    have r6d := hF4.u 306 13 402 (by decide +kernel)
    have rdv : gR s4 402 v = 403 + v := hF4 _ q2
    have rdn : gR s4 402 (Int32.ofNat v).toNatClampNeg ≠ 0 := by rw [n32_cl (by omega), rdv]; omega
    have h11 : gI s4 307 11 = Int32.ofNat (wT w 6) := by
      rw [hM4.2.1 _ _ (by unfold pH; omega), hM3.2.1 _ _ (fun h => h), hP2.2.1]
      rfl
    obtain ⟨s5, e7, hM5, hx5⟩ := c7_weigh (g := g) (d := d + 1) (r := 403 + v) hF4 hB4 hO4 hD2 hC4 hw h11 q7 q8 (by omega)
    have hF5 := hM5.fx hF4
    have hO5 := hO4.keep hM5 (by omega)
    have hB5 : TB s5 := hB4.of (fun j => ⟨hM5.2.1 _ _ (by unfold pH; omega), hM5.2.1 _ _ (by unfold pH; omega)⟩)
    have hE5 := hE_keep hE4 hM5
    have hC5 := hC4.H hw hM5
    have r65 := hF5.u 306 0 307 (by decide +kernel)
    have r05 := hF5.u 4 0 5 (by decide +kernel)
    have hM25 : RM pN qV rsw s2 s5 := by
      refine ((hM3.mono (P' := pN) (Q' := qV) (fun _ _ h => h.elim) (fun b j h => by unfold qV; omega)).tr ((hM4.mono (P' := pN) (Q' := qV) (fun b j h => Or.inl (Or.inl h)) (fun b j h => by unfold QR at h; unfold qV; omega)).tr (hM5.mono (P' := pN) (Q' := qV) (fun b j h => Or.inl (Or.inl h)) (fun b j h => by unfold QR at h; unfold qV; omega)))).rm
    have hP5 := hP2.V hM25
    have hT5 : CT3 s5 (zGb w (opt w 0 0) v).2.1 (zGb w (opt w 0 0) v).2.2.1 (zGb w (opt w 0 0) v).2.2.2 := ((((hZ.2.cn hN1).cn hN2).cn (CN.fm hM3 (fun j => by omega) (fun j => by omega))).keep hM4 (by omega)).keep hM5 (by omega)
    obtain ⟨n5, hD5⟩ := hC5.2.2.1
    have e8 := d_personOf (g := g) (d := d + 3) hF5 (by decide) hD5 hvn
    obtain ⟨s6, e9, hM6, hZ6⟩ := c7_act (g := g) (d := d) (Z := gFit w (opt w 0 0) v (zGb w (opt w 0 0) v)) hF5 hB5 hE5 hC5 hw (by omega) hWv hP5 ho (k1.up (by omega)) k2 k3 ⟨hO5, hT5⟩
    have hM06 : RM pN qV rsw s0 s6 := (((hM.tr hM1.V).tr hM2.N.V).tr hM25).tr hM6.N.V
    have hR6 : ∀ u, u < v + 1 → GR s6 w u := fun u hu => by
      have j6 : ∀ b j, (378 ≤ b ∧ b < 428) → gJ s6 b j = gJ s5 b j := fun b j hb => hM6.2.2.1 _ _ (by unfold qO; omega)
      by_cases cu : u = v
      · subst cu
        refine ⟨?_, fun x h => ?_, fun x h => ?_⟩
        · rw [j6 _ _ (by omega), hM5.2.2 _ _ (by unfold QR; omega), hM4.2.2 _ _ (by unfold QR; omega), ← hs3, gJ_pJ, if_pos ⟨rfl, rfl⟩]
        · rw [j6 _ _ (by omega), hM5.2.2 _ _ (by unfold QR; omega), hx4 x h]
        · rw [j6 _ _ (by omega), hx5 x h]
      · obtain ⟨w1, w2, w3⟩ := hR u (by omega)
        have j2 : ∀ b j, (378 ≤ b ∧ b < 428) → gJ s2 b j = gJ s b j := fun b j hb => by
          rw [hM2.2.2.1 _ _ (by unfold qO; omega), hM1.2.2.1 _ _ (by unfold qO; omega)]
        refine ⟨?_, fun x h => ?_, fun x h => ?_⟩
        · rw [j6 _ _ (by omega), hM5.2.2 _ _ (by unfold QR; omega), hM4.2.2 _ _ (by unfold QR; omega), ← hs3, gJ_pJ, if_neg (by omega), j2 _ _ (by omega), w1]
        · rw [j6 _ _ (by omega), hM5.2.2 _ _ (by unfold QR; omega), hM4.2.2 _ _ (by unfold QR; omega), hM3.2.2 _ _ (by omega), j2 _ _ (by omega), w2 x h]
        · rw [j6 _ _ (by omega), hM5.2.2 _ _ (by unfold QR; omega), hM4.2.2 _ _ (by unfold QR; omega), hM3.2.2 _ _ (by omega), j2 _ _ (by omega), w3 x h]
    obtain ⟨s', y1, y2, y3, y4⟩ := ih (v + 1) s6 (by omega) hM06 hZ6 hR6
    refine ⟨s', ?_, y2, y3, y4⟩
    rw [sX6_reckonGiven_37]
    simp (disch := first | exact jm_lt0 | (apply jm_ltx; (repeat (first | exact jw_0 | apply jw_i | apply jw_r | apply jw_l)); omega) | omega | assumption | exact sa_306 | exact sa_307 | exact sa_3 | exact sa_4 | exact sa_5 | exact sa_377 | exact sa_402 | exact sa_427 | exact n32_inA sb_306 (by omega) (by omega) | exact n32_inA sb_307 (by omega) (by omega) | exact n32_inA sb_3 (by omega) (by omega) | exact n32_inA sb_4 (by omega) (by omega) | exact n32_inA sb_5 (by omega) (by omega) | exact n32_inA sb_377 (by omega) (by omega) | exact n32_inA sb_402 (by omega) (by omega) | exact n32_inA sb_427 (by omega) (by omega) | (refine n32_inA (by assumption) ?_ ?_ <;> omega) | exact bi01 | (rw [sa_306]; omega) | (rw [sa_307]; omega) | (rw [sa_3]; omega) | (rw [sa_4]; omega) | (rw [sa_5]; omega) | (rw [sa_377]; omega) | (rw [sa_402]; omega) | (rw [sa_427]; omega) | decide) only [sX6_reckonGiven_0, sX6_reckonGiven_1, sX6_reckonGiven_4, sX6_reckonGiven_5, sX6_reckonGiven_8, sX6_reckonGiven_11, sX6_reckonGiven_12, sX6_reckonGiven_13, sX6_reckonGiven_16, sX6_reckonGiven_17, sX6_reckonGiven_18, sX6_reckonGiven_21, sX6_reckonGiven_22, sX6_reckonGiven_23, sX6_reckonGiven_24, sX6_reckonGiven_27, sX6_reckonGiven_28, sX6_reckonGiven_31, sX6_reckonGiven_32, sX6_reckonGiven_35, sX6_reckonGiven_36, sX6_reckonGiven_38, sX6_reckonGiven_40, sX6_reckonGiven_43, sX6_reckonGiven_44, sX6_reckonGiven_45, sX6_reckonGiven_48, sX6_reckonGiven_51, sX6_reckonGiven_54, sX6_reckonGiven_55, sX6_reckonGiven_58, sX6_reckonGiven_59, sX6_reckonGiven_60, sX6_reckonGiven_63, sX6_reckonGiven_64, sX6_reckonGiven_67, sX6_reckonGiven_68, sX6_reckonGiven_71, sX6_reckonGiven_72, sX6_reckonGiven_75, sX6_reckonGiven_76, sX6_reckonGiven_79, sX6_reckonGiven_80, sX6_reckonGiven_81, sX6_reckonGiven_84, sX6_reckonGiven_87, sX6_reckonGiven_88, sX6_reckonGiven_89, sX6_reckonGiven_92, sX6_reckonGiven_93, sX6_reckonGiven_96, sX6_reckonGiven_97, sX6_reckonGiven_98, sX6_reckonGiven_101, sX6_reckonGiven_102, sX6_reckonGiven_105, sX6_reckonGiven_106, sX6_reckonGiven_107, sX6_reckonGiven_110, sX6_reckonGiven_111, sX6_reckonGiven_112, sX6_reckonGiven_115, sX6_reckonGiven_116, sX6_reckonGiven_119, sX6_reckonGiven_120, sX6_reckonGiven_123, sX6_reckonGiven_124, sX6_reckonGiven_127, sX6_reckonGiven_130, sX6_reckonGiven_133, kX6_reckonGiven_136_AAAI, sX6_reckonGiven_137, sX6_reckonGiven_138, sX6_reckonGiven_141, sX6_reckonGiven_144, sX6_reckonGiven_147, sX6_reckonGiven_148, sX6_reckonGiven_149, sX6_reckonGiven_152, sX6_reckonGiven_155, evK_n, evK_v, evK_x, gI_pI, gJ_pI, gR_pI, gI_pJ, gJ_pJ, gR_pJ, gI_pR, gJ_pR, gR_pR, n32_le, n32_lt, n32_add, n32_mul, n32_cl, if_true, if_false, not_true_eq_false, not_false_eq_true, and_true, true_and, and_false, false_and, and_self, or_true, true_or, or_false, false_or, or_self, ne_eq, Decidable.not_not, Nat.reduceEqDiff, Nat.reduceEqDiff, sa_306, sb_306, sa_307, sb_307, sa_3, sb_3, sa_4, sb_4, sa_5, sb_5, sa_377, sb_377, sa_402, sb_402, sa_427, sb_427, g1, g2, r0, r6, e1, e3, r61, r33, e4, r62, r6e, e5, hs3, r63, r6c, rcv, e6, r64, r6d, rdv, e7, r65, r05, e8, e9]
    exact y1
theorem c6_given {g : fm_g} {d ver : Nat} {w : WD} {s : fm_S} (hF : FX s) (hB : OB s) (hC : CW s w) (hw : wOK w) (hL : LG s w ver) : ∃ s', ev g (d + 5) mX6_reckonGiven 0 [some (.ref (306 : Nat)), some (.ref (3 : Nat)), none, none] [] s = some (.inl none, s') ∧ RM p9 q9 r9 s s' ∧ OB s' ∧ LG s' w ver ∧ gI s' 306 11 = Int32.ofNat ver := by
  obtain ⟨hT, D, hO⟩ := hB
  have hL' := hL
  obtain ⟨l1, l2, l3, l4, l5, l6, l7⟩ := hL'
  have hc : cOK 0 0 := by unfold cOK; omega
  have ho := opt_ok hw hc
  have hn : wn w ≤ 24 := hw.2.2.1
  by_cases ck : gI s 306 11 = Int32.ofNat ver
  · refine ⟨s, ?_, RM.rf, ⟨hT, D, hO⟩, hL, ck⟩
    simp (disch := first | exact jm_lt0 | (apply jm_ltx; (repeat (first | exact jw_0 | apply jw_i | apply jw_r | apply jw_l)); omega) | omega | assumption | exact sa_306 | exact n32_inA sb_306 (by omega) (by omega) | (refine n32_inA (by assumption) ?_ ?_ <;> omega) | exact bi01 | (rw [sa_306]; omega) | decide) only [sX6_reckonGiven_0, sX6_reckonGiven_1, sX6_reckonGiven_4, sX6_reckonGiven_5, sX6_reckonGiven_8, sX6_reckonGiven_11, sX6_reckonGiven_12, sX6_reckonGiven_13, sX6_reckonGiven_16, sX6_reckonGiven_17, sX6_reckonGiven_18, sX6_reckonGiven_21, sX6_reckonGiven_22, sX6_reckonGiven_23, sX6_reckonGiven_24, sX6_reckonGiven_27, sX6_reckonGiven_28, sX6_reckonGiven_31, sX6_reckonGiven_32, sX6_reckonGiven_35, sX6_reckonGiven_36, sX6_reckonGiven_38, sX6_reckonGiven_40, sX6_reckonGiven_43, sX6_reckonGiven_44, sX6_reckonGiven_45, sX6_reckonGiven_48, sX6_reckonGiven_51, sX6_reckonGiven_54, sX6_reckonGiven_55, sX6_reckonGiven_58, sX6_reckonGiven_59, sX6_reckonGiven_60, sX6_reckonGiven_63, sX6_reckonGiven_64, sX6_reckonGiven_67, sX6_reckonGiven_68, sX6_reckonGiven_71, sX6_reckonGiven_72, sX6_reckonGiven_75, sX6_reckonGiven_76, sX6_reckonGiven_79, sX6_reckonGiven_80, sX6_reckonGiven_81, sX6_reckonGiven_84, sX6_reckonGiven_87, sX6_reckonGiven_88, sX6_reckonGiven_89, sX6_reckonGiven_92, sX6_reckonGiven_93, sX6_reckonGiven_96, sX6_reckonGiven_97, sX6_reckonGiven_98, sX6_reckonGiven_101, sX6_reckonGiven_102, sX6_reckonGiven_105, sX6_reckonGiven_106, sX6_reckonGiven_107, sX6_reckonGiven_110, sX6_reckonGiven_111, sX6_reckonGiven_112, sX6_reckonGiven_115, sX6_reckonGiven_116, sX6_reckonGiven_119, sX6_reckonGiven_120, sX6_reckonGiven_123, sX6_reckonGiven_124, sX6_reckonGiven_127, sX6_reckonGiven_130, sX6_reckonGiven_133, kX6_reckonGiven_136_AAAI, sX6_reckonGiven_136, sX6_reckonGiven_137, sX6_reckonGiven_138, sX6_reckonGiven_141, sX6_reckonGiven_144, sX6_reckonGiven_147, sX6_reckonGiven_148, sX6_reckonGiven_149, sX6_reckonGiven_152, sX6_reckonGiven_155, evK_n, evK_v, evK_x, gI_pI, gJ_pI, gR_pI, gI_pJ, gJ_pJ, gR_pJ, gI_pR, gJ_pR, gR_pR, n32_le, n32_lt, n32_add, n32_mul, n32_cl, if_true, if_false, not_true_eq_false, not_false_eq_true, and_true, true_and, and_false, false_and, and_self, or_true, true_or, or_false, false_or, or_self, ne_eq, Decidable.not_not, Nat.reduceEqDiff, Nat.reduceEqDiff, sa_306, sb_306, ck, l1]
  · obtain ⟨s1, e1, hM1, hP1⟩ := c7_plan (g := g) (d := d + 3) hF hC hw hc
    have hF1 : FX s1 := hM1.fx hF (fun b j h => Or.inr h)
    have hC1 : CW s1 w := hC.of hw (fun b j hb => hM1.2.1 b j (fun q => hb (by unfold pPl at q; unfold TC; omega)))
    have hO1 : OS s1 D := hO.of (fun b j hb => ⟨hM1.2.1 _ _ (by unfold pPl; omega), hM1.2.2.1 _ _ (fun h => h)⟩) (fun j hj => hM1.2.2.2 _ _ (by unfold rD; omega))
    have hT1 : TB s1 := hT.of (fun j => ⟨hM1.2.1 _ _ (by unfold pPl; omega), hM1.2.1 _ _ (by unfold pPl; omega)⟩)
    obtain ⟨s2, e2, hM2, hZ2⟩ := c7_setOut (g := g) (d := d + 2) hF1 hO1 hC1 hw
    have hF2 := hM2.fxs hF1
    have hC2 := hC1.N hw hM2
    have hT2 := hT1.N hM2
    have hP2 := hP1.rm hM2
    obtain ⟨s3, e3, hM3, hZ3, hR3⟩ := c6_gvLoop (g := g) (d := d) hF2 hT2 hC2 hw hP2 (wn w) 0 s2 (by omega) RM.rf hZ2 (fun u hu => by omega)
    have hF3 := hM3.fxs hF2
    have hT3 := hT2.V hM3
    obtain ⟨z1, z2, z3⟩ := gb_ok hw ho (wn w) (Nat.le_refl _)
    have e4 := c7_all (g := g) (d := d + 2) hF3 hT3 hZ3.1 z3
    generalize hs7 : pI (pJ s3 306 15 (Int64.ofNat (sumN (zGb w (opt w 0 0) (wn w)).1 NS))) 306 11 (Int32.ofNat ver) = s7
    have i3 : ∀ b j, b = 306 ∨ b = 322 ∨ b = 375 → gI s3 b j = gI s b j := fun b j hb => by
      rw [hM3.2.1 _ _ (by unfold pN pO pE HSK; omega), hM2.2.1 _ _ (by unfold pN pO pE HSK; omega), hM1.2.1 _ _ (by unfold pPl; omega)]
    have j3 : ∀ b j, (323 ≤ b ∧ b < 377) ∨ b = 306 → gJ s3 b j = gJ s b j := fun b j hb => by
      rw [hM3.2.2.1 _ _ (by unfold qV qO; omega), hM2.2.2.1 _ _ (by unfold qO; omega), hM1.2.2.1 _ _ (fun h => h)]
    refine ⟨s7, ?_, ⟨?_, fun b j hb => ?_, fun b j hb => ?_, fun b j hb => ?_⟩, ⟨?_, _, hZ3.1.of (fun b j hb => ⟨?_, ?_⟩) (fun j _ => ?_)⟩, ⟨?_, l2, fun i hi => ?_, ⟨ver, Nat.le_refl _, ?_⟩, fun ch' de' hc' he => ?_, fun he => ?_, fun _ => ⟨fun v hv => ?_, ?_⟩⟩, ?_⟩
    · have r30 := hF.u 3 0 4 (by decide +kernel)
      have r60 := hF.u 306 0 307 (by decide +kernel)
      have r61 := hF1.u 306 0 307 (by decide +kernel)
      have r63 := hF3.u 306 0 307 (by decide +kernel)
      have h6v : gI s3 306 1 = Int32.ofNat ver := by rw [i3 _ _ (Or.inl rfl), l1]
      have e1' : ev g (d + 4) mX7_plan 0 [some (.ref (307 : Nat)), some (.ref (3 : Nat)), some (.int (Int32.ofNat 0)), some (.int (Int32.ofNat 0)), none, none] [] s = some (.inl none, s1) := e1
      simp (disch := first | exact jm_lt0 | (apply jm_ltx; (repeat (first | exact jw_0 | apply jw_i | apply jw_r | apply jw_l)); omega) | omega | assumption | exact sa_306 | exact sa_322 | exact sa_3 | exact n32_inA sb_306 (by omega) (by omega) | exact n32_inA sb_322 (by omega) (by omega) | exact n32_inA sb_3 (by omega) (by omega) | (refine n32_inA (by assumption) ?_ ?_ <;> omega) | exact bi01 | (rw [sa_306]; omega) | (rw [sa_322]; omega) | (rw [sa_3]; omega) | decide) only [sX6_reckonGiven_0, sX6_reckonGiven_1, sX6_reckonGiven_4, sX6_reckonGiven_5, sX6_reckonGiven_8, sX6_reckonGiven_11, sX6_reckonGiven_12, sX6_reckonGiven_13, sX6_reckonGiven_16, sX6_reckonGiven_17, sX6_reckonGiven_18, sX6_reckonGiven_21, sX6_reckonGiven_22, sX6_reckonGiven_23, sX6_reckonGiven_24, sX6_reckonGiven_27, sX6_reckonGiven_28, sX6_reckonGiven_31, sX6_reckonGiven_32, sX6_reckonGiven_35, sX6_reckonGiven_36, sX6_reckonGiven_38, sX6_reckonGiven_40, sX6_reckonGiven_43, sX6_reckonGiven_44, sX6_reckonGiven_45, sX6_reckonGiven_48, sX6_reckonGiven_51, sX6_reckonGiven_54, sX6_reckonGiven_55, sX6_reckonGiven_58, sX6_reckonGiven_59, sX6_reckonGiven_60, sX6_reckonGiven_63, sX6_reckonGiven_64, sX6_reckonGiven_67, sX6_reckonGiven_68, sX6_reckonGiven_71, sX6_reckonGiven_72, sX6_reckonGiven_75, sX6_reckonGiven_76, sX6_reckonGiven_79, sX6_reckonGiven_80, sX6_reckonGiven_81, sX6_reckonGiven_84, sX6_reckonGiven_87, sX6_reckonGiven_88, sX6_reckonGiven_89, sX6_reckonGiven_92, sX6_reckonGiven_93, sX6_reckonGiven_96, sX6_reckonGiven_97, sX6_reckonGiven_98, sX6_reckonGiven_101, sX6_reckonGiven_102, sX6_reckonGiven_105, sX6_reckonGiven_106, sX6_reckonGiven_107, sX6_reckonGiven_110, sX6_reckonGiven_111, sX6_reckonGiven_112, sX6_reckonGiven_115, sX6_reckonGiven_116, sX6_reckonGiven_119, sX6_reckonGiven_120, sX6_reckonGiven_123, sX6_reckonGiven_124, sX6_reckonGiven_127, sX6_reckonGiven_130, sX6_reckonGiven_133, kX6_reckonGiven_136_AAAI, sX6_reckonGiven_136, sX6_reckonGiven_137, sX6_reckonGiven_138, sX6_reckonGiven_141, sX6_reckonGiven_144, sX6_reckonGiven_147, sX6_reckonGiven_148, sX6_reckonGiven_149, sX6_reckonGiven_152, sX6_reckonGiven_155, evK_n, evK_v, evK_x, gI_pI, gJ_pI, gR_pI, gI_pJ, gJ_pJ, gR_pJ, gI_pR, gJ_pR, gR_pR, n32_le, n32_lt, n32_add, n32_mul, n32_cl, if_true, if_false, not_true_eq_false, not_false_eq_true, and_true, true_and, and_false, false_and, and_self, or_true, true_or, or_false, false_or, or_self, ne_eq, Decidable.not_not, Nat.reduceEqDiff, Nat.reduceEqDiff, sa_306, sb_306, sa_322, sb_322, sa_3, sb_3, ck, l1, r30, r60, e1', r61, e2]
      rw [e3]
      simp (disch := first | exact jm_lt0 | (apply jm_ltx; (repeat (first | exact jw_0 | apply jw_i | apply jw_r | apply jw_l)); omega) | omega | assumption | exact sa_306 | exact sa_307 | exact n32_inA sb_306 (by omega) (by omega) | exact n32_inA sb_307 (by omega) (by omega) | (refine n32_inA (by assumption) ?_ ?_ <;> omega) | exact bi01 | (rw [sa_306]; omega) | (rw [sa_307]; omega) | decide) only [sX6_reckonGiven_0, sX6_reckonGiven_1, sX6_reckonGiven_4, sX6_reckonGiven_5, sX6_reckonGiven_8, sX6_reckonGiven_11, sX6_reckonGiven_12, sX6_reckonGiven_13, sX6_reckonGiven_16, sX6_reckonGiven_17, sX6_reckonGiven_18, sX6_reckonGiven_21, sX6_reckonGiven_22, sX6_reckonGiven_23, sX6_reckonGiven_24, sX6_reckonGiven_27, sX6_reckonGiven_28, sX6_reckonGiven_31, sX6_reckonGiven_32, sX6_reckonGiven_35, sX6_reckonGiven_36, sX6_reckonGiven_38, sX6_reckonGiven_40, sX6_reckonGiven_43, sX6_reckonGiven_44, sX6_reckonGiven_45, sX6_reckonGiven_48, sX6_reckonGiven_51, sX6_reckonGiven_54, sX6_reckonGiven_55, sX6_reckonGiven_58, sX6_reckonGiven_59, sX6_reckonGiven_60, sX6_reckonGiven_63, sX6_reckonGiven_64, sX6_reckonGiven_67, sX6_reckonGiven_68, sX6_reckonGiven_71, sX6_reckonGiven_72, sX6_reckonGiven_75, sX6_reckonGiven_76, sX6_reckonGiven_79, sX6_reckonGiven_80, sX6_reckonGiven_81, sX6_reckonGiven_84, sX6_reckonGiven_87, sX6_reckonGiven_88, sX6_reckonGiven_89, sX6_reckonGiven_92, sX6_reckonGiven_93, sX6_reckonGiven_96, sX6_reckonGiven_97, sX6_reckonGiven_98, sX6_reckonGiven_101, sX6_reckonGiven_102, sX6_reckonGiven_105, sX6_reckonGiven_106, sX6_reckonGiven_107, sX6_reckonGiven_110, sX6_reckonGiven_111, sX6_reckonGiven_112, sX6_reckonGiven_115, sX6_reckonGiven_116, sX6_reckonGiven_119, sX6_reckonGiven_120, sX6_reckonGiven_123, sX6_reckonGiven_124, sX6_reckonGiven_127, sX6_reckonGiven_130, sX6_reckonGiven_133, kX6_reckonGiven_136_AAAI, sX6_reckonGiven_136, sX6_reckonGiven_137, sX6_reckonGiven_138, sX6_reckonGiven_141, sX6_reckonGiven_144, sX6_reckonGiven_147, sX6_reckonGiven_148, sX6_reckonGiven_149, sX6_reckonGiven_152, sX6_reckonGiven_155, evK_n, evK_v, evK_x, gI_pI, gJ_pI, gR_pI, gI_pJ, gJ_pJ, gR_pJ, gI_pR, gJ_pR, gR_pR, n32_le, n32_lt, n32_add, n32_mul, n32_cl, if_true, if_false, not_true_eq_false, not_false_eq_true, and_true, true_and, and_false, false_and, and_self, or_true, true_or, or_false, false_or, or_self, ne_eq, Decidable.not_not, Nat.reduceEqDiff, Nat.reduceEqDiff, sa_306, sb_306, sa_307, sb_307, r63, e4, h6v, hs7]
    · have e7 : s7.2.2.2 = s3.2.2.2 := by rw [← hs7]; rfl
      rw [e7, hM3.1, hM2.1, hM1.1]
    · rw [← hs7, gI_pI, if_neg (fun q => hb (by unfold p9; omega)), gI_pJ, hM3.2.1 _ _ (fun q => hb (pG_9 (Or.inl q))), hM2.2.1 _ _ (fun q => hb (pG_9 (Or.inl q))), hM1.2.1 _ _ (fun q => hb (by unfold pPl at q; unfold p9; omega))]
    · rw [← hs7, gJ_pI, gJ_pJ, if_neg (fun q => hb (by unfold q9; omega)), hM3.2.2.1 _ _ (fun q => hb (by unfold qV qO at q; unfold q9; omega)), hM2.2.2.1 _ _ (fun q => hb (qG_9 (Or.inl q))), hM1.2.2.1 _ _ (fun h => h)]
    · have e7 : gR s7 b j = gR s3 b j := by rw [← hs7]; rfl
      rw [e7, hM3.2.2.2 _ _ (fun q => hb (Or.inl q)), hM2.2.2.2 _ _ (fun q => hb (Or.inl q)), hM1.2.2.2 _ _ (fun q => hb (Or.inr q))]
    · exact hT3.of (fun j => ⟨by rw [← hs7, gI_pI, if_neg (by omega), gI_pJ], by rw [← hs7, gI_pI, if_neg (by omega), gI_pJ]⟩)
    · rw [← hs7, gI_pI, if_neg (by omega), gI_pJ]
    · rw [← hs7, gJ_pI, gJ_pJ, if_neg (by omega)]
    · have e7 : gR s7 307 j = gR s3 307 j := by rw [← hs7]; rfl
      rw [e7]
    · rw [← hs7, gI_pI, if_neg (by omega), gI_pJ, i3 _ _ (Or.inl rfl), l1]
    · rw [← hs7, gI_pI, if_neg (by omega), gI_pJ, i3 _ _ (by omega)]
      exact l3 i hi
    · rw [← hs7]; simp [gI_pI]
    · rw [← hs7, gI_pI, if_neg (by omega), gI_pJ, i3 _ _ (by omega)] at he
      rw [← hs7, gJ_pI, gJ_pJ, if_neg (by omega), j3 _ _ (by omega), gJ_pI, gJ_pJ, if_neg (by omega), j3 _ _ (by omega)]
      exact l5 ch' de' hc' he
    · rw [← hs7, gI_pI, if_neg (by omega), gI_pJ, i3 _ _ (by omega)] at he
      obtain ⟨y1, y2, y3, y4⟩ := l6 he
      have jx : ∀ b j, ((323 ≤ b ∧ b < 377) ∨ (b = 306 ∧ j ≠ 15)) → gJ s7 b j = gJ s b j := fun b j hb => by
        rw [← hs7, gJ_pI, gJ_pJ, if_neg (by omega), j3 _ _ (by omega)]
      refine ⟨fun v hv => ?_, fun p hp => by rw [jx _ _ (by omega), y2 p hp], by rw [jx _ _ (by omega), y3], by rw [jx _ _ (by omega), y4]⟩
      obtain ⟨z1, z2, z3⟩ := y1 v hv
      exact ⟨fun x hx => by rw [jx _ _ (by omega), z1 x hx], fun x hx => by rw [jx _ _ (by omega), z2 x hx], by rw [← hs7, gI_pI, if_neg (by omega), gI_pJ, i3 _ _ (by omega), z3]⟩
    · obtain ⟨w1, w2, w3⟩ := hR3 v hv
      have jx : ∀ b j, (378 ≤ b ∧ b < 428) → gJ s7 b j = gJ s3 b j := fun b j hb => by rw [← hs7, gJ_pI, gJ_pJ, if_neg (by omega)]
      exact ⟨by rw [jx _ _ (by omega), w1], fun x hx => by rw [jx _ _ (by omega), w2 x hx], fun x hx => by rw [jx _ _ (by omega), w3 x hx]⟩
    · rw [← hs7]; simp [gJ_pI, gJ_pJ]
    · rw [← hs7]; simp [gI_pI]
