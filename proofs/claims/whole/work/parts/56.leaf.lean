/-! a number or a fact, read by both -/
theorem wix_some {r : List Nat} : ∀ {ws : List (List Nat)} {j : Nat}, wix ws r = some j → j < ws.length ∧ r ∈ ws
  | [], _, h => by cases h
  | v :: vs, j, h => by
    rw [wix] at h
    split at h
    next hv => cases h; exact ⟨Nat.succ_pos _, by rw [← hv]; exact List.mem_cons_self⟩
    next =>
      obtain ⟨i, h1, h2⟩ := Option.map_eq_some_iff.mp h
      obtain ⟨h3, h4⟩ := wix_some h1
      subst h2
      exact ⟨Nat.succ_lt_succ h3, List.mem_cons_of_mem _ h4⟩
theorem letR_none {B : Nat → Nat} {e p : Nat} (h : ¬ (p < e ∧ isL (B p))) : letR B e p = p := by rw [letR, dif_neg h]
theorem isD_nL {x : Nat} (h : isD x) : ¬ isL x := by unfold isD at h; unfold isL; omega
theorem u_word {g : fm_g} {d : Nat} {B : Nat → Nat} {e n p o j : Nat} {o' : Int32} {s t : fm_S} (h : PF B e n p o s t) (he : e ≤ 150) (hb : ¬ (p < e ∧ B p = 40)) (hw : wix lw37 (runR B p (letR B e p)) = some j) : ∃ s' t', ev g (d + 7) mX5_readUnit 0 [some (.ref (156 : Nat)), some (.ref (1 : Nat)), some (.int o'), none, none] [] s = some (.inl none, s') ∧ ev g (d + 7) mX12_readUnit 0 [some (.ref (432 : Nat)), none] [] t = some (.inl none, t') ∧ CS s s' ∧ MR t t' ∧ LC B e o false n p t s' t' := by
  obtain ⟨q1, q2, q3⟩ := h.ple
  obtain ⟨h1, h2, ⟨b, h3, h3'⟩, ⟨c, h4, h4'⟩, h5, h6, h7, h8, h9, hA, -⟩ := id h
  obtain ⟨w1, w2⟩ := wix_some hw
  have hlr := letR_le (B := B) q1
  have hne : p < letR B e p := by
    rcases Nat.lt_or_ge p (letR B e p) with h0 | h0
    · exact h0
    · exfalso
      have h00 : letR B e p = p := by omega
      rw [h00] at w2
      exact (lw37_ok _ w2).1 (by simp [runR])
  have hL : p < e ∧ isL (B p) := by
    rcases Classical.em (p < e ∧ isL (B p)) with h0 | h0
    · exact h0
    · rw [letR_none h0] at hne; omega
  have hs := h.sat
  have k1 := c9_nextPlace (g := g) (d := d + 6) h1 h3
  have k2 := c9_takeSign (g := g) (d := d + 4) (k := 40) hs.1 (h3.at q1) hs.2.2.2.2.1 (by decide)
  have k3 := c9_takeWordOf (g := g) (d := d + 1) lit_37 lw37_ok hs.1 (h3.at q1) hs.2.2.2.2.1
  rw [h3'] at k1
  rw [q2, if_neg hb, pI_pI] at k2
  rw [q2, hw, pI_pI] at k3
  dsimp only at k3
  have hf := h.fwd (q := letR B e p) (by omega) hlr.2
  have hsk := skp_le (B := B) hlr.2
  have hj : j < 8 := w1
  have hg := hf.ord (k := 1) (c := j) (by omega) (by omega) (by omega) (by omega)
  have k4 := c5_order (g := g) (d := d + 6) (n := n) (k := 1) (a := j) hf.1 hf.2.2.2.2.2.2.1.1 (by omega)
  have m1 := m_here (g := g) (d := d + 6) h2 h4
  rw [h4', show chR B e p = B p by rw [chR, if_pos hL.1]] at m1
  have hm := h.mat
  have m1' := m_here (g := g) (d := d + 6) hm.2.1 (h4.at q1)
  rw [q2, show chR B e p = B p by rw [chR, if_pos hL.1], pI_pI] at m1'
  have m2 := m_word (g := g) (d := d + 5) hm.2.1 (h4.at q1)
  rw [q2, pI_pI] at m2
  have m3 := m_pass (g := g) (d := d + 5) hm.2.1 (h4.at q1)
  rw [pI_pI] at m3
  have hv := wv_lt (B := B) (p := p) (k := letR B e p) letR_L
  have m4 := m_factOf (g := g) (d := d + 1) (s := pI t 432 4 (Int32.ofNat p)) (v := wv B p (letR B e p)) (by omega)
  rw [wci_wix lw37 (by decide +kernel), hw] at m4
  dsimp only at m4
  have m5 := m_emit (g := g) (d := d + 5) (n := n) (k := Int32.ofNat 1) (a := Int32.ofNat j) hf.2.1 hf.2.2.2.2.2.1 hf.2.2.2.2.2.2.2.1 (by omega)
  have hB4 : B p < 256 := (h4.2.2.2.2 p hL.1).2
  have hn4 : ¬ B p = 40 := fun h0 => hb ⟨hL.1, h0⟩
  have hnD : ¬ isD (B p) := fun h0 => isD_nL h0 hL.2
  refine ⟨_, _, ?_, ?_, CS.at.tr CS.ord, MR.at.tr MR.emi, Or.inl ⟨_, _, by omega, by omega, hg, by rw [g441e, g441]; exact GW.one ⟨by omega, rfl⟩⟩⟩
  · simp (disch := first | exact jm_lt0 | exact jm_lti | exact jm_ltr | exact jm_ltl | exact jm_lti2 | exact jm_ltri | exact jm_ltir | exact jm_ltrr | exact jm_ltl2 | exact jm_ltrl | exact jm_ltlr | omega | assumption | exact sa_1 | exact sa_156 | exact n32_inA sb_1 (by omega) (by omega) | exact n32_inA sb_156 (by omega) (by omega) | exact bi01 | (rw [sa_1]; omega) | (rw [sa_156]; omega) | decide) only [sX5_readUnit_0, sX5_readUnit_1, sX5_readUnit_4, sX5_readUnit_5, sX5_readUnit_6, sX5_readUnit_8, sX5_readUnit_11, sX5_readUnit_14, sX5_readUnit_15, sX5_readUnit_16, sX5_readUnit_17, sX5_readUnit_20, sX5_readUnit_23, sX5_readUnit_24, sX5_readUnit_25, sX5_readUnit_26, sX5_readUnit_27, sX5_readUnit_28, sX5_readUnit_31, sX5_readUnit_32, sX5_readUnit_34, kX5_readUnit_37_AAIIN, sX5_readUnit_37, kX5_readUnit_38_AAIIN, sX5_readUnit_38, sX5_readUnit_39, sX5_readUnit_41, sX5_readUnit_44, sX5_readUnit_46, sX5_readUnit_48, sX5_readUnit_49, sX5_readUnit_52, sX5_readUnit_53, sX5_readUnit_54, sX5_readUnit_56, sX5_readUnit_59, kX5_readUnit_62_AANNI, sX5_readUnit_62, sX5_readUnit_63, sX5_readUnit_64, sX5_readUnit_65, sX5_readUnit_66, sX5_readUnit_69, sX5_readUnit_72, kX5_readUnit_75_AANNI, kX5_readUnit_75_AANNN, sX5_readUnit_75, evK_n, evK_v, evK_x, gI_pI, gJ_pI, gR_pI, gI_pJ, gJ_pJ, gR_pJ, gI_pR, gJ_pR, gR_pR, sa_1, sb_1, sa_156, sb_156, jm_lt0, jm_lti, jm_ltr, jm_ltl, jm_lti2, jm_ltri, jm_ltir, jm_ltrr, if_true, if_false, not_true_eq_false, not_false_eq_true, and_true, true_and, and_false, false_and, and_self, or_true, true_or, or_false, false_or, or_self, ne_eq, Decidable.not_not, Nat.reduceEqDiff, Nat.reduceEqDiff, k1, k2, k3, k4, z32, n32_neg, show ¬ (Int32.ofNat j = -1) by rw [n32_neg (by omega)]; exact id]
  · simp (disch := first | exact jm_lt0 | exact jm_lti | exact jm_ltr | exact jm_ltl | exact jm_lti2 | exact jm_ltri | exact jm_ltir | exact jm_ltrr | exact jm_ltl2 | exact jm_ltrl | exact jm_ltlr | omega | assumption | exact sa_432 | exact n32_inA sb_432 (by omega) (by omega) | exact bi01 | (rw [sa_432]; omega) | decide) only [sX12_readUnit_0, sX12_readUnit_1, sX12_readUnit_4, sX12_readUnit_7, sX12_readUnit_8, sX12_readUnit_9, sX12_readUnit_12, sX12_readUnit_14, sX12_readUnit_17, sX12_readUnit_18, sX12_readUnit_19, sX12_readUnit_22, sX12_readUnit_23, sX12_readUnit_26, sX12_readUnit_27, sX12_readUnit_29, sX12_readUnit_32, sX12_readUnit_33, sX12_readUnit_34, sX12_readUnit_37, sX12_readUnit_38, sX12_readUnit_39, sX12_readUnit_42, sX12_readUnit_45, sX12_readUnit_46, sX12_readUnit_49, sX12_readUnit_52, sX12_readUnit_55, sX12_readUnit_56, sX12_readUnit_57, sX12_readUnit_58, sX12_readUnit_59, sX12_readUnit_62, sX12_readUnit_65, sX12_readUnit_68, sX12_readUnit_71, sX12_readUnit_72, sX12_readUnit_75, sX12_readUnit_78, sX12_readUnit_79, sX12_readUnit_80, sX12_readUnit_81, sX12_readUnit_84, sX12_readUnit_85, sX12_readUnit_86, sX12_readUnit_87, sX12_readUnit_90, sX12_readUnit_93, sX12_readUnit_94, sX12_readUnit_97, sX12_readUnit_100, sX12_readUnit_101, sX12_readUnit_102, sX12_readUnit_105, sX12_readUnit_106, sX12_readUnit_107, sX12_readUnit_108, kX12_readUnit_111_AI, kX12_readUnit_111_AN, sX12_readUnit_111, evK_n, evK_v, evK_x, gI_pI, gJ_pI, gR_pI, gI_pJ, gJ_pJ, gR_pJ, gI_pR, gJ_pR, gR_pR, sa_432, sb_432, jm_lt0, jm_lti, jm_ltr, jm_ltl, jm_lti2, jm_ltri, jm_ltir, jm_ltrr, if_true, if_false, not_true_eq_false, not_false_eq_true, and_true, true_and, and_false, false_and, and_self, or_true, true_or, or_false, false_or, or_self, ne_eq, Decidable.not_not, Nat.reduceEqDiff, Nat.reduceEqDiff, m_fine, bi_ne, bi_eq, h6, hm.2.2.2.2.2.1, m1, m1', m2, m3, m4, m5, m_isDigit hB4, n32_eq, hn4, hnD, show ¬ (Int32.ofNat j = -1) by rw [n32_neg (by omega)]; exact id]
