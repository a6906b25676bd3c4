/-! a day that passes: whether a STEP is done, the class -/
def dDec (so : Nat → Bool) (q : Nat) (nx : Int32) (dw : Nat → Nat) (Z : DZ) : Bool × Int32 := if so Z.2.1 = true then (if q = 0 then (true, Z.1) else (decide (dw 16 < q), nx)) else (false, Z.1)
def pDd (h b j : Nat) : Prop := b = h + 6 ∨ (b = h ∧ j = 8) ∨ b = 430 ∨ (b = 428 ∧ j = 4)
section CI
variable {g : fm_g} {d v p i : Nat} {w : WD} {Z : DZ} {nx : Int32} {dw : Nat → Nat} {s : fm_S}
theorem c3_isDone (hF : FX s) (hw : wOK w) (hp : p < 7) (hC : HC s (hcl p) (wH w p)) (hi : i < hbm (wH w p)) (hE : HE s 429 w v) (hD : DC s Z) (hk : Z.2.1 < NS) (hv : v < 24) (hst : kst Z.2.1 ≤ v + 1) (hdr : hDr g (d + 1) Z.1 nx dw) (hdl : ∀ n, 0 < n → dw n < n) : ∃ s', ev g (d + 2) mX3_isDone 0 [some (.ref (428 : Nat)), some (.ref (hcl p)), some (.int (Int32.ofNat i)), none] [] s = some (.inl (some (.int (bi ((dDec (soB w v p i) (hbQ (wH w p) i) nx dw Z).1 = true)))), s') ∧ FM (pDd (hcl p)) nO s s' ∧ DC s' ((dDec (soB w v p i) (hbQ (wH w p) i) nx dw Z).2, Z.2) := by
  obtain ⟨y, k, dr, wa, lo⟩ := Z
  obtain ⟨hN, h4, h1, h2, h3⟩ := id hD
  dsimp only at hN h4 h1 h2 h3 hk hdr hst
  have hOK1 := hw.2.2.2.2.1 p hp
  obtain ⟨-, pq2, -⟩ := hOK1.2.2.2 i hi
  have hcc : hcl p = 54 ∨ hcl p = 65 ∨ hcl p = 72 ∨ hcl p = 79 ∨ hcl p = 86 ∨ hcl p = 93 ∨ hcl p = 100 := by unfold hcl; split <;> omega
  have r0 := hF.u 428 0 429 (by decide +kernel)
  obtain ⟨s1, e1, hM1, hX1⟩ := c2_worths (g := g) (d := d) (c := 429) (by decide) hF hE hN hv hst
  have hF1 := hM1.fx hF
  have hC1 : HC s1 (hcl p) (wH w p) := by
    obtain ⟨a1, a2, a3, a4⟩ := hC
    refine ⟨by rw [hM1.2.1 _ _ (by omega), a1], by rw [hM1.2.1 _ _ (by omega), a2], fun j hj => ?_, fun j hj => ?_⟩
    · obtain ⟨b1, b2, b3, b4⟩ := a3 j hj
      exact ⟨by rw [hM1.2.1 _ _ (by omega), b1], by rw [hM1.2.1 _ _ (by omega), b2], by rw [hM1.2.1 _ _ (by omega), b3], by rw [hM1.2.1 _ _ (by omega), b4]⟩
    · rw [hM1.2.1 _ _ (by omega)]
      exact a4 j hj
  obtain ⟨s2, e2, hS2⟩ := c5_isSo (g := g) (d := d) (a2 := 429 + 1) hF1 (hcl_in hp) hOK1 hC1 hi (by decide +kernel) (by decide +kernel) hX1 (by omega)
  have hso : cnd (wH w p) i (wX w v k) = soB w v p i k := rfl
  rw [hso] at e2
  have hF2 := hS2.fx hF1
  have hM2 : FM (pDd (hcl p)) nO s s2 := (hM1.mono (fun b j q => by unfold pDd; omega) (fun _ _ q => q.elim)).tr (hS2.fm (fun j => Or.inl rfl) (Or.inr (Or.inl ⟨rfl, rfl⟩)))
  have hC2 : HC s2 (hcl p) (wH w p) := by
    obtain ⟨a1, a2, a3, a4⟩ := hC1
    refine ⟨by rw [hS2.2 _ _ (by omega) (by omega), a1], by rw [hS2.2 _ _ (by omega) (by omega), a2], fun j hj => ?_, fun j hj => ?_⟩
    · obtain ⟨b1, b2, b3, b4⟩ := a3 j hj
      exact ⟨by rw [hS2.2 _ _ (by omega) (by omega), b1], by rw [hS2.2 _ _ (by omega) (by omega), b2], by rw [hS2.2 _ _ (by omega) (by omega), b3], by rw [hS2.2 _ _ (by omega) (by omega), b4]⟩
    · rw [hS2.2 _ _ (by omega) (by omega)]
      exact a4 j hj
  have hD2 : DC s2 (y, k, dr, wa, lo) := by
    obtain ⟨n1, n2, n3, n4, n5⟩ := hN
    have k1 : ∀ b j, (b = 429 ∨ (b = 428 ∧ j ≠ 4)) ∨ (b = 428 ∧ j = 4) → gI s2 b j = gI s b j := fun b j hb => by
      rw [hS2.2 _ _ (by omega) (by omega), hM1.2.1 _ _ (by omega)]
    refine ⟨⟨?_, ?_, ?_, ?_, ?_⟩, ?_, ?_, ?_, ?_⟩
    · rw [k1 _ _ (by omega)]; exact n1
    · rw [k1 _ _ (by omega)]; exact n2
    · rw [k1 _ _ (by omega)]; exact n3
    · rw [k1 _ _ (by omega)]; exact n4
    · rw [k1 _ _ (by omega)]; exact n5
    · rw [k1 _ _ (by omega)]; exact h4
    · rw [k1 _ _ (by omega)]; exact h1
    · rw [k1 _ _ (by omega)]; exact h2
    · rw [k1 _ _ (by omega)]; exact h3
  have e3 := c5_oddsOf (g := g) (d := d + 1) hF2 (hcl_in hp) hOK1 hC2 hi
  have sH := (hS_of (hcl_in hp)).1
  unfold dDec
  dsimp only
  cases cs : soB w v p i k with
  | false =>
    rw [if_neg (by decide)]
    rw [cs, bi_f (by decide)] at e2
    refine ⟨s2, ?_, hM2, hD2⟩
    rw [bi_f (by simp)]
    simp (disch := first | exact jm_lt0 | (apply jm_ltx; (repeat (first | exact jw_0 | apply jw_i | apply jw_r | apply jw_l)); omega) | omega | assumption | exact sa_428 | exact sa_429 | exact n32_inA sb_428 (by omega) (by omega) | exact n32_inA sb_429 (by omega) (by omega) | (refine n32_inA (by assumption) ?_ ?_ <;> omega) | exact bi01 | (rw [sa_428]; omega) | (rw [sa_429]; omega) | decide) only [sX3_isDone_0, sX3_isDone_1, sX3_isDone_2, sX3_isDone_3, sX3_isDone_6, sX3_isDone_9, sX3_isDone_12, sX3_isDone_15, sX3_isDone_16, sX3_isDone_17, sX3_isDone_18, sX3_isDone_19, sX3_isDone_22, sX3_isDone_23, sX3_isDone_24, sX3_isDone_27, sX3_isDone_28, sX3_isDone_30, sX3_isDone_33, sX3_isDone_34, kX3_isDone_37_AAII, sX3_isDone_37, sX3_isDone_38, kX3_isDone_41_AAII, sX3_isDone_41, sX3_isDone_42, evK_n, evK_v, evK_x, gI_pI, gJ_pI, gR_pI, gI_pJ, gJ_pJ, gR_pJ, gI_pR, gJ_pR, gR_pR, if_true, if_false, not_true_eq_false, not_false_eq_true, and_true, true_and, and_false, false_and, and_self, or_true, true_or, or_false, false_or, or_self, ne_eq, Decidable.not_not, Nat.reduceEqDiff, Nat.reduceEqDiff, sa_428, sb_428, sa_429, sb_429, r0, e1, e2, z32]
  | true =>
    rw [if_pos rfl]
    rw [cs, bi_t rfl] at e2
    by_cases cq : hbQ (wH w p) i = 0
    · rw [if_pos cq]
      rw [cq] at e3
      refine ⟨s2, ?_, hM2, hD2⟩
      rw [bi_t rfl]
      simp (disch := first | exact jm_lt0 | (apply jm_ltx; (repeat (first | exact jw_0 | apply jw_i | apply jw_r | apply jw_l)); omega) | omega | assumption | exact sa_428 | exact sa_429 | exact n32_inA sb_428 (by omega) (by omega) | exact n32_inA sb_429 (by omega) (by omega) | (refine n32_inA (by assumption) ?_ ?_ <;> omega) | exact bi01 | (rw [sa_428]; omega) | (rw [sa_429]; omega) | decide) only [sX3_isDone_0, sX3_isDone_1, sX3_isDone_2, sX3_isDone_3, sX3_isDone_6, sX3_isDone_9, sX3_isDone_12, sX3_isDone_15, sX3_isDone_16, sX3_isDone_17, sX3_isDone_18, sX3_isDone_19, sX3_isDone_22, sX3_isDone_23, sX3_isDone_24, sX3_isDone_27, sX3_isDone_28, sX3_isDone_30, sX3_isDone_33, sX3_isDone_34, kX3_isDone_37_AAII, sX3_isDone_37, sX3_isDone_38, kX3_isDone_41_AAII, sX3_isDone_41, sX3_isDone_42, evK_n, evK_v, evK_x, gI_pI, gJ_pI, gR_pI, gI_pJ, gJ_pJ, gR_pJ, gI_pR, gJ_pR, gR_pR, if_true, if_false, not_true_eq_false, not_false_eq_true, and_true, true_and, and_false, false_and, and_self, or_true, true_or, or_false, false_or, or_self, ne_eq, Decidable.not_not, Nat.reduceEqDiff, Nat.reduceEqDiff, sa_428, sb_428, sa_429, sb_429, r0, e1, e2, show ¬ (Int32.ofNat 1 = 0) by decide, e3, z32]
    · rw [if_neg cq]
      have cq' : ¬ Int32.ofNat (hbQ (wH w p) i) = 0 := by rw [n32_eq0 (by omega)]; exact cq
      have e4 := hdr 16 s2 hD2.2.1 (by omega)
      have hlt := hdl 16 (by decide)
      generalize dw 16 = r at *
      refine ⟨pI s2 428 4 nx, ?_, hM2.tr (FM.pI (by unfold pDd; omega)), ?_⟩
      · by_cases c : r < hbQ (wH w p) i
        · have c' : ¬ hbQ (wH w p) i ≤ r := by omega
          rw [bi_t (decide_eq_true c)]
          simp (disch := first | exact jm_lt0 | (apply jm_ltx; (repeat (first | exact jw_0 | apply jw_i | apply jw_r | apply jw_l)); omega) | omega | assumption | exact sa_428 | exact sa_429 | exact n32_inA sb_428 (by omega) (by omega) | exact n32_inA sb_429 (by omega) (by omega) | (refine n32_inA (by assumption) ?_ ?_ <;> omega) | exact bi01 | (rw [sa_428]; omega) | (rw [sa_429]; omega) | decide) only [sX3_isDone_0, sX3_isDone_1, sX3_isDone_2, sX3_isDone_3, sX3_isDone_6, sX3_isDone_9, sX3_isDone_12, sX3_isDone_15, sX3_isDone_16, sX3_isDone_17, sX3_isDone_18, sX3_isDone_19, sX3_isDone_22, sX3_isDone_23, sX3_isDone_24, sX3_isDone_27, sX3_isDone_28, sX3_isDone_30, sX3_isDone_33, sX3_isDone_34, kX3_isDone_37_AAII, sX3_isDone_37, sX3_isDone_38, kX3_isDone_41_AAII, sX3_isDone_41, sX3_isDone_42, evK_n, evK_v, evK_x, gI_pI, gJ_pI, gR_pI, gI_pJ, gJ_pJ, gR_pJ, gI_pR, gJ_pR, gR_pR, n32_le, if_true, if_false, not_true_eq_false, not_false_eq_true, and_true, true_and, and_false, false_and, and_self, or_true, true_or, or_false, false_or, or_self, ne_eq, Decidable.not_not, Nat.reduceEqDiff, Nat.reduceEqDiff, sa_428, sb_428, sa_429, sb_429, r0, e1, e2, show ¬ (Int32.ofNat 1 = 0) by decide, e3, cq', e4, c']
        · have c' : hbQ (wH w p) i ≤ r := by omega
          rw [bi_f (fun h => c (of_decide_eq_true h))]
          simp (disch := first | exact jm_lt0 | (apply jm_ltx; (repeat (first | exact jw_0 | apply jw_i | apply jw_r | apply jw_l)); omega) | omega | assumption | exact sa_428 | exact sa_429 | exact n32_inA sb_428 (by omega) (by omega) | exact n32_inA sb_429 (by omega) (by omega) | (refine n32_inA (by assumption) ?_ ?_ <;> omega) | exact bi01 | (rw [sa_428]; omega) | (rw [sa_429]; omega) | decide) only [sX3_isDone_0, sX3_isDone_1, sX3_isDone_2, sX3_isDone_3, sX3_isDone_6, sX3_isDone_9, sX3_isDone_12, sX3_isDone_15, sX3_isDone_16, sX3_isDone_17, sX3_isDone_18, sX3_isDone_19, sX3_isDone_22, sX3_isDone_23, sX3_isDone_24, sX3_isDone_27, sX3_isDone_28, sX3_isDone_30, sX3_isDone_33, sX3_isDone_34, kX3_isDone_37_AAII, sX3_isDone_37, sX3_isDone_38, kX3_isDone_41_AAII, sX3_isDone_41, sX3_isDone_42, evK_n, evK_v, evK_x, gI_pI, gJ_pI, gR_pI, gI_pJ, gJ_pJ, gR_pJ, gI_pR, gJ_pR, gR_pR, n32_le, if_true, if_false, not_true_eq_false, not_false_eq_true, and_true, true_and, and_false, false_and, and_self, or_true, true_or, or_false, false_or, or_self, ne_eq, Decidable.not_not, Nat.reduceEqDiff, Nat.reduceEqDiff, sa_428, sb_428, sa_429, sb_429, r0, e1, e2, show ¬ (Int32.ofNat 1 = 0) by decide, e3, cq', e4, c']
      · obtain ⟨⟨n1, n2, n3, n4, n5⟩, m4, m1, m2, m3⟩ := hD2
        dsimp only at n1 n2 n3 n4 n5 m1 m2 m3
        refine ⟨⟨?_, ?_, ?_, ?_, ?_⟩, ?_, ?_, ?_, ?_⟩ <;> simp [gI_pI, n1, n2, n3, n4, n5, m1, m2, m3]
end CI
