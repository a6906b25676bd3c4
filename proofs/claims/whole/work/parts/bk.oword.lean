/-! a CLAUSE's word, read by both -/
theorem letR_end {B : Nat → Nat} {e p : Nat} : ¬ (letR B e p < e ∧ isL (B (letR B e p))) := by
  rw [letR]
  split
  next hc => exact letR_end
  next hc => exact hc
termination_by e - p
theorem letR_eq {B : Nat → Nat} {e p q : Nat} (hp : p ≤ q) (hq : q ≤ e) (h : ∀ i, p ≤ i → i < q → isL (B i)) (hn : ¬ (q < e ∧ isL (B q))) : letR B e p = q := by
  rcases Nat.eq_or_lt_of_le hp with rfl | hlt
  · rw [letR, dif_neg hn]
  · rw [letR, dif_pos ⟨by omega, h p (Nat.le_refl _) hlt⟩]
    exact letR_eq hlt hq (fun i h1 h2 => h i (by omega) h2) hn
termination_by q - p
def wMa : List Nat := [109, 97, 99, 104, 105, 110, 101]
theorem run_iff {B : Nat → Nat} {e p : Nat} {w : List Nat} (hp : p ≤ e) (hl : ∀ c ∈ w, isL c) : (w = runR B p (letR B e p)) ↔ ((∀ j, j < w.length → p + j < e ∧ w.getD j 0 = B (p + j)) ∧ ¬ (p + w.length < e ∧ isL (B (p + w.length)))) := by
  have hlr := letR_le (B := B) hp
  constructor
  · intro h
    have hlen : letR B e p - p = w.length := by
      have := congrArg List.length h
      rw [runR_len] at this
      exact this.symm
    have hq : letR B e p = p + w.length := by omega
    refine ⟨fun j hj => ⟨by omega, ?_⟩, ?_⟩
    · rw [h]
      unfold runR
      rw [List.getD_eq_getElem?_getD, List.getElem?_map, List.getElem?_range (by omega)]
      rfl
    · rw [← hq]
      exact letR_end
  · rintro ⟨h1, h2⟩
    have hle : p + w.length ≤ e := by
      rcases Nat.eq_zero_or_pos w.length with h0 | h0
      · omega
      · have := (h1 (w.length - 1) (by omega)).1
        omega
    have hL : ∀ i, p ≤ i → i < p + w.length → isL (B i) := fun i hi1 hi2 => by
      have h3 := (h1 (i - p) (by omega)).2
      rw [show p + (i - p) = i by omega] at h3
      rw [← h3, List.getD_eq_getElem?_getD, List.getElem?_eq_getElem (by omega)]
      exact hl _ (List.getElem_mem _)
    have hq := letR_eq (B := B) (Nat.le_add_right p w.length) hle hL h2
    rw [hq]
    unfold runR
    refine List.ext_getElem (by simp) (fun i hi1 hi2 => ?_)
    have h3 := (h1 i hi1).2
    rw [List.getD_eq_getElem?_getD, List.getElem?_eq_getElem hi1] at h3
    simpa using h3
section OW
variable {g : fm_g} {d : Nat} {B : Nat → Nat} {e p : Nat} {s t : fm_S}
theorem m_stLoop (hF : FX t) (hT : MT t B e p) (hp : p ≤ e) : ∀ (k i : Nat), i + k = 7 → (∀ j, j < i → p + j < e ∧ wMa.getD j 0 = B (p + j)) → ev g (d + 4) mX12_standsHere 7 [some (.ref (432 : Nat)), some (.retAddr 9), some (.int (Int32.ofNat i))] [] t = some (.inl (some (.int (bi (wMa = runR B p (letR B e p))))), t) := by
  have hk := lit_9.lt
  have k1 := fun d => cs_len (g := g) (d := d) (s := t) lit_9
  have k1' : ∀ d, ev g (d + 1) mJS_length 0 [some (.retAddr 9)] [] t = some (.inl (some (.int (Int32.ofNat 7))), t) := k1
  have hri := run_iff (B := B) (e := e) (p := p) (w := wMa) hp (by decide)
  obtain ⟨h3, h4, h5, h6, h7⟩ := id hT
  have r9 := hF.u 432 9 434 (by decide +kernel)
  intro k
  induction k with
  | zero =>
    intro i hi hJ
    have hil : i = 7 := by omega
    subst hil
    rw [sX12_standsHere_7]
    by_cases c : e ≤ p + 7
    · have : wMa = runR B p (letR B e p) := hri.mpr ⟨hJ, fun q => by have : wMa.length = 7 := rfl; omega⟩
      rw [bi_t this]
      simp (disch := first | exact jm_lt0 | (apply jm_ltx; (repeat (first | exact jw_0 | apply jw_i | apply jw_r | apply jw_l)); omega) | omega | assumption | exact sa_432 | exact sa_434 | exact n32_inA sb_432 (by omega) (by omega) | exact n32_inA sb_434 (by omega) (by omega) | (refine n32_inA (by assumption) ?_ ?_ <;> omega) | exact bi01 | (rw [sa_432]; omega) | (rw [sa_434]; omega) | decide) only [sX12_standsHere_0, sX12_standsHere_1, sX12_standsHere_4, sX12_standsHere_5, sX12_standsHere_6, sX12_standsHere_8, sX12_standsHere_9, sX12_standsHere_12, sX12_standsHere_15, sX12_standsHere_16, sX12_standsHere_19, sX12_standsHere_20, sX12_standsHere_21, sX12_standsHere_22, sX12_standsHere_25, sX12_standsHere_28, sX12_standsHere_29, sX12_standsHere_32, sX12_standsHere_33, sX12_standsHere_36, sX12_standsHere_37, sX12_standsHere_38, sX12_standsHere_39, sX12_standsHere_40, sX12_standsHere_41, sX12_standsHere_44, kX12_standsHere_47_ASI, sX12_standsHere_47, sX12_standsHere_48, sX12_standsHere_49, sX12_standsHere_52, kX12_standsHere_55_ASI, sX12_standsHere_55, sX12_standsHere_56, sX12_standsHere_59, sX12_standsHere_60, sX12_standsHere_63, sX12_standsHere_64, sX12_standsHere_65, sX12_standsHere_68, sX12_standsHere_71, sX12_standsHere_72, sX12_standsHere_75, sX12_standsHere_76, sX12_standsHere_79, sX12_standsHere_80, sX12_standsHere_83, sX12_standsHere_84, sX12_standsHere_85, sX12_standsHere_88, kX12_standsHere_91_ASN, sX12_standsHere_91, sX12_standsHere_92, kX12_standsHere_95_ASN, sX12_standsHere_95, sX12_standsHere_96, evK_n, evK_v, evK_x, gI_pI, gJ_pI, gR_pI, gI_pJ, gJ_pJ, gR_pJ, gI_pR, gJ_pR, gR_pR, n32_le, n32_lt, n32_add, n32_mul, n32_cl, if_true, if_false, not_true_eq_false, not_false_eq_true, and_true, true_and, and_false, false_and, and_self, or_true, true_or, or_false, false_or, or_self, ne_eq, Decidable.not_not, Nat.reduceEqDiff, Nat.reduceEqDiff, sa_432, sb_432, sa_434, sb_434, k1', h3, h4, c, Nat.le_refl]
    · have hb := (h7 (p + 7) (by omega)).1
      have hb2 := (h7 (p + 7) (by omega)).2
      have k2 := m_isSmall (g := g) (d := d + 3) (s := t) hb2
      by_cases cl : isL (B (p + 7))
      · have : ¬ wMa = runR B p (letR B e p) := fun q => (hri.mp q).2 ⟨by show p + 7 < e; omega, cl⟩
        rw [bi_f this]
        rw [bi_t cl] at k2
        simp (disch := first | exact jm_lt0 | (apply jm_ltx; (repeat (first | exact jw_0 | apply jw_i | apply jw_r | apply jw_l)); omega) | omega | assumption | exact sa_432 | exact sa_434 | exact n32_inA sb_432 (by omega) (by omega) | exact n32_inA sb_434 (by omega) (by omega) | (refine n32_inA (by assumption) ?_ ?_ <;> omega) | exact bi01 | (rw [sa_432]; omega) | (rw [sa_434]; omega) | decide) only [sX12_standsHere_0, sX12_standsHere_1, sX12_standsHere_4, sX12_standsHere_5, sX12_standsHere_6, sX12_standsHere_8, sX12_standsHere_9, sX12_standsHere_12, sX12_standsHere_15, sX12_standsHere_16, sX12_standsHere_19, sX12_standsHere_20, sX12_standsHere_21, sX12_standsHere_22, sX12_standsHere_25, sX12_standsHere_28, sX12_standsHere_29, sX12_standsHere_32, sX12_standsHere_33, sX12_standsHere_36, sX12_standsHere_37, sX12_standsHere_38, sX12_standsHere_39, sX12_standsHere_40, sX12_standsHere_41, sX12_standsHere_44, kX12_standsHere_47_ASI, sX12_standsHere_47, sX12_standsHere_48, sX12_standsHere_49, sX12_standsHere_52, kX12_standsHere_55_ASI, sX12_standsHere_55, sX12_standsHere_56, sX12_standsHere_59, sX12_standsHere_60, sX12_standsHere_63, sX12_standsHere_64, sX12_standsHere_65, sX12_standsHere_68, sX12_standsHere_71, sX12_standsHere_72, sX12_standsHere_75, sX12_standsHere_76, sX12_standsHere_79, sX12_standsHere_80, sX12_standsHere_83, sX12_standsHere_84, sX12_standsHere_85, sX12_standsHere_88, kX12_standsHere_91_ASN, sX12_standsHere_91, sX12_standsHere_92, kX12_standsHere_95_ASN, sX12_standsHere_95, sX12_standsHere_96, evK_n, evK_v, evK_x, gI_pI, gJ_pI, gR_pI, gI_pJ, gJ_pJ, gR_pJ, gI_pR, gJ_pR, gR_pR, n32_le, n32_lt, n32_add, n32_mul, n32_cl, if_true, if_false, not_true_eq_false, not_false_eq_true, and_true, true_and, and_false, false_and, and_self, or_true, true_or, or_false, false_or, or_self, ne_eq, Decidable.not_not, Nat.reduceEqDiff, Nat.reduceEqDiff, sa_432, sb_432, sa_434, sb_434, k1', h3, h4, c, Nat.le_refl, r9, hb, k2, show ¬ (Int32.ofNat 1 = 0) by decide]
      · have : wMa = runR B p (letR B e p) := hri.mpr ⟨hJ, fun q => cl q.2⟩
        rw [bi_t this]
        rw [bi_f cl] at k2
        simp (disch := first | exact jm_lt0 | (apply jm_ltx; (repeat (first | exact jw_0 | apply jw_i | apply jw_r | apply jw_l)); omega) | omega | assumption | exact sa_432 | exact sa_434 | exact n32_inA sb_432 (by omega) (by omega) | exact n32_inA sb_434 (by omega) (by omega) | (refine n32_inA (by assumption) ?_ ?_ <;> omega) | exact bi01 | (rw [sa_432]; omega) | (rw [sa_434]; omega) | decide) only [sX12_standsHere_0, sX12_standsHere_1, sX12_standsHere_4, sX12_standsHere_5, sX12_standsHere_6, sX12_standsHere_8, sX12_standsHere_9, sX12_standsHere_12, sX12_standsHere_15, sX12_standsHere_16, sX12_standsHere_19, sX12_standsHere_20, sX12_standsHere_21, sX12_standsHere_22, sX12_standsHere_25, sX12_standsHere_28, sX12_standsHere_29, sX12_standsHere_32, sX12_standsHere_33, sX12_standsHere_36, sX12_standsHere_37, sX12_standsHere_38, sX12_standsHere_39, sX12_standsHere_40, sX12_standsHere_41, sX12_standsHere_44, kX12_standsHere_47_ASI, sX12_standsHere_47, sX12_standsHere_48, sX12_standsHere_49, sX12_standsHere_52, kX12_standsHere_55_ASI, sX12_standsHere_55, sX12_standsHere_56, sX12_standsHere_59, sX12_standsHere_60, sX12_standsHere_63, sX12_standsHere_64, sX12_standsHere_65, sX12_standsHere_68, sX12_standsHere_71, sX12_standsHere_72, sX12_standsHere_75, sX12_standsHere_76, sX12_standsHere_79, sX12_standsHere_80, sX12_standsHere_83, sX12_standsHere_84, sX12_standsHere_85, sX12_standsHere_88, kX12_standsHere_91_ASN, sX12_standsHere_91, sX12_standsHere_92, kX12_standsHere_95_ASN, sX12_standsHere_95, sX12_standsHere_96, evK_n, evK_v, evK_x, gI_pI, gJ_pI, gR_pI, gI_pJ, gJ_pJ, gR_pJ, gI_pR, gJ_pR, gR_pR, n32_le, n32_lt, n32_add, n32_mul, n32_cl, if_true, if_false, not_true_eq_false, not_false_eq_true, and_true, true_and, and_false, false_and, and_self, or_true, true_or, or_false, false_or, or_self, ne_eq, Decidable.not_not, Nat.reduceEqDiff, Nat.reduceEqDiff, sa_432, sb_432, sa_434, sb_434, k1', h3, h4, c, Nat.le_refl, r9, hb, k2, z32]
  | succ k ih =>
    intro i hi hJ
    rw [sX12_standsHere_7]
    have g1 : ¬ 7 ≤ i := by omega
    have k3 := cs_charAt (g := g) (d := d) (s := t) (i := i) lit_9 (by show i < 7; omega)
    have hcc : ([109, 97, 99, 104, 105, 110, 101] : List Nat).getD i 0 < 128 := by
      have key : ∀ i, i < 7 → ([109, 97, 99, 104, 105, 110, 101] : List Nat).getD i 0 < 128 := by decide
      exact key i (by omega)
    by_cases c : e ≤ p + i
    · have : ¬ wMa = runR B p (letR B e p) := fun q => by
        have := ((hri.mp q).1 i (by show i < 7; omega)).1
        omega
      rw [bi_f this]
      simp (disch := first | exact jm_lt0 | (apply jm_ltx; (repeat (first | exact jw_0 | apply jw_i | apply jw_r | apply jw_l)); omega) | omega | assumption | exact sa_432 | exact sa_434 | exact n32_inA sb_432 (by omega) (by omega) | exact n32_inA sb_434 (by omega) (by omega) | (refine n32_inA (by assumption) ?_ ?_ <;> omega) | exact bi01 | (rw [sa_432]; omega) | (rw [sa_434]; omega) | decide) only [sX12_standsHere_0, sX12_standsHere_1, sX12_standsHere_4, sX12_standsHere_5, sX12_standsHere_6, sX12_standsHere_8, sX12_standsHere_9, sX12_standsHere_12, sX12_standsHere_15, sX12_standsHere_16, sX12_standsHere_19, sX12_standsHere_20, sX12_standsHere_21, sX12_standsHere_22, sX12_standsHere_25, sX12_standsHere_28, sX12_standsHere_29, sX12_standsHere_32, sX12_standsHere_33, sX12_standsHere_36, sX12_standsHere_37, sX12_standsHere_38, sX12_standsHere_39, sX12_standsHere_40, sX12_standsHere_41, sX12_standsHere_44, kX12_standsHere_47_ASI, sX12_standsHere_47, sX12_standsHere_48, sX12_standsHere_49, sX12_standsHere_52, kX12_standsHere_55_ASI, sX12_standsHere_55, sX12_standsHere_56, sX12_standsHere_59, sX12_standsHere_60, sX12_standsHere_63, sX12_standsHere_64, sX12_standsHere_65, sX12_standsHere_68, sX12_standsHere_71, sX12_standsHere_72, sX12_standsHere_75, sX12_standsHere_76, sX12_standsHere_79, sX12_standsHere_80, sX12_standsHere_83, sX12_standsHere_84, sX12_standsHere_85, sX12_standsHere_88, kX12_standsHere_91_ASN, sX12_standsHere_91, sX12_standsHere_92, kX12_standsHere_95_ASN, sX12_standsHere_95, sX12_standsHere_96, evK_n, evK_v, evK_x, gI_pI, gJ_pI, gR_pI, gI_pJ, gJ_pJ, gR_pJ, gI_pR, gJ_pR, gR_pR, n32_le, n32_lt, n32_add, n32_mul, n32_cl, if_true, if_false, not_true_eq_false, not_false_eq_true, and_true, true_and, and_false, false_and, and_self, or_true, true_or, or_false, false_or, or_self, ne_eq, Decidable.not_not, Nat.reduceEqDiff, Nat.reduceEqDiff, sa_432, sb_432, sa_434, sb_434, k1', h3, h4, c, g1]
    · have hb := (h7 (p + i) (by omega)).1
      have hb2 := (h7 (p + i) (by omega)).2
      by_cases cc : B (p + i) = ([109, 97, 99, 104, 105, 110, 101] : List Nat).getD i 0
      · have := ih (i + 1) (by omega) (fun j hj => by
          by_cases cj : j = i
          · rw [cj]; exact ⟨by omega, cc.symm⟩
          · exact hJ j (by omega))
        generalize ([109, 97, 99, 104, 105, 110, 101] : List Nat).getD i 0 = ch at *
        rw [cc] at hb
        simp (disch := first | exact jm_lt0 | (apply jm_ltx; (repeat (first | exact jw_0 | apply jw_i | apply jw_r | apply jw_l)); omega) | omega | assumption | exact sa_432 | exact sa_434 | exact n32_inA sb_432 (by omega) (by omega) | exact n32_inA sb_434 (by omega) (by omega) | (refine n32_inA (by assumption) ?_ ?_ <;> omega) | exact bi01 | (rw [sa_432]; omega) | (rw [sa_434]; omega) | decide) only [sX12_standsHere_0, sX12_standsHere_1, sX12_standsHere_4, sX12_standsHere_5, sX12_standsHere_6, sX12_standsHere_8, sX12_standsHere_9, sX12_standsHere_12, sX12_standsHere_15, sX12_standsHere_16, sX12_standsHere_19, sX12_standsHere_20, sX12_standsHere_21, sX12_standsHere_22, sX12_standsHere_25, sX12_standsHere_28, sX12_standsHere_29, sX12_standsHere_32, sX12_standsHere_33, sX12_standsHere_36, sX12_standsHere_37, sX12_standsHere_38, sX12_standsHere_39, sX12_standsHere_40, sX12_standsHere_41, sX12_standsHere_44, kX12_standsHere_47_ASI, sX12_standsHere_47, sX12_standsHere_48, sX12_standsHere_49, sX12_standsHere_52, kX12_standsHere_55_ASI, sX12_standsHere_55, sX12_standsHere_56, sX12_standsHere_59, sX12_standsHere_60, sX12_standsHere_63, sX12_standsHere_64, sX12_standsHere_65, sX12_standsHere_68, sX12_standsHere_71, sX12_standsHere_72, sX12_standsHere_75, sX12_standsHere_76, sX12_standsHere_79, sX12_standsHere_80, sX12_standsHere_83, sX12_standsHere_84, sX12_standsHere_85, sX12_standsHere_88, kX12_standsHere_91_ASN, sX12_standsHere_91, sX12_standsHere_92, kX12_standsHere_95_ASN, sX12_standsHere_95, sX12_standsHere_96, evK_n, evK_v, evK_x, gI_pI, gJ_pI, gR_pI, gI_pJ, gJ_pJ, gR_pJ, gI_pR, gJ_pR, gR_pR, n32_le, n32_lt, n32_add, n32_mul, n32_cl, if_true, if_false, not_true_eq_false, not_false_eq_true, and_true, true_and, and_false, false_and, and_self, or_true, true_or, or_false, false_or, or_self, ne_eq, Decidable.not_not, Nat.reduceEqDiff, Nat.reduceEqDiff, sa_432, sb_432, sa_434, sb_434, k1', h3, h4, c, g1, r9, hb, k3]
        exact this
      · have hne : ¬ wMa = runR B p (letR B e p) := fun q => cc (((hri.mp q).1 i (by show i < 7; omega)).2.symm)
        rw [bi_f hne]
        have : ¬ Int32.ofNat (B (p + i)) = Int32.ofNat (([109, 97, 99, 104, 105, 110, 101] : List Nat).getD i 0) := by rw [n32_eq (by omega) (by omega)]; exact cc
        simp (disch := first | exact jm_lt0 | (apply jm_ltx; (repeat (first | exact jw_0 | apply jw_i | apply jw_r | apply jw_l)); omega) | omega | assumption | exact sa_432 | exact sa_434 | exact n32_inA sb_432 (by omega) (by omega) | exact n32_inA sb_434 (by omega) (by omega) | (refine n32_inA (by assumption) ?_ ?_ <;> omega) | exact bi01 | (rw [sa_432]; omega) | (rw [sa_434]; omega) | decide) only [sX12_standsHere_0, sX12_standsHere_1, sX12_standsHere_4, sX12_standsHere_5, sX12_standsHere_6, sX12_standsHere_8, sX12_standsHere_9, sX12_standsHere_12, sX12_standsHere_15, sX12_standsHere_16, sX12_standsHere_19, sX12_standsHere_20, sX12_standsHere_21, sX12_standsHere_22, sX12_standsHere_25, sX12_standsHere_28, sX12_standsHere_29, sX12_standsHere_32, sX12_standsHere_33, sX12_standsHere_36, sX12_standsHere_37, sX12_standsHere_38, sX12_standsHere_39, sX12_standsHere_40, sX12_standsHere_41, sX12_standsHere_44, kX12_standsHere_47_ASI, sX12_standsHere_47, sX12_standsHere_48, sX12_standsHere_49, sX12_standsHere_52, kX12_standsHere_55_ASI, sX12_standsHere_55, sX12_standsHere_56, sX12_standsHere_59, sX12_standsHere_60, sX12_standsHere_63, sX12_standsHere_64, sX12_standsHere_65, sX12_standsHere_68, sX12_standsHere_71, sX12_standsHere_72, sX12_standsHere_75, sX12_standsHere_76, sX12_standsHere_79, sX12_standsHere_80, sX12_standsHere_83, sX12_standsHere_84, sX12_standsHere_85, sX12_standsHere_88, kX12_standsHere_91_ASN, sX12_standsHere_91, sX12_standsHere_92, kX12_standsHere_95_ASN, sX12_standsHere_95, sX12_standsHere_96, evK_n, evK_v, evK_x, gI_pI, gJ_pI, gR_pI, gI_pJ, gJ_pJ, gR_pJ, gI_pR, gJ_pR, gR_pR, n32_le, n32_lt, n32_add, n32_mul, n32_cl, if_true, if_false, not_true_eq_false, not_false_eq_true, and_true, true_and, and_false, false_and, and_self, or_true, true_or, or_false, false_or, or_self, ne_eq, Decidable.not_not, Nat.reduceEqDiff, Nat.reduceEqDiff, sa_432, sb_432, sa_434, sb_434, k1', h3, h4, c, g1, r9, hb, k3, this]
/-- how the model names the CLAUSES -/
def kCl (j : Nat) : Int32 := if j = 0 then -7 else Int32.ofNat (cod (lw38.getD j []))
theorem m_clause (h : QF B e p s t) : ev g (d + 5) mX12_clauseHere 0 [some (.ref (432 : Nat)), none] [] t = some (.inl (some (.int (match wix lw38 (runR B p (letR B e p)) with | some j => kCl j | none => -1))), pI t 432 4 (Int32.ofNat p)) := by
  obtain ⟨q1, q2, q3⟩ := h.le
  obtain ⟨h1, h2, ⟨b, h3, h3'⟩, ⟨c, h4, h4'⟩, h5, h6⟩ := id h
  have k0 := fun d => m_here (g := g) (d := d) h2 h4
  rw [h4'] at k0
  have hM := h.mat
  have hst := m_stLoop (g := g) (d := d) hM.2.1 (h4.at q1) q1 7 0 rfl (fun j hj => by omega)
  have k1 : ev g (d + 4) mX12_standsHere 0 [some (.ref (432 : Nat)), some (.retAddr 9), none] [] t = some (.inl (some (.int (bi (wMa = runR B p (letR B e p))))), pI t 432 4 (Int32.ofNat p)) := by
    simp (disch := first | exact jm_lt0 | (apply jm_ltx; (repeat (first | exact jw_0 | apply jw_i | apply jw_r | apply jw_l)); omega) | omega | assumption | exact sa_432 | exact n32_inA sb_432 (by omega) (by omega) | (refine n32_inA (by assumption) ?_ ?_ <;> omega) | exact bi01 | (rw [sa_432]; omega) | decide) only [sX12_standsHere_0, sX12_standsHere_1, sX12_standsHere_4, sX12_standsHere_5, sX12_standsHere_6, sX12_standsHere_8, sX12_standsHere_9, sX12_standsHere_12, sX12_standsHere_15, sX12_standsHere_16, sX12_standsHere_19, sX12_standsHere_20, sX12_standsHere_21, sX12_standsHere_22, sX12_standsHere_25, sX12_standsHere_28, sX12_standsHere_29, sX12_standsHere_32, sX12_standsHere_33, sX12_standsHere_36, sX12_standsHere_37, sX12_standsHere_38, sX12_standsHere_39, sX12_standsHere_40, sX12_standsHere_41, sX12_standsHere_44, kX12_standsHere_47_ASI, sX12_standsHere_47, sX12_standsHere_48, sX12_standsHere_49, sX12_standsHere_52, kX12_standsHere_55_ASI, sX12_standsHere_55, sX12_standsHere_56, sX12_standsHere_59, sX12_standsHere_60, sX12_standsHere_63, sX12_standsHere_64, sX12_standsHere_65, sX12_standsHere_68, sX12_standsHere_71, sX12_standsHere_72, sX12_standsHere_75, sX12_standsHere_76, sX12_standsHere_79, sX12_standsHere_80, sX12_standsHere_83, sX12_standsHere_84, sX12_standsHere_85, sX12_standsHere_88, kX12_standsHere_91_ASN, sX12_standsHere_91, sX12_standsHere_92, kX12_standsHere_95_ASN, sX12_standsHere_95, sX12_standsHere_96, evK_n, evK_v, evK_x, gI_pI, gJ_pI, gR_pI, gI_pJ, gJ_pJ, gR_pJ, gI_pR, gJ_pR, gR_pR, if_true, if_false, not_true_eq_false, not_false_eq_true, and_true, true_and, and_false, false_and, and_self, or_true, true_or, or_false, false_or, or_self, ne_eq, Decidable.not_not, Nat.reduceEqDiff, Nat.reduceEqDiff, sa_432, sb_432, k0]
    exact hst
  obtain ⟨-, k3, -, -, -, k7⟩ := q_wd (g := g) hM lit_38 lw38_ok
  rw [pI_pI] at k3
  have of2 := fun s d => of_2 (g := g) (d := d) (s := s)
  have of3 := fun s d => of_3 (g := g) (d := d) (s := s)
  have of4 := fun s d => of_4 (g := g) (d := d) (s := s)
  have of5 := fun s d => of_5 (g := g) (d := d) (s := s)
  have of6 := fun s d => of_6 (g := g) (d := d) (s := s)
  have of7 := fun s d => of_7 (g := g) (d := d) (s := s)
  have of8 := fun s d => of_8 (g := g) (d := d) (s := s)
  have of10 := fun s d => of_10 (g := g) (d := d) (s := s)
  have c1 := q_code (B := B) (e := e) (p := p) (w := [99, 117, 112, 115]) (by decide) (by decide) (by decide)
  have c2 := q_code (B := B) (e := e) (p := p) (w := [99, 97, 114, 100]) (by decide) (by decide) (by decide)
  have c3 := q_code (B := B) (e := e) (p := p) (w := [102, 97, 108, 108]) (by decide) (by decide) (by decide)
  have c4 := q_code (B := B) (e := e) (p := p) (w := [119, 97, 114, 109]) (by decide) (by decide) (by decide)
  have c5 := q_code (B := B) (e := e) (p := p) (w := [115, 101, 101]) (by decide) (by decide) (by decide)
  have c6 := q_code (B := B) (e := e) (p := p) (w := [99, 111, 115, 116]) (by decide) (by decide) (by decide)
  have c7 := q_code (B := B) (e := e) (p := p) (w := [112, 101, 114, 115, 111, 110]) (by decide) (by decide) (by decide)
  have c8 := q_code (B := B) (e := e) (p := p) (w := [99, 111, 109, 101, 115]) (by decide) (by decide) (by decide)
  have hlw : lw38 = [wMa, [99, 117, 112, 115], [99, 97, 114, 100], [102, 97, 108, 108], [119, 97, 114, 109], [115, 101, 101], [99, 111, 115, 116], [112, 101, 114, 115, 111, 110], [99, 111, 109, 101, 115]] := rfl
  have fin : ∀ j w, 0 < j → lw38.getD j [] = w → Int32.ofNat (wv B p (letR B e p)) = Int32.ofNat (cod w) → Int32.ofNat (wv B p (letR B e p)) = kCl j := fun j w h0 hj hc => by
    unfold kCl
    rw [if_neg (by omega), hj, hc]
  by_cases d0 : wMa = runR B p (letR B e p)
  · rw [hlw, wix, if_pos d0]
    rw [bi_t d0] at k1
    simp (disch := first | exact jm_lt0 | (apply jm_ltx; (repeat (first | exact jw_0 | apply jw_i | apply jw_r | apply jw_l)); omega) | omega | assumption | exact sa_432 | exact n32_inA sb_432 (by omega) (by omega) | (refine n32_inA (by assumption) ?_ ?_ <;> omega) | exact bi01 | (rw [sa_432]; omega) | decide) only [sX12_clauseHere_0, sX12_clauseHere_1, sX12_clauseHere_3, sX12_clauseHere_6, sX12_clauseHere_9, sX12_clauseHere_11, sX12_clauseHere_12, sX12_clauseHere_13, sX12_clauseHere_16, sX12_clauseHere_17, sX12_clauseHere_18, sX12_clauseHere_20, sX12_clauseHere_23, sX12_clauseHere_26, sX12_clauseHere_27, sX12_clauseHere_29, sX12_clauseHere_32, sX12_clauseHere_35, sX12_clauseHere_36, sX12_clauseHere_38, sX12_clauseHere_41, sX12_clauseHere_44, sX12_clauseHere_45, sX12_clauseHere_47, sX12_clauseHere_50, sX12_clauseHere_53, sX12_clauseHere_54, sX12_clauseHere_56, sX12_clauseHere_59, sX12_clauseHere_62, sX12_clauseHere_63, sX12_clauseHere_65, sX12_clauseHere_68, sX12_clauseHere_71, sX12_clauseHere_72, sX12_clauseHere_74, sX12_clauseHere_77, sX12_clauseHere_80, sX12_clauseHere_81, sX12_clauseHere_83, sX12_clauseHere_86, kX12_clauseHere_89_AI, sX12_clauseHere_89, sX12_clauseHere_90, kX12_clauseHere_93_AI, sX12_clauseHere_93, kX12_clauseHere_94_NI, sX12_clauseHere_94, evK_n, evK_v, evK_x, gI_pI, gJ_pI, gR_pI, gI_pJ, gJ_pJ, gR_pJ, gI_pR, gJ_pR, gR_pR, if_true, if_false, not_true_eq_false, not_false_eq_true, and_true, true_and, and_false, false_and, and_self, or_true, true_or, or_false, false_or, or_self, ne_eq, Decidable.not_not, Nat.reduceEqDiff, Nat.reduceEqDiff, sa_432, sb_432, k1, show ¬ (Int32.ofNat 1 = 0) by decide]
    rfl
  rw [bi_f d0] at k1
  rw [hlw, wix, if_neg d0, wix]
  generalize hr : runR B p (letR B e p) = r at *
  by_cases d1 : ([99, 117, 112, 115] : List Nat) = r
  · have e1 := fin 1 _ (by decide) rfl (c1.mpr d1)
    rw [if_pos d1]
    simp (disch := first | exact jm_lt0 | (apply jm_ltx; (repeat (first | exact jw_0 | apply jw_i | apply jw_r | apply jw_l)); omega) | omega | assumption | exact sa_432 | exact n32_inA sb_432 (by omega) (by omega) | (refine n32_inA (by assumption) ?_ ?_ <;> omega) | exact bi01 | (rw [sa_432]; omega) | decide) only [sX12_clauseHere_0, sX12_clauseHere_1, sX12_clauseHere_3, sX12_clauseHere_6, sX12_clauseHere_9, sX12_clauseHere_11, sX12_clauseHere_12, sX12_clauseHere_13, sX12_clauseHere_16, sX12_clauseHere_17, sX12_clauseHere_18, sX12_clauseHere_20, sX12_clauseHere_23, sX12_clauseHere_26, sX12_clauseHere_27, sX12_clauseHere_29, sX12_clauseHere_32, sX12_clauseHere_35, sX12_clauseHere_36, sX12_clauseHere_38, sX12_clauseHere_41, sX12_clauseHere_44, sX12_clauseHere_45, sX12_clauseHere_47, sX12_clauseHere_50, sX12_clauseHere_53, sX12_clauseHere_54, sX12_clauseHere_56, sX12_clauseHere_59, sX12_clauseHere_62, sX12_clauseHere_63, sX12_clauseHere_65, sX12_clauseHere_68, sX12_clauseHere_71, sX12_clauseHere_72, sX12_clauseHere_74, sX12_clauseHere_77, sX12_clauseHere_80, sX12_clauseHere_81, sX12_clauseHere_83, sX12_clauseHere_86, kX12_clauseHere_89_AI, sX12_clauseHere_89, sX12_clauseHere_90, kX12_clauseHere_93_AI, sX12_clauseHere_93, kX12_clauseHere_94_NI, sX12_clauseHere_94, evK_n, evK_v, evK_x, gI_pI, gJ_pI, gR_pI, gI_pJ, gJ_pJ, gR_pJ, gI_pR, gJ_pR, gR_pR, if_true, if_false, not_true_eq_false, not_false_eq_true, and_true, true_and, and_false, false_and, and_self, or_true, true_or, or_false, false_or, or_self, ne_eq, Decidable.not_not, Nat.reduceEqDiff, Nat.reduceEqDiff, sa_432, sb_432, k1, z32, k3, of2, c1.trans (eq_true d1)]
    rw [e1]
    rfl
  rw [if_neg d1, wix]
  have n1 := c1.trans (eq_false d1)
  by_cases d2 : ([99, 97, 114, 100] : List Nat) = r
  · have e1 := fin 2 _ (by decide) rfl (c2.mpr d2)
    rw [if_pos d2]
    simp (disch := first | exact jm_lt0 | (apply jm_ltx; (repeat (first | exact jw_0 | apply jw_i | apply jw_r | apply jw_l)); omega) | omega | assumption | exact sa_432 | exact n32_inA sb_432 (by omega) (by omega) | (refine n32_inA (by assumption) ?_ ?_ <;> omega) | exact bi01 | (rw [sa_432]; omega) | decide) only [sX12_clauseHere_0, sX12_clauseHere_1, sX12_clauseHere_3, sX12_clauseHere_6, sX12_clauseHere_9, sX12_clauseHere_11, sX12_clauseHere_12, sX12_clauseHere_13, sX12_clauseHere_16, sX12_clauseHere_17, sX12_clauseHere_18, sX12_clauseHere_20, sX12_clauseHere_23, sX12_clauseHere_26, sX12_clauseHere_27, sX12_clauseHere_29, sX12_clauseHere_32, sX12_clauseHere_35, sX12_clauseHere_36, sX12_clauseHere_38, sX12_clauseHere_41, sX12_clauseHere_44, sX12_clauseHere_45, sX12_clauseHere_47, sX12_clauseHere_50, sX12_clauseHere_53, sX12_clauseHere_54, sX12_clauseHere_56, sX12_clauseHere_59, sX12_clauseHere_62, sX12_clauseHere_63, sX12_clauseHere_65, sX12_clauseHere_68, sX12_clauseHere_71, sX12_clauseHere_72, sX12_clauseHere_74, sX12_clauseHere_77, sX12_clauseHere_80, sX12_clauseHere_81, sX12_clauseHere_83, sX12_clauseHere_86, kX12_clauseHere_89_AI, sX12_clauseHere_89, sX12_clauseHere_90, kX12_clauseHere_93_AI, sX12_clauseHere_93, kX12_clauseHere_94_NI, sX12_clauseHere_94, evK_n, evK_v, evK_x, gI_pI, gJ_pI, gR_pI, gI_pJ, gJ_pJ, gR_pJ, gI_pR, gJ_pR, gR_pR, if_true, if_false, not_true_eq_false, not_false_eq_true, and_true, true_and, and_false, false_and, and_self, or_true, true_or, or_false, false_or, or_self, ne_eq, Decidable.not_not, Nat.reduceEqDiff, Nat.reduceEqDiff, sa_432, sb_432, k1, z32, k3, of2, of3, n1, c2.trans (eq_true d2)]
    rw [e1]
    rfl
  rw [if_neg d2, wix]
  have n2 := c2.trans (eq_false d2)
  by_cases d3 : ([102, 97, 108, 108] : List Nat) = r
  · have e1 := fin 3 _ (by decide) rfl (c3.mpr d3)
    rw [if_pos d3]
    simp (disch := first | exact jm_lt0 | (apply jm_ltx; (repeat (first | exact jw_0 | apply jw_i | apply jw_r | apply jw_l)); omega) | omega | assumption | exact sa_432 | exact n32_inA sb_432 (by omega) (by omega) | (refine n32_inA (by assumption) ?_ ?_ <;> omega) | exact bi01 | (rw [sa_432]; omega) | decide) only [sX12_clauseHere_0, sX12_clauseHere_1, sX12_clauseHere_3, sX12_clauseHere_6, sX12_clauseHere_9, sX12_clauseHere_11, sX12_clauseHere_12, sX12_clauseHere_13, sX12_clauseHere_16, sX12_clauseHere_17, sX12_clauseHere_18, sX12_clauseHere_20, sX12_clauseHere_23, sX12_clauseHere_26, sX12_clauseHere_27, sX12_clauseHere_29, sX12_clauseHere_32, sX12_clauseHere_35, sX12_clauseHere_36, sX12_clauseHere_38, sX12_clauseHere_41, sX12_clauseHere_44, sX12_clauseHere_45, sX12_clauseHere_47, sX12_clauseHere_50, sX12_clauseHere_53, sX12_clauseHere_54, sX12_clauseHere_56, sX12_clauseHere_59, sX12_clauseHere_62, sX12_clauseHere_63, sX12_clauseHere_65, sX12_clauseHere_68, sX12_clauseHere_71, sX12_clauseHere_72, sX12_clauseHere_74, sX12_clauseHere_77, sX12_clauseHere_80, sX12_clauseHere_81, sX12_clauseHere_83, sX12_clauseHere_86, kX12_clauseHere_89_AI, sX12_clauseHere_89, sX12_clauseHere_90, kX12_clauseHere_93_AI, sX12_clauseHere_93, kX12_clauseHere_94_NI, sX12_clauseHere_94, evK_n, evK_v, evK_x, gI_pI, gJ_pI, gR_pI, gI_pJ, gJ_pJ, gR_pJ, gI_pR, gJ_pR, gR_pR, if_true, if_false, not_true_eq_false, not_false_eq_true, and_true, true_and, and_false, false_and, and_self, or_true, true_or, or_false, false_or, or_self, ne_eq, Decidable.not_not, Nat.reduceEqDiff, Nat.reduceEqDiff, sa_432, sb_432, k1, z32, k3, of2, of3, of4, n1, n2, c3.trans (eq_true d3)]
    rw [e1]
    rfl
  rw [if_neg d3, wix]
  have n3 := c3.trans (eq_false d3)
  by_cases d4 : ([119, 97, 114, 109] : List Nat) = r
  · have e1 := fin 4 _ (by decide) rfl (c4.mpr d4)
    rw [if_pos d4]
    simp (disch := first | exact jm_lt0 | (apply jm_ltx; (repeat (first | exact jw_0 | apply jw_i | apply jw_r | apply jw_l)); omega) | omega | assumption | exact sa_432 | exact n32_inA sb_432 (by omega) (by omega) | (refine n32_inA (by assumption) ?_ ?_ <;> omega) | exact bi01 | (rw [sa_432]; omega) | decide) only [sX12_clauseHere_0, sX12_clauseHere_1, sX12_clauseHere_3, sX12_clauseHere_6, sX12_clauseHere_9, sX12_clauseHere_11, sX12_clauseHere_12, sX12_clauseHere_13, sX12_clauseHere_16, sX12_clauseHere_17, sX12_clauseHere_18, sX12_clauseHere_20, sX12_clauseHere_23, sX12_clauseHere_26, sX12_clauseHere_27, sX12_clauseHere_29, sX12_clauseHere_32, sX12_clauseHere_35, sX12_clauseHere_36, sX12_clauseHere_38, sX12_clauseHere_41, sX12_clauseHere_44, sX12_clauseHere_45, sX12_clauseHere_47, sX12_clauseHere_50, sX12_clauseHere_53, sX12_clauseHere_54, sX12_clauseHere_56, sX12_clauseHere_59, sX12_clauseHere_62, sX12_clauseHere_63, sX12_clauseHere_65, sX12_clauseHere_68, sX12_clauseHere_71, sX12_clauseHere_72, sX12_clauseHere_74, sX12_clauseHere_77, sX12_clauseHere_80, sX12_clauseHere_81, sX12_clauseHere_83, sX12_clauseHere_86, kX12_clauseHere_89_AI, sX12_clauseHere_89, sX12_clauseHere_90, kX12_clauseHere_93_AI, sX12_clauseHere_93, kX12_clauseHere_94_NI, sX12_clauseHere_94, evK_n, evK_v, evK_x, gI_pI, gJ_pI, gR_pI, gI_pJ, gJ_pJ, gR_pJ, gI_pR, gJ_pR, gR_pR, if_true, if_false, not_true_eq_false, not_false_eq_true, and_true, true_and, and_false, false_and, and_self, or_true, true_or, or_false, false_or, or_self, ne_eq, Decidable.not_not, Nat.reduceEqDiff, Nat.reduceEqDiff, sa_432, sb_432, k1, z32, k3, of2, of3, of4, of5, n1, n2, n3, c4.trans (eq_true d4)]
    rw [e1]
    rfl
  rw [if_neg d4, wix]
  have n4 := c4.trans (eq_false d4)
  by_cases d5 : ([115, 101, 101] : List Nat) = r
  · have e1 := fin 5 _ (by decide) rfl (c5.mpr d5)
    rw [if_pos d5]
    simp (disch := first | exact jm_lt0 | (apply jm_ltx; (repeat (first | exact jw_0 | apply jw_i | apply jw_r | apply jw_l)); omega) | omega | assumption | exact sa_432 | exact n32_inA sb_432 (by omega) (by omega) | (refine n32_inA (by assumption) ?_ ?_ <;> omega) | exact bi01 | (rw [sa_432]; omega) | decide) only [sX12_clauseHere_0, sX12_clauseHere_1, sX12_clauseHere_3, sX12_clauseHere_6, sX12_clauseHere_9, sX12_clauseHere_11, sX12_clauseHere_12, sX12_clauseHere_13, sX12_clauseHere_16, sX12_clauseHere_17, sX12_clauseHere_18, sX12_clauseHere_20, sX12_clauseHere_23, sX12_clauseHere_26, sX12_clauseHere_27, sX12_clauseHere_29, sX12_clauseHere_32, sX12_clauseHere_35, sX12_clauseHere_36, sX12_clauseHere_38, sX12_clauseHere_41, sX12_clauseHere_44, sX12_clauseHere_45, sX12_clauseHere_47, sX12_clauseHere_50, sX12_clauseHere_53, sX12_clauseHere_54, sX12_clauseHere_56, sX12_clauseHere_59, sX12_clauseHere_62, sX12_clauseHere_63, sX12_clauseHere_65, sX12_clauseHere_68, sX12_clauseHere_71, sX12_clauseHere_72, sX12_clauseHere_74, sX12_clauseHere_77, sX12_clauseHere_80, sX12_clauseHere_81, sX12_clauseHere_83, sX12_clauseHere_86, kX12_clauseHere_89_AI, sX12_clauseHere_89, sX12_clauseHere_90, kX12_clauseHere_93_AI, sX12_clauseHere_93, kX12_clauseHere_94_NI, sX12_clauseHere_94, evK_n, evK_v, evK_x, gI_pI, gJ_pI, gR_pI, gI_pJ, gJ_pJ, gR_pJ, gI_pR, gJ_pR, gR_pR, if_true, if_false, not_true_eq_false, not_false_eq_true, and_true, true_and, and_false, false_and, and_self, or_true, true_or, or_false, false_or, or_self, ne_eq, Decidable.not_not, Nat.reduceEqDiff, Nat.reduceEqDiff, sa_432, sb_432, k1, z32, k3, of2, of3, of4, of5, of6, n1, n2, n3, n4, c5.trans (eq_true d5)]
    rw [e1]
    rfl
  rw [if_neg d5, wix]
  have n5 := c5.trans (eq_false d5)
  by_cases d6 : ([99, 111, 115, 116] : List Nat) = r
  · have e1 := fin 6 _ (by decide) rfl (c6.mpr d6)
    rw [if_pos d6]
    simp (disch := first | exact jm_lt0 | (apply jm_ltx; (repeat (first | exact jw_0 | apply jw_i | apply jw_r | apply jw_l)); omega) | omega | assumption | exact sa_432 | exact n32_inA sb_432 (by omega) (by omega) | (refine n32_inA (by assumption) ?_ ?_ <;> omega) | exact bi01 | (rw [sa_432]; omega) | decide) only [sX12_clauseHere_0, sX12_clauseHere_1, sX12_clauseHere_3, sX12_clauseHere_6, sX12_clauseHere_9, sX12_clauseHere_11, sX12_clauseHere_12, sX12_clauseHere_13, sX12_clauseHere_16, sX12_clauseHere_17, sX12_clauseHere_18, sX12_clauseHere_20, sX12_clauseHere_23, sX12_clauseHere_26, sX12_clauseHere_27, sX12_clauseHere_29, sX12_clauseHere_32, sX12_clauseHere_35, sX12_clauseHere_36, sX12_clauseHere_38, sX12_clauseHere_41, sX12_clauseHere_44, sX12_clauseHere_45, sX12_clauseHere_47, sX12_clauseHere_50, sX12_clauseHere_53, sX12_clauseHere_54, sX12_clauseHere_56, sX12_clauseHere_59, sX12_clauseHere_62, sX12_clauseHere_63, sX12_clauseHere_65, sX12_clauseHere_68, sX12_clauseHere_71, sX12_clauseHere_72, sX12_clauseHere_74, sX12_clauseHere_77, sX12_clauseHere_80, sX12_clauseHere_81, sX12_clauseHere_83, sX12_clauseHere_86, kX12_clauseHere_89_AI, sX12_clauseHere_89, sX12_clauseHere_90, kX12_clauseHere_93_AI, sX12_clauseHere_93, kX12_clauseHere_94_NI, sX12_clauseHere_94, evK_n, evK_v, evK_x, gI_pI, gJ_pI, gR_pI, gI_pJ, gJ_pJ, gR_pJ, gI_pR, gJ_pR, gR_pR, if_true, if_false, not_true_eq_false, not_false_eq_true, and_true, true_and, and_false, false_and, and_self, or_true, true_or, or_false, false_or, or_self, ne_eq, Decidable.not_not, Nat.reduceEqDiff, Nat.reduceEqDiff, sa_432, sb_432, k1, z32, k3, of2, of3, of4, of5, of6, of7, n1, n2, n3, n4, n5, c6.trans (eq_true d6)]
    rw [e1]
    rfl
  rw [if_neg d6, wix]
  have n6 := c6.trans (eq_false d6)
  by_cases d7 : ([112, 101, 114, 115, 111, 110] : List Nat) = r
  · have e1 := fin 7 _ (by decide) rfl (c7.mpr d7)
    rw [if_pos d7]
    simp (disch := first | exact jm_lt0 | (apply jm_ltx; (repeat (first | exact jw_0 | apply jw_i | apply jw_r | apply jw_l)); omega) | omega | assumption | exact sa_432 | exact n32_inA sb_432 (by omega) (by omega) | (refine n32_inA (by assumption) ?_ ?_ <;> omega) | exact bi01 | (rw [sa_432]; omega) | decide) only [sX12_clauseHere_0, sX12_clauseHere_1, sX12_clauseHere_3, sX12_clauseHere_6, sX12_clauseHere_9, sX12_clauseHere_11, sX12_clauseHere_12, sX12_clauseHere_13, sX12_clauseHere_16, sX12_clauseHere_17, sX12_clauseHere_18, sX12_clauseHere_20, sX12_clauseHere_23, sX12_clauseHere_26, sX12_clauseHere_27, sX12_clauseHere_29, sX12_clauseHere_32, sX12_clauseHere_35, sX12_clauseHere_36, sX12_clauseHere_38, sX12_clauseHere_41, sX12_clauseHere_44, sX12_clauseHere_45, sX12_clauseHere_47, sX12_clauseHere_50, sX12_clauseHere_53, sX12_clauseHere_54, sX12_clauseHere_56, sX12_clauseHere_59, sX12_clauseHere_62, sX12_clauseHere_63, sX12_clauseHere_65, sX12_clauseHere_68, sX12_clauseHere_71, sX12_clauseHere_72, sX12_clauseHere_74, sX12_clauseHere_77, sX12_clauseHere_80, sX12_clauseHere_81, sX12_clauseHere_83, sX12_clauseHere_86, kX12_clauseHere_89_AI, sX12_clauseHere_89, sX12_clauseHere_90, kX12_clauseHere_93_AI, sX12_clauseHere_93, kX12_clauseHere_94_NI, sX12_clauseHere_94, evK_n, evK_v, evK_x, gI_pI, gJ_pI, gR_pI, gI_pJ, gJ_pJ, gR_pJ, gI_pR, gJ_pR, gR_pR, if_true, if_false, not_true_eq_false, not_false_eq_true, and_true, true_and, and_false, false_and, and_self, or_true, true_or, or_false, false_or, or_self, ne_eq, Decidable.not_not, Nat.reduceEqDiff, Nat.reduceEqDiff, sa_432, sb_432, k1, z32, k3, of2, of3, of4, of5, of6, of7, of8, n1, n2, n3, n4, n5, n6, c7.trans (eq_true d7)]
    rw [e1]
    rfl
  rw [if_neg d7, wix]
  have n7 := c7.trans (eq_false d7)
  by_cases d8 : ([99, 111, 109, 101, 115] : List Nat) = r
  · have e1 := fin 8 _ (by decide) rfl (c8.mpr d8)
    rw [if_pos d8]
    simp (disch := first | exact jm_lt0 | (apply jm_ltx; (repeat (first | exact jw_0 | apply jw_i | apply jw_r | apply jw_l)); omega) | omega | assumption | exact sa_432 | exact n32_inA sb_432 (by omega) (by omega) | (refine n32_inA (by assumption) ?_ ?_ <;> omega) | exact bi01 | (rw [sa_432]; omega) | decide) only [sX12_clauseHere_0, sX12_clauseHere_1, sX12_clauseHere_3, sX12_clauseHere_6, sX12_clauseHere_9, sX12_clauseHere_11, sX12_clauseHere_12, sX12_clauseHere_13, sX12_clauseHere_16, sX12_clauseHere_17, sX12_clauseHere_18, sX12_clauseHere_20, sX12_clauseHere_23, sX12_clauseHere_26, sX12_clauseHere_27, sX12_clauseHere_29, sX12_clauseHere_32, sX12_clauseHere_35, sX12_clauseHere_36, sX12_clauseHere_38, sX12_clauseHere_41, sX12_clauseHere_44, sX12_clauseHere_45, sX12_clauseHere_47, sX12_clauseHere_50, sX12_clauseHere_53, sX12_clauseHere_54, sX12_clauseHere_56, sX12_clauseHere_59, sX12_clauseHere_62, sX12_clauseHere_63, sX12_clauseHere_65, sX12_clauseHere_68, sX12_clauseHere_71, sX12_clauseHere_72, sX12_clauseHere_74, sX12_clauseHere_77, sX12_clauseHere_80, sX12_clauseHere_81, sX12_clauseHere_83, sX12_clauseHere_86, kX12_clauseHere_89_AI, sX12_clauseHere_89, sX12_clauseHere_90, kX12_clauseHere_93_AI, sX12_clauseHere_93, kX12_clauseHere_94_NI, sX12_clauseHere_94, evK_n, evK_v, evK_x, gI_pI, gJ_pI, gR_pI, gI_pJ, gJ_pJ, gR_pJ, gI_pR, gJ_pR, gR_pR, if_true, if_false, not_true_eq_false, not_false_eq_true, and_true, true_and, and_false, false_and, and_self, or_true, true_or, or_false, false_or, or_self, ne_eq, Decidable.not_not, Nat.reduceEqDiff, Nat.reduceEqDiff, sa_432, sb_432, k1, z32, k3, of2, of3, of4, of5, of6, of7, of8, of10, n1, n2, n3, n4, n5, n6, n7, c8.trans (eq_true d8)]
    rw [e1]
    rfl
  · have n8 := c8.trans (eq_false d8)
    rw [if_neg d8, wix]
    simp (disch := first | exact jm_lt0 | (apply jm_ltx; (repeat (first | exact jw_0 | apply jw_i | apply jw_r | apply jw_l)); omega) | omega | assumption | exact sa_432 | exact n32_inA sb_432 (by omega) (by omega) | (refine n32_inA (by assumption) ?_ ?_ <;> omega) | exact bi01 | (rw [sa_432]; omega) | decide) only [sX12_clauseHere_0, sX12_clauseHere_1, sX12_clauseHere_3, sX12_clauseHere_6, sX12_clauseHere_9, sX12_clauseHere_11, sX12_clauseHere_12, sX12_clauseHere_13, sX12_clauseHere_16, sX12_clauseHere_17, sX12_clauseHere_18, sX12_clauseHere_20, sX12_clauseHere_23, sX12_clauseHere_26, sX12_clauseHere_27, sX12_clauseHere_29, sX12_clauseHere_32, sX12_clauseHere_35, sX12_clauseHere_36, sX12_clauseHere_38, sX12_clauseHere_41, sX12_clauseHere_44, sX12_clauseHere_45, sX12_clauseHere_47, sX12_clauseHere_50, sX12_clauseHere_53, sX12_clauseHere_54, sX12_clauseHere_56, sX12_clauseHere_59, sX12_clauseHere_62, sX12_clauseHere_63, sX12_clauseHere_65, sX12_clauseHere_68, sX12_clauseHere_71, sX12_clauseHere_72, sX12_clauseHere_74, sX12_clauseHere_77, sX12_clauseHere_80, sX12_clauseHere_81, sX12_clauseHere_83, sX12_clauseHere_86, kX12_clauseHere_89_AI, sX12_clauseHere_89, sX12_clauseHere_90, kX12_clauseHere_93_AI, sX12_clauseHere_93, kX12_clauseHere_94_NI, sX12_clauseHere_94, evK_n, evK_v, evK_x, gI_pI, gJ_pI, gR_pI, gI_pJ, gJ_pJ, gR_pJ, gI_pR, gJ_pR, gR_pR, if_true, if_false, not_true_eq_false, not_false_eq_true, and_true, true_and, and_false, false_and, and_self, or_true, true_or, or_false, false_or, or_self, ne_eq, Decidable.not_not, Nat.reduceEqDiff, Nat.reduceEqDiff, sa_432, sb_432, k1, z32, k3, of2, of3, of4, of5, of6, of7, of8, of10, n1, n2, n3, n4, n5, n6, n7, n8]
    rfl
end OW
