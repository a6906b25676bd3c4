/-! another world, on both sides -/
section CE0
variable {g : fm_g} {d c ver : Nat} {w : WD} {G : GS} {s t : fm_S}
def wHs (w : WD) (p : Nat) (b : HB) : WD := (wT w, wP w, wn w, wW w, wM w, fun q => if q = p then b else wH w q, wl w, wB w)
theorem wHs_ok {p : Nat} {b : HB} (hw : wOK w) (hb : hOK b) : wOK (wHs w p b) := ⟨hw.1, hw.2.1, hw.2.2.1, hw.2.2.2.1, fun q hq => by
  show hOK (if q = p then b else wH w q)
  split
  · exact hb
  · exact hw.2.2.2.2.1 q hq, hw.2.2.2.2.2.1, hw.2.2.2.2.2.2⟩
theorem hcl_r {p : Nat} : 54 ≤ hcl p ∧ (p < 7 → hcl p = 54 ∨ (65 ≤ hcl p ∧ hcl p ≤ 100)) := by unfold hcl; split <;> omega
theorem hcl_ne {p q : Nat} (hp : p < 7) (hq : q < 7) (h : q ≠ p) : hcl q ≠ hcl p := by unfold hcl; split <;> split <;> omega
theorem CW.hab {s' : fm_S} {p : Nat} {b : HB} (h : CW s w) (hw : wOK w) (hp : p < 7) (x : HC s' (hcl p) b) (e : ∀ c j, 5 ≤ c → c < 107 → ¬ pCp (hcl p) c j → gI s' c j = gI s c j) : CW s' (wHs w p b) := by
  obtain ⟨a1, a2, ⟨c, a3⟩, a4, a5, a6⟩ := h
  have hr := hcl_r (p := p)
  have hr2 := hr.2 hp
  have e' : ∀ c j, 5 ≤ c → c < 54 ∨ (60 < c ∧ c < 65) → gI s' c j = gI s c j := fun c j h1 h2 => e c j h1 (by omega) (by unfold pCp; omega)
  refine ⟨fun i hi => by rw [e' _ _ (by omega) (by omega), a1 i hi]; rfl, fun i hi => by rw [e' _ _ (by omega) (by omega), a2 i hi]; rfl, ⟨c, ?_⟩, fun q hq => ?_, by rw [e' _ _ (by omega) (by omega), a5]; rfl, fun i hi => ?_⟩
  · obtain ⟨d1, d2, d3, d4, d5⟩ := a3
    refine ⟨by rw [e' _ _ (by omega) (by omega), d1], d2, by rw [e' _ _ (by omega) (by omega), d3]; rfl, d4, fun v hv => ?_⟩
    obtain ⟨⟨k1, k2⟩, k3, k4⟩ := d5 v hv
    exact ⟨⟨by rw [e' _ _ (by omega) (by omega), k1]; rfl, k2⟩, by rw [e' _ _ (by omega) (by omega), k3]; rfl, k4⟩
  · show HC s' (hcl q) (if q = p then b else wH w q)
    by_cases cq : q = p
    · rw [if_pos cq, cq]; exact x
    · rw [if_neg cq]
      have far := hbL_far (hcl_in hq) (hcl_in hp) (hcl_ne hp hq cq)
      have hrq := (hcl_r (p := q)).2 hq
      exact (a4 q hq).of (fun c j hc => e c j (by omega) (by omega) (by unfold pCp; omega))
  · obtain ⟨b1, b2, b3⟩ := a6 i hi
    exact ⟨by rw [e' _ _ (by omega) (by omega), b1]; rfl, by rw [e' _ _ (by omega) (by omega), b2]; rfl, by rw [e' _ _ (by omega) (by omega), b3]; rfl⟩
theorem MW.hab {t' : fm_S} {p : Nat} {b : HB} (h : MW t w) (hw : wOK w) (hp : p < 7) (x : HM t' p b) (e : ∀ b j, (b = 436 ∨ b = 439 ∨ b = 440 ∨ (445 ≤ b ∧ b ≤ 448) ∨ b = 450 ∨ (b = 432 ∧ (j = 18 ∨ j = 19 ∨ j = 32))) → ¬ pTo p b j → gI t' b j = gI t b j) : MW t' (wHs w p b) := by
  obtain ⟨a1, a2, a3, ⟨a4, a5, a6⟩, a7, a8, a9⟩ := h
  have e' : ∀ b j, (b = 436 ∨ b = 439 ∨ b = 440 ∨ b = 450 ∨ (b = 432 ∧ (j = 18 ∨ j = 19 ∨ j = 32))) → gI t' b j = gI t b j := fun b j h => e b j (by omega) (by unfold pTo; omega)
  refine ⟨fun i hi => by rw [e' _ _ (by omega), a1 i hi]; rfl, fun i hi => by rw [e' _ _ (by omega), a2 i hi]; rfl, by rw [e' _ _ (by omega), a3]; rfl, ⟨by rw [e' _ _ (by omega), a4]; rfl, a5, fun v hv => ?_⟩, fun q hq => ?_, by rw [e' _ _ (by omega), a8]; rfl, fun i hi => ?_⟩
  · obtain ⟨⟨k1, k2⟩, k3, k4⟩ := a6 v hv
    exact ⟨⟨by rw [e' _ _ (by omega), k1]; rfl, k2⟩, by rw [e' _ _ (by omega), k3]; rfl, k4⟩
  · show HM t' q (if q = p then b else wH w q)
    by_cases cq : q = p
    · rw [if_pos cq, cq]; exact x
    · rw [if_neg cq]
      obtain ⟨o1, o2, -⟩ := hw.2.2.2.2.1 q hq
      obtain ⟨b1, b2, b3⟩ := a7 q hq
      refine ⟨by rw [e _ _ (by omega) (by unfold pTo; omega), b1], fun i hi => ?_, fun i hi => ?_⟩
      · obtain ⟨c1, c2, c3, c4⟩ := b2 i hi
        exact ⟨by rw [e _ _ (by omega) (by unfold pTo; omega), c1], by rw [e _ _ (by omega) (by unfold pTo; omega), c2], by rw [e _ _ (by omega) (by unfold pTo; omega), c3], by rw [e _ _ (by omega) (by unfold pTo; omega), c4]⟩
      · obtain ⟨c1, c2⟩ := b3 i hi
        exact ⟨by rw [e _ _ (by omega) (by unfold pTo; omega), c1], by rw [e _ _ (by omega) (by unfold pTo; omega), c2]⟩
  · obtain ⟨b1, b2, b3⟩ := a9 i hi
    exact ⟨by rw [e' _ _ (by omega), b1]; rfl, by rw [e' _ _ (by omega), b2]; rfl, by rw [e' _ _ (by omega), b3]; rfl⟩
theorem CI.new {s' : fm_S} {w' : WD} {G' : GS} (h : CI s w G ver) (hv : ver + 1 < 100000) (hF' : FX s') (hw' : wOK w') (hCW : CW s' w') (e : ∀ b j, (306 ≤ b ∧ b < 428) → ¬ (b = 306 ∧ j = 1) → gI s' b j = gI s b j) (ej : ∀ b j, 306 ≤ b → b < 428 → gJ s' b j = gJ s b j) (er : ∀ j, j = 8 ∨ j = 9 → gR s' 307 j = gR s 307 j) (e1 : gI s' 306 1 = Int32.ofNat (ver + 1)) (hCG : CG s' G') : CI s' w' G' (ver + 1) := by
  obtain ⟨⟨h1, h2, h3, h4, h5⟩, h6⟩ := h
  refine ⟨⟨hF', h2.of (fun b j hb => ⟨e _ _ (by omega) (by omega), ej _ _ (by omega) (by omega)⟩) er, hCW, hw', ?_⟩, hCG⟩
  have h7 := h5.forget (w' := w') hv
  refine h7.of hw' (fun j => ?_) (fun j => ?_) (fun j => ?_) (fun b j hb => ?_)
  · rw [gI_pI]
    by_cases c : j = 1
    · rw [if_pos ⟨rfl, c⟩, c, e1]
    · rw [if_neg (by omega), e _ _ (by omega) (by omega)]
  · rw [gI_pI, if_neg (by omega), e _ _ (by omega) (by omega)]
  · rw [gI_pI, if_neg (by omega), e _ _ (by omega) (by omega)]
  · rw [gJ_pI, ej _ _ (by omega) (by omega)]
theorem MI.new {t' : fm_S} {w' : WD} {G' : GS} (h : MI t w G) (hF' : FX t') (e : ∀ b j, (b = 432 ∧ (j = 35 ∨ j = 36)) ∨ b = 451 ∨ b = 452 → gI t' b j = gI t b j) (e2 : ∀ b j, b = 453 ∨ b = 454 → gJ t' b j = gJ t b j) (hMW : MW t' w') (hMG : MG t' G') : MI t' w' G' := ⟨hF', h.2.1.of e e2, hMW, hMG⟩
/-- a HABIT copied onto itself -/
theorem c5_self {h : Nat} {b : HB} (hF : FX s) (hh : h ∈ hbL) (hb : hOK b) (hC : HC s h b) : ev g d mX5_copy 0 [some (.ref h), some (.ref h), none] [] s = some (.inl none, s) := by
  obtain ⟨z0, z1, z1', z2, z2', z3, z3', z4, z4', z5, z5', -⟩ := hS_of hh
  obtain ⟨r1, r2, r3, r4, r5, -⟩ := hR_of hF hh
  obtain ⟨c1, c2, c3, c4⟩ := hC
  obtain ⟨o1, o2, -⟩ := hb
  have l1 : ∀ m k, k + m = 8 → ev g d mX5_copy 18 [some (.ref h), some (.ref h), some (.int (Int32.ofNat k))] [] s = ev g d mX5_copy 80 [some (.ref h), some (.ref h), some (.int (Int32.ofNat 0))] [] s := by
    intro m
    induction m with
    | zero =>
      intro k hk
      have hk8 : k = 8 := by omega
      subst hk8
      rw [sX5_copy_18]
      simp (disch := first | exact jm_lt0 | (apply jm_ltx; (repeat (first | exact jw_0 | apply jw_i | apply jw_r | apply jw_l)); omega) | omega | assumption | (refine n32_inA (by assumption) ?_ ?_ <;> omega) | exact bi01 | decide) only [sX5_copy_0, sX5_copy_1, sX5_copy_2, sX5_copy_5, sX5_copy_8, sX5_copy_9, sX5_copy_10, sX5_copy_13, sX5_copy_16, sX5_copy_17, sX5_copy_19, sX5_copy_21, sX5_copy_24, sX5_copy_25, sX5_copy_28, sX5_copy_29, sX5_copy_30, sX5_copy_33, sX5_copy_34, sX5_copy_35, sX5_copy_36, sX5_copy_37, sX5_copy_40, sX5_copy_41, sX5_copy_42, sX5_copy_45, sX5_copy_46, sX5_copy_47, sX5_copy_48, sX5_copy_49, sX5_copy_52, sX5_copy_53, sX5_copy_54, sX5_copy_57, sX5_copy_58, sX5_copy_59, sX5_copy_60, sX5_copy_61, sX5_copy_64, sX5_copy_65, sX5_copy_66, sX5_copy_69, sX5_copy_70, sX5_copy_71, sX5_copy_72, sX5_copy_75, kX5_copy_78_AAI, sX5_copy_78, sX5_copy_79, sX5_copy_81, sX5_copy_82, sX5_copy_85, sX5_copy_88, sX5_copy_89, sX5_copy_92, sX5_copy_95, sX5_copy_96, sX5_copy_99, sX5_copy_100, sX5_copy_101, sX5_copy_104, sX5_copy_105, sX5_copy_106, sX5_copy_107, sX5_copy_110, kX5_copy_113_AAI, sX5_copy_113, evK_n, evK_v, evK_x, gI_pI, gJ_pI, gR_pI, gI_pJ, gJ_pJ, gR_pJ, gI_pR, gJ_pR, gR_pR, n32_le, n32_lt, n32_add, n32_mul, n32_cl, if_true, if_false, not_true_eq_false, not_false_eq_true, and_true, true_and, and_false, false_and, and_self, or_true, true_or, or_false, false_or, or_self, ne_eq, Decidable.not_not, Nat.reduceEqDiff, Nat.reduceEqDiff, Nat.le_refl]
    | succ m ih =>
      intro k hk
      have g1 : ¬ 8 ≤ k := by omega
      have n1 : ¬ h + 1 = h := by omega
      have n2 : ¬ h + 2 = h := by omega
      have n3 : ¬ h + 3 = h := by omega
      have ps : ∀ c, pI s c k (gI s c k) = s := fun c => pI_self rfl
      refine Eq.trans ?_ (ih (k + 1) (by omega))
      rw [sX5_copy_18]
      simp (disch := first | exact jm_lt0 | (apply jm_ltx; (repeat (first | exact jw_0 | apply jw_i | apply jw_r | apply jw_l)); omega) | omega | assumption | (refine n32_inA (by assumption) ?_ ?_ <;> omega) | exact bi01 | decide) only [sX5_copy_0, sX5_copy_1, sX5_copy_2, sX5_copy_5, sX5_copy_8, sX5_copy_9, sX5_copy_10, sX5_copy_13, sX5_copy_16, sX5_copy_17, sX5_copy_19, sX5_copy_21, sX5_copy_24, sX5_copy_25, sX5_copy_28, sX5_copy_29, sX5_copy_30, sX5_copy_33, sX5_copy_34, sX5_copy_35, sX5_copy_36, sX5_copy_37, sX5_copy_40, sX5_copy_41, sX5_copy_42, sX5_copy_45, sX5_copy_46, sX5_copy_47, sX5_copy_48, sX5_copy_49, sX5_copy_52, sX5_copy_53, sX5_copy_54, sX5_copy_57, sX5_copy_58, sX5_copy_59, sX5_copy_60, sX5_copy_61, sX5_copy_64, sX5_copy_65, sX5_copy_66, sX5_copy_69, sX5_copy_70, sX5_copy_71, sX5_copy_72, sX5_copy_75, kX5_copy_78_AAI, sX5_copy_78, sX5_copy_79, sX5_copy_81, sX5_copy_82, sX5_copy_85, sX5_copy_88, sX5_copy_89, sX5_copy_92, sX5_copy_95, sX5_copy_96, sX5_copy_99, sX5_copy_100, sX5_copy_101, sX5_copy_104, sX5_copy_105, sX5_copy_106, sX5_copy_107, sX5_copy_110, kX5_copy_113_AAI, sX5_copy_113, evK_n, evK_v, evK_x, gI_pI, gJ_pI, gR_pI, gI_pJ, gJ_pJ, gR_pJ, gI_pR, gJ_pR, gR_pR, n32_le, n32_lt, n32_add, n32_mul, n32_cl, if_true, if_false, not_true_eq_false, not_false_eq_true, and_true, true_and, and_false, false_and, and_self, or_true, true_or, or_false, false_or, or_self, ne_eq, Decidable.not_not, Nat.reduceEqDiff, Nat.reduceEqDiff, z0, z1, z1', z2, z2', z3, z3', z4, z4', r1, r2, r3, r4, g1, n1, n2, n3, ps]
  have l2 : ∀ m k, k + m = hbN b → ev g d mX5_copy 80 [some (.ref h), some (.ref h), some (.int (Int32.ofNat k))] [] s = some (.inl none, s) := by
    intro m
    induction m with
    | zero =>
      intro k hk
      have hkn : k = hbN b := by omega
      subst hkn
      rw [sX5_copy_80]
      simp (disch := first | exact jm_lt0 | (apply jm_ltx; (repeat (first | exact jw_0 | apply jw_i | apply jw_r | apply jw_l)); omega) | omega | assumption | (refine n32_inA (by assumption) ?_ ?_ <;> omega) | exact bi01 | decide) only [sX5_copy_0, sX5_copy_1, sX5_copy_2, sX5_copy_5, sX5_copy_8, sX5_copy_9, sX5_copy_10, sX5_copy_13, sX5_copy_16, sX5_copy_17, sX5_copy_19, sX5_copy_21, sX5_copy_24, sX5_copy_25, sX5_copy_28, sX5_copy_29, sX5_copy_30, sX5_copy_33, sX5_copy_34, sX5_copy_35, sX5_copy_36, sX5_copy_37, sX5_copy_40, sX5_copy_41, sX5_copy_42, sX5_copy_45, sX5_copy_46, sX5_copy_47, sX5_copy_48, sX5_copy_49, sX5_copy_52, sX5_copy_53, sX5_copy_54, sX5_copy_57, sX5_copy_58, sX5_copy_59, sX5_copy_60, sX5_copy_61, sX5_copy_64, sX5_copy_65, sX5_copy_66, sX5_copy_69, sX5_copy_70, sX5_copy_71, sX5_copy_72, sX5_copy_75, kX5_copy_78_AAI, sX5_copy_78, sX5_copy_79, sX5_copy_81, sX5_copy_82, sX5_copy_85, sX5_copy_88, sX5_copy_89, sX5_copy_92, sX5_copy_95, sX5_copy_96, sX5_copy_99, sX5_copy_100, sX5_copy_101, sX5_copy_104, sX5_copy_105, sX5_copy_106, sX5_copy_107, sX5_copy_110, kX5_copy_113_AAI, sX5_copy_113, evK_n, evK_v, evK_x, gI_pI, gJ_pI, gR_pI, gI_pJ, gJ_pJ, gR_pJ, gI_pR, gJ_pR, gR_pR, n32_le, n32_lt, n32_add, n32_mul, n32_cl, if_true, if_false, not_true_eq_false, not_false_eq_true, and_true, true_and, and_false, false_and, and_self, or_true, true_or, or_false, false_or, or_self, ne_eq, Decidable.not_not, Nat.reduceEqDiff, Nat.reduceEqDiff, z0, c2]
      rw [if_pos (Nat.le_refl _)]
    | succ m ih =>
      intro k hk
      have g1 : ¬ hbN b ≤ k := by omega
      have g2 : ¬ 150 ≤ k := by omega
      have ps : ∀ c, pI s c k (gI s c k) = s := fun c => pI_self rfl
      refine Eq.trans ?_ (ih (k + 1) (by omega))
      rw [sX5_copy_80]
      simp (disch := first | exact jm_lt0 | (apply jm_ltx; (repeat (first | exact jw_0 | apply jw_i | apply jw_r | apply jw_l)); omega) | omega | assumption | (refine n32_inA (by assumption) ?_ ?_ <;> omega) | exact bi01 | decide) only [sX5_copy_0, sX5_copy_1, sX5_copy_2, sX5_copy_5, sX5_copy_8, sX5_copy_9, sX5_copy_10, sX5_copy_13, sX5_copy_16, sX5_copy_17, sX5_copy_19, sX5_copy_21, sX5_copy_24, sX5_copy_25, sX5_copy_28, sX5_copy_29, sX5_copy_30, sX5_copy_33, sX5_copy_34, sX5_copy_35, sX5_copy_36, sX5_copy_37, sX5_copy_40, sX5_copy_41, sX5_copy_42, sX5_copy_45, sX5_copy_46, sX5_copy_47, sX5_copy_48, sX5_copy_49, sX5_copy_52, sX5_copy_53, sX5_copy_54, sX5_copy_57, sX5_copy_58, sX5_copy_59, sX5_copy_60, sX5_copy_61, sX5_copy_64, sX5_copy_65, sX5_copy_66, sX5_copy_69, sX5_copy_70, sX5_copy_71, sX5_copy_72, sX5_copy_75, kX5_copy_78_AAI, sX5_copy_78, sX5_copy_79, sX5_copy_81, sX5_copy_82, sX5_copy_85, sX5_copy_88, sX5_copy_89, sX5_copy_92, sX5_copy_95, sX5_copy_96, sX5_copy_99, sX5_copy_100, sX5_copy_101, sX5_copy_104, sX5_copy_105, sX5_copy_106, sX5_copy_107, sX5_copy_110, kX5_copy_113_AAI, sX5_copy_113, evK_n, evK_v, evK_x, gI_pI, gJ_pI, gR_pI, gI_pJ, gJ_pJ, gR_pJ, gI_pR, gJ_pR, gR_pR, n32_le, n32_lt, n32_add, n32_mul, n32_cl, if_true, if_false, not_true_eq_false, not_false_eq_true, and_true, true_and, and_false, false_and, and_self, or_true, true_or, or_false, false_or, or_self, ne_eq, Decidable.not_not, Nat.reduceEqDiff, Nat.reduceEqDiff, z0, z5, z5', r5, c2, g1, g2, ps]
  refine Eq.trans ?_ ((l1 8 0 rfl).trans (l2 (hbN b) 0 (by omega)))
  simp (disch := first | exact jm_lt0 | (apply jm_ltx; (repeat (first | exact jw_0 | apply jw_i | apply jw_r | apply jw_l)); omega) | omega | assumption | (refine n32_inA (by assumption) ?_ ?_ <;> omega) | exact bi01 | decide) only [sX5_copy_0, sX5_copy_1, sX5_copy_2, sX5_copy_5, sX5_copy_8, sX5_copy_9, sX5_copy_10, sX5_copy_13, sX5_copy_16, sX5_copy_17, sX5_copy_19, sX5_copy_21, sX5_copy_24, sX5_copy_25, sX5_copy_28, sX5_copy_29, sX5_copy_30, sX5_copy_33, sX5_copy_34, sX5_copy_35, sX5_copy_36, sX5_copy_37, sX5_copy_40, sX5_copy_41, sX5_copy_42, sX5_copy_45, sX5_copy_46, sX5_copy_47, sX5_copy_48, sX5_copy_49, sX5_copy_52, sX5_copy_53, sX5_copy_54, sX5_copy_57, sX5_copy_58, sX5_copy_59, sX5_copy_60, sX5_copy_61, sX5_copy_64, sX5_copy_65, sX5_copy_66, sX5_copy_69, sX5_copy_70, sX5_copy_71, sX5_copy_72, sX5_copy_75, kX5_copy_78_AAI, sX5_copy_78, sX5_copy_79, sX5_copy_81, sX5_copy_82, sX5_copy_85, sX5_copy_88, sX5_copy_89, sX5_copy_92, sX5_copy_95, sX5_copy_96, sX5_copy_99, sX5_copy_100, sX5_copy_101, sX5_copy_104, sX5_copy_105, sX5_copy_106, sX5_copy_107, sX5_copy_110, kX5_copy_113_AAI, sX5_copy_113, evK_n, evK_v, evK_x, gI_pI, gJ_pI, gR_pI, gI_pJ, gJ_pJ, gR_pJ, gI_pR, gJ_pR, gR_pR, n32_le, n32_lt, n32_add, n32_mul, n32_cl, if_true, if_false, not_true_eq_false, not_false_eq_true, and_true, true_and, and_false, false_and, and_self, or_true, true_or, or_false, false_or, or_self, ne_eq, Decidable.not_not, Nat.reduceEqDiff, Nat.reduceEqDiff, z0, show ∀ j, pI s h j (gI s h j) = s from fun j => pI_self rfl]
theorem c5_any {h h' : Nat} {b : HB} (hF : FX s) (hh : h ∈ hbL) (hh' : h' ∈ hbL) (hb : hOK b) (hC : HC s h' b) : ∃ s', ev g d mX5_copy 0 [some (.ref h), some (.ref h'), none] [] s = some (.inl none, s') ∧ FM (pCp h) nO s s' ∧ HC s' h b := by
  by_cases hne : h = h'
  · subst hne
    exact ⟨s, c5_self hF hh hb hC, FM.rf, hC⟩
  · exact c5_copy hF hh hh' hne hb hC
theorem m_teach1 {p o : Nat} {t0 : fm_S} (hF : FX t0) (hp : p < 6) (ho : o < 6) : ∀ (m k : Nat) (t : fm_S), k + m = 32 → FM (fun b j => b = 447 ∧ 32 * p ≤ j ∧ j < 32 * p + k) nO t0 t → (∀ j, j < k → gI t 447 (32 * p + j) = gI t0 447 (32 * o + j)) → ∃ t', ev g d mX12_teach 39 [some (.ref (432 : Nat)), some (.int (Int32.ofNat p)), some (.int (Int32.ofNat o)), some (.int (Int32.ofNat k))] [] t = ev g d mX12_teach 75 [some (.ref (432 : Nat)), some (.int (Int32.ofNat p)), some (.int (Int32.ofNat o)), some (.int (Int32.ofNat 0))] [] t' ∧ FM (fun b j => b = 447 ∧ 32 * p ≤ j ∧ j < 32 * p + 32) nO t0 t' ∧ ∀ j, j < 32 → gI t' 447 (32 * p + j) = gI t0 447 (32 * o + j) := by
  intro m
  induction m with
  | zero =>
    intro k t hk hM hJ
    have hil : k = 32 := by omega
    subst hil
    refine ⟨t, ?_, hM, hJ⟩
    rw [sX12_teach_39]
    simp (disch := first | exact jm_lt0 | (apply jm_ltx; (repeat (first | exact jw_0 | apply jw_i | apply jw_r | apply jw_l)); omega) | omega | assumption | exact sa_432 | exact n32_inA sb_432 (by omega) (by omega) | (refine n32_inA (by assumption) ?_ ?_ <;> omega) | exact bi01 | (rw [sa_432]; omega) | decide) only [sX12_teach_0, sX12_teach_1, sX12_teach_2, sX12_teach_5, sX12_teach_6, sX12_teach_7, sX12_teach_8, sX12_teach_11, sX12_teach_14, sX12_teach_15, sX12_teach_16, sX12_teach_17, sX12_teach_20, kX12_teach_23_AIIN, sX12_teach_23, sX12_teach_24, sX12_teach_25, sX12_teach_26, sX12_teach_29, sX12_teach_30, sX12_teach_31, sX12_teach_34, sX12_teach_35, sX12_teach_36, sX12_teach_37, sX12_teach_38, sX12_teach_40, sX12_teach_42, sX12_teach_45, sX12_teach_46, sX12_teach_49, sX12_teach_51, sX12_teach_52, sX12_teach_53, sX12_teach_54, sX12_teach_55, sX12_teach_56, sX12_teach_59, sX12_teach_61, sX12_teach_62, sX12_teach_63, sX12_teach_64, sX12_teach_65, sX12_teach_66, sX12_teach_67, sX12_teach_70, kX12_teach_73_AIII, sX12_teach_73, sX12_teach_74, sX12_teach_76, sX12_teach_79, sX12_teach_82, sX12_teach_83, sX12_teach_86, sX12_teach_89, sX12_teach_90, sX12_teach_91, sX12_teach_92, sX12_teach_93, sX12_teach_94, sX12_teach_97, sX12_teach_100, sX12_teach_101, sX12_teach_102, sX12_teach_103, sX12_teach_104, sX12_teach_105, sX12_teach_106, sX12_teach_107, sX12_teach_110, sX12_teach_113, sX12_teach_114, sX12_teach_115, sX12_teach_116, sX12_teach_117, sX12_teach_118, sX12_teach_121, sX12_teach_124, sX12_teach_125, sX12_teach_126, sX12_teach_127, sX12_teach_128, sX12_teach_129, sX12_teach_130, sX12_teach_133, kX12_teach_136_AIII, sX12_teach_136, sX12_teach_137, sX12_teach_140, sX12_teach_141, sX12_teach_142, evK_n, evK_v, evK_x, gI_pI, gJ_pI, gR_pI, gI_pJ, gJ_pJ, gR_pJ, gI_pR, gJ_pR, gR_pR, n32_le, n32_lt, n32_add, n32_mul, n32_cl, if_true, if_false, not_true_eq_false, not_false_eq_true, and_true, true_and, and_false, false_and, and_self, or_true, true_or, or_false, false_or, or_self, ne_eq, Decidable.not_not, Nat.reduceEqDiff, Nat.reduceEqDiff, Nat.le_refl]
  | succ m ih =>
    intro k t hk hM hJ
    have hFs := hM.fx hF
    have r26 := hFs.u 432 26 447 (by decide +kernel)
    have g1 : ¬ 32 ≤ k := by omega
    have b1 : 32 * p + k < 224 := by omega
    have b2 : 32 * o + k < 224 := by omega
    have sr : gI t 447 (32 * o + k) = gI t0 447 (32 * o + k) := hM.2.1 _ _ (by omega)
    obtain ⟨t', f1, f2, f3⟩ := ih (k + 1) (pI t 447 (32 * p + k) (gI t 447 (32 * o + k))) (by omega) ((hM.mono (fun b j q => by omega) (fun _ _ q => q)).tr (FM.pI (by omega))) (fun j hj => by
      by_cases cj : j = k
      · rw [cj, gI_pI, if_pos ⟨rfl, rfl⟩, sr]
      · rw [gI_pI, if_neg (by omega), hJ j (by omega)])
    refine ⟨t', ?_, f2, f3⟩
    rw [sX12_teach_39]
    simp (disch := first | exact jm_lt0 | (apply jm_ltx; (repeat (first | exact jw_0 | apply jw_i | apply jw_r | apply jw_l)); omega) | omega | assumption | exact sa_432 | exact sa_447 | exact n32_inA sb_432 (by omega) (by omega) | exact n32_inA sb_447 (by omega) (by omega) | (refine n32_inA (by assumption) ?_ ?_ <;> omega) | exact bi01 | (rw [sa_432]; omega) | (rw [sa_447]; omega) | decide) only [sX12_teach_0, sX12_teach_1, sX12_teach_2, sX12_teach_5, sX12_teach_6, sX12_teach_7, sX12_teach_8, sX12_teach_11, sX12_teach_14, sX12_teach_15, sX12_teach_16, sX12_teach_17, sX12_teach_20, kX12_teach_23_AIIN, sX12_teach_23, sX12_teach_24, sX12_teach_25, sX12_teach_26, sX12_teach_29, sX12_teach_30, sX12_teach_31, sX12_teach_34, sX12_teach_35, sX12_teach_36, sX12_teach_37, sX12_teach_38, sX12_teach_40, sX12_teach_42, sX12_teach_45, sX12_teach_46, sX12_teach_49, sX12_teach_51, sX12_teach_52, sX12_teach_53, sX12_teach_54, sX12_teach_55, sX12_teach_56, sX12_teach_59, sX12_teach_61, sX12_teach_62, sX12_teach_63, sX12_teach_64, sX12_teach_65, sX12_teach_66, sX12_teach_67, sX12_teach_70, kX12_teach_73_AIII, sX12_teach_73, sX12_teach_74, sX12_teach_76, sX12_teach_79, sX12_teach_82, sX12_teach_83, sX12_teach_86, sX12_teach_89, sX12_teach_90, sX12_teach_91, sX12_teach_92, sX12_teach_93, sX12_teach_94, sX12_teach_97, sX12_teach_100, sX12_teach_101, sX12_teach_102, sX12_teach_103, sX12_teach_104, sX12_teach_105, sX12_teach_106, sX12_teach_107, sX12_teach_110, sX12_teach_113, sX12_teach_114, sX12_teach_115, sX12_teach_116, sX12_teach_117, sX12_teach_118, sX12_teach_121, sX12_teach_124, sX12_teach_125, sX12_teach_126, sX12_teach_127, sX12_teach_128, sX12_teach_129, sX12_teach_130, sX12_teach_133, kX12_teach_136_AIII, sX12_teach_136, sX12_teach_137, sX12_teach_140, sX12_teach_141, sX12_teach_142, evK_n, evK_v, evK_x, gI_pI, gJ_pI, gR_pI, gI_pJ, gJ_pJ, gR_pJ, gI_pR, gJ_pR, gR_pR, n32_le, n32_lt, n32_add, n32_mul, n32_cl, if_true, if_false, not_true_eq_false, not_false_eq_true, and_true, true_and, and_false, false_and, and_self, or_true, true_or, or_false, false_or, or_self, ne_eq, Decidable.not_not, Nat.reduceEqDiff, Nat.reduceEqDiff, sa_432, sb_432, sa_447, sb_447, r26, g1, b1, b2]
    exact f1
theorem m_teach2 {p o : Nat} {t0 : fm_S} (hF : FX t0) (hp : p < 6) (ho : o < 6) : ∀ (m k : Nat) (t : fm_S), k + m = 150 → FM (fun b j => (b = 445 ∨ b = 446) ∧ 150 * p ≤ j ∧ j < 150 * p + k) nO t0 t → (∀ j, j < k → gI t 445 (150 * p + j) = gI t0 445 (150 * o + j) ∧ gI t 446 (150 * p + j) = gI t0 446 (150 * o + j)) → ∃ t', ev g d mX12_teach 75 [some (.ref (432 : Nat)), some (.int (Int32.ofNat p)), some (.int (Int32.ofNat o)), some (.int (Int32.ofNat k))] [] t = some (.inl (some (.int (gI t0 448 p))), t') ∧ FM (fun b j => (b = 445 ∨ b = 446) ∧ 150 * p ≤ j ∧ j < 150 * p + 150) nO t0 t' ∧ ∀ j, j < 150 → gI t' 445 (150 * p + j) = gI t0 445 (150 * o + j) ∧ gI t' 446 (150 * p + j) = gI t0 446 (150 * o + j) := by
  intro m
  induction m with
  | zero =>
    intro k t hk hM hJ
    have hil : k = 150 := by omega
    subst hil
    have r27 := (hM.fx hF).u 432 27 448 (by decide +kernel)
    have h448 : gI t 448 p = gI t0 448 p := hM.2.1 _ _ (by omega)
    have b1 : p < 7 := by omega
    refine ⟨t, ?_, hM, hJ⟩
    rw [sX12_teach_75]
    simp (disch := first | exact jm_lt0 | (apply jm_ltx; (repeat (first | exact jw_0 | apply jw_i | apply jw_r | apply jw_l)); omega) | omega | assumption | exact sa_432 | exact sa_448 | exact n32_inA sb_432 (by omega) (by omega) | exact n32_inA sb_448 (by omega) (by omega) | (refine n32_inA (by assumption) ?_ ?_ <;> omega) | exact bi01 | (rw [sa_432]; omega) | (rw [sa_448]; omega) | decide) only [sX12_teach_0, sX12_teach_1, sX12_teach_2, sX12_teach_5, sX12_teach_6, sX12_teach_7, sX12_teach_8, sX12_teach_11, sX12_teach_14, sX12_teach_15, sX12_teach_16, sX12_teach_17, sX12_teach_20, kX12_teach_23_AIIN, sX12_teach_23, sX12_teach_24, sX12_teach_25, sX12_teach_26, sX12_teach_29, sX12_teach_30, sX12_teach_31, sX12_teach_34, sX12_teach_35, sX12_teach_36, sX12_teach_37, sX12_teach_38, sX12_teach_40, sX12_teach_42, sX12_teach_45, sX12_teach_46, sX12_teach_49, sX12_teach_51, sX12_teach_52, sX12_teach_53, sX12_teach_54, sX12_teach_55, sX12_teach_56, sX12_teach_59, sX12_teach_61, sX12_teach_62, sX12_teach_63, sX12_teach_64, sX12_teach_65, sX12_teach_66, sX12_teach_67, sX12_teach_70, kX12_teach_73_AIII, sX12_teach_73, sX12_teach_74, sX12_teach_76, sX12_teach_79, sX12_teach_82, sX12_teach_83, sX12_teach_86, sX12_teach_89, sX12_teach_90, sX12_teach_91, sX12_teach_92, sX12_teach_93, sX12_teach_94, sX12_teach_97, sX12_teach_100, sX12_teach_101, sX12_teach_102, sX12_teach_103, sX12_teach_104, sX12_teach_105, sX12_teach_106, sX12_teach_107, sX12_teach_110, sX12_teach_113, sX12_teach_114, sX12_teach_115, sX12_teach_116, sX12_teach_117, sX12_teach_118, sX12_teach_121, sX12_teach_124, sX12_teach_125, sX12_teach_126, sX12_teach_127, sX12_teach_128, sX12_teach_129, sX12_teach_130, sX12_teach_133, kX12_teach_136_AIII, sX12_teach_136, sX12_teach_137, sX12_teach_140, sX12_teach_141, sX12_teach_142, evK_n, evK_v, evK_x, gI_pI, gJ_pI, gR_pI, gI_pJ, gJ_pJ, gR_pJ, gI_pR, gJ_pR, gR_pR, n32_le, n32_lt, n32_add, n32_mul, n32_cl, if_true, if_false, not_true_eq_false, not_false_eq_true, and_true, true_and, and_false, false_and, and_self, or_true, true_or, or_false, false_or, or_self, ne_eq, Decidable.not_not, Nat.reduceEqDiff, Nat.reduceEqDiff, sa_432, sb_432, sa_448, sb_448, Nat.le_refl, r27, h448, b1]
  | succ m ih =>
    intro k t hk hM hJ
    have hFs := hM.fx hF
    have r24 := hFs.u 432 24 445 (by decide +kernel)
    have r25 := hFs.u 432 25 446 (by decide +kernel)
    have g1 : ¬ 150 ≤ k := by omega
    have b1 : 150 * p + k < 1050 := by omega
    have b2 : 150 * o + k < 1050 := by omega
    have sr : gI t 445 (150 * o + k) = gI t0 445 (150 * o + k) := hM.2.1 _ _ (by omega)
    have sr2 : gI t 446 (150 * o + k) = gI t0 446 (150 * o + k) := hM.2.1 _ _ (by omega)
    obtain ⟨t', f1, f2, f3⟩ := ih (k + 1) (pI (pI t 445 (150 * p + k) (gI t 445 (150 * o + k))) 446 (150 * p + k) (gI t 446 (150 * o + k))) (by omega) (((hM.mono (fun b j q => by omega) (fun _ _ q => q)).tr (FM.pI (by omega))).tr (FM.pI (by omega))) (fun j hj => by
      by_cases cj : j = k
      · rw [cj, gI_pI, if_neg (by omega), gI_pI, if_pos ⟨rfl, rfl⟩, gI_pI, if_pos ⟨rfl, rfl⟩, sr, sr2]
        exact ⟨rfl, rfl⟩
      · rw [gI_pI, if_neg (by omega), gI_pI, if_neg (by omega), gI_pI, if_neg (by omega), gI_pI, if_neg (by omega)]
        exact hJ j (by omega))
    refine ⟨t', ?_, f2, f3⟩
    rw [sX12_teach_75]
    simp (disch := first | exact jm_lt0 | (apply jm_ltx; (repeat (first | exact jw_0 | apply jw_i | apply jw_r | apply jw_l)); omega) | omega | assumption | exact sa_432 | exact sa_445 | exact sa_446 | exact n32_inA sb_432 (by omega) (by omega) | exact n32_inA sb_445 (by omega) (by omega) | exact n32_inA sb_446 (by omega) (by omega) | (refine n32_inA (by assumption) ?_ ?_ <;> omega) | exact bi01 | (rw [sa_432]; omega) | (rw [sa_445]; omega) | (rw [sa_446]; omega) | decide) only [sX12_teach_0, sX12_teach_1, sX12_teach_2, sX12_teach_5, sX12_teach_6, sX12_teach_7, sX12_teach_8, sX12_teach_11, sX12_teach_14, sX12_teach_15, sX12_teach_16, sX12_teach_17, sX12_teach_20, kX12_teach_23_AIIN, sX12_teach_23, sX12_teach_24, sX12_teach_25, sX12_teach_26, sX12_teach_29, sX12_teach_30, sX12_teach_31, sX12_teach_34, sX12_teach_35, sX12_teach_36, sX12_teach_37, sX12_teach_38, sX12_teach_40, sX12_teach_42, sX12_teach_45, sX12_teach_46, sX12_teach_49, sX12_teach_51, sX12_teach_52, sX12_teach_53, sX12_teach_54, sX12_teach_55, sX12_teach_56, sX12_teach_59, sX12_teach_61, sX12_teach_62, sX12_teach_63, sX12_teach_64, sX12_teach_65, sX12_teach_66, sX12_teach_67, sX12_teach_70, kX12_teach_73_AIII, sX12_teach_73, sX12_teach_74, sX12_teach_76, sX12_teach_79, sX12_teach_82, sX12_teach_83, sX12_teach_86, sX12_teach_89, sX12_teach_90, sX12_teach_91, sX12_teach_92, sX12_teach_93, sX12_teach_94, sX12_teach_97, sX12_teach_100, sX12_teach_101, sX12_teach_102, sX12_teach_103, sX12_teach_104, sX12_teach_105, sX12_teach_106, sX12_teach_107, sX12_teach_110, sX12_teach_113, sX12_teach_114, sX12_teach_115, sX12_teach_116, sX12_teach_117, sX12_teach_118, sX12_teach_121, sX12_teach_124, sX12_teach_125, sX12_teach_126, sX12_teach_127, sX12_teach_128, sX12_teach_129, sX12_teach_130, sX12_teach_133, kX12_teach_136_AIII, sX12_teach_136, sX12_teach_137, sX12_teach_140, sX12_teach_141, sX12_teach_142, evK_n, evK_v, evK_x, gI_pI, gJ_pI, gR_pI, gI_pJ, gJ_pJ, gR_pJ, gI_pR, gJ_pR, gR_pR, n32_le, n32_lt, n32_add, n32_mul, n32_cl, if_true, if_false, not_true_eq_false, not_false_eq_true, and_true, true_and, and_false, false_and, and_self, or_true, true_or, or_false, false_or, or_self, ne_eq, Decidable.not_not, Nat.reduceEqDiff, Nat.reduceEqDiff, sa_432, sb_432, sa_445, sb_445, sa_446, sb_446, r24, r25, g1, b1, b2, show ¬ ((446 : Nat) = 445) by decide]
    exact f1
end CE0
