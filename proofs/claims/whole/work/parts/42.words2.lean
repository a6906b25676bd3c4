/-! the class's takeWordOf -/
theorem run_eq {B : Nat → Nat} {a q : Nat} {v pre post w : List Nat} (hw : w = pre ++ (v ++ post)) : v = runR B a q ↔ (v.length = q - a ∧ ∀ j, pre.length ≤ j → j < pre.length + v.length → w.getD j 0 = B (a + (j - pre.length))) := by
  have key : ∀ i, i < v.length → w.getD (pre.length + i) 0 = v.getD i 0 := fun i hi => by
    subst hw
    simp [List.getD, List.getElem?_append_right, List.getElem?_append_left hi, hi]
  constructor
  · intro h
    have hl : v.length = q - a := by rw [h]; simp [runR]
    refine ⟨hl, fun j h1 h2 => ?_⟩
    have e : j = pre.length + (j - pre.length) := by omega
    have hi : j - pre.length < v.length := by omega
    rw [e, key _ hi]
    have : v.getD (j - pre.length) 0 = (runR B a q).getD (j - pre.length) 0 := by rw [← h]
    rw [this]
    have hi2 : j - pre.length < q - a := by omega
    simp [runR, List.getD, hi2]
  · rintro ⟨hl, h⟩
    refine List.ext_getElem (by simp [runR, hl]) (fun i h1 h2 => ?_)
    have h3 := h (pre.length + i) (by omega) (by omega)
    rw [key i h1] at h3
    have e : v.getD i 0 = v[i] := by simp [List.getD, h1]
    rw [← e, h3]
    simp [runR]
theorem c9_wLoop {g : fm_g} {d k : Nat} {w : List Nat} {B : Nat → Nat} {e a q : Nat} {s : fm_S} (hw : lit k w) (hF : FX s) (hT : CU s B e a) (hq : a ≤ q) (hqe : q ≤ e) : ∀ (vs : List (List Nat)) (pre : List Nat) (m : Nat), w = pre ++ flatW vs → (∀ v ∈ vs, ∀ c ∈ v, c ≠ 32) → ev g (d + 5) mX9_takeWordOf 47 [some (.ref (1 : Nat)), some (.retAddr k), some (.int (Int32.ofNat q)), some (.int (Int32.ofNat pre.length)), some (.int (Int32.ofNat m)), some (.int (Int32.ofNat pre.length))] [] s = match wix vs (runR B a q) with
    | some j => some (.inl (some (.int (Int32.ofNat (m + j)))), pI s 1 5 (Int32.ofNat (skp B e q)))
    | none => some (.inl (some (.int (-1))), s) := by
  intro vs
  have hk := hw.lt
  have hw2 := hw.2.1
  have h2 := hT.2.1
  have h3 := hT.2.2.1
  have h4 := hT.2.2.2.1
  have hgo := fun d => c9_goTo (g := g) (d := d) (b := q) hF hT hqe
  induction vs with
  | nil =>
    intro pre m hpre hv
    have hl : w.length = pre.length := by rw [hpre]; simp [flatW]
    rw [sX9_takeWordOf_47]
    simp (disch := first | exact jm_lt0 | exact jm_lti | exact jm_ltr | exact jm_ltl | exact jm_lti2 | exact jm_ltri | exact jm_ltir | exact jm_ltrr | exact jm_ltl2 | exact jm_ltrl | exact jm_ltlr | omega | assumption | exact sa_1 | exact n32_inA sb_1 (by omega) (by omega) | exact bi01 | (rw [sa_1]; omega) | decide) only [sX9_takeWordOf_0, sX9_takeWordOf_1, sX9_takeWordOf_4, sX9_takeWordOf_7, sX9_takeWordOf_8, sX9_takeWordOf_9, sX9_takeWordOf_10, sX9_takeWordOf_13, sX9_takeWordOf_15, sX9_takeWordOf_16, sX9_takeWordOf_19, sX9_takeWordOf_22, sX9_takeWordOf_23, sX9_takeWordOf_24, sX9_takeWordOf_27, sX9_takeWordOf_30, sX9_takeWordOf_33, sX9_takeWordOf_36, sX9_takeWordOf_39, sX9_takeWordOf_40, sX9_takeWordOf_41, sX9_takeWordOf_42, sX9_takeWordOf_44, sX9_takeWordOf_45, sX9_takeWordOf_49, sX9_takeWordOf_50, sX9_takeWordOf_53, sX9_takeWordOf_56, sX9_takeWordOf_57, sX9_takeWordOf_59, sX9_takeWordOf_62, sX9_takeWordOf_64, sX9_takeWordOf_67, sX9_takeWordOf_69, sX9_takeWordOf_70, sX9_takeWordOf_71, sX9_takeWordOf_72, sX9_takeWordOf_73, sX9_takeWordOf_76, sX9_takeWordOf_77, sX9_takeWordOf_80, sX9_takeWordOf_81, sX9_takeWordOf_82, sX9_takeWordOf_83, sX9_takeWordOf_85, sX9_takeWordOf_88, sX9_takeWordOf_91, sX9_takeWordOf_92, sX9_takeWordOf_93, sX9_takeWordOf_96, sX9_takeWordOf_98, kX9_takeWordOf_99_ASIIII, sX9_takeWordOf_99, sX9_takeWordOf_101, sX9_takeWordOf_102, sX9_takeWordOf_103, sX9_takeWordOf_104, sX9_takeWordOf_107, sX9_takeWordOf_110, kX9_takeWordOf_113_ASIIII, sX9_takeWordOf_113, sX9_takeWordOf_114, evK_n, evK_v, evK_x, gI_pI, gJ_pI, gR_pI, gI_pJ, gJ_pJ, gR_pJ, gI_pR, gJ_pR, gR_pR, sa_1, sb_1, n32_le, n32_lt, n32_add, n32_mul, n32_cl, jm_lt0, jm_lti, jm_ltr, jm_ltl, jm_lti2, jm_ltri, jm_ltir, jm_ltrr, cs_len hw]
    rw [if_pos (by omega)]
    rfl
  | cons v vs ih =>
    intro pre m hpre hv
    have hpre2 : w = pre ++ (v ++ (32 :: flatW vs)) := hpre
    have hl : w.length = pre.length + v.length + 1 + (flatW vs).length := by rw [hpre2]; simp; omega
    have hn : pre.length + v.length < w.length := by omega
    have hc32 : w.getD (pre.length + v.length) 0 = 32 := by
      rw [hpre2]
      simp [List.getD, List.getElem?_append_right]
    have hin : ∀ j, pre.length ≤ j → j < pre.length + v.length → w.getD j 0 ≠ 32 := fun j h5 h6 => by
      have hi : j - pre.length < v.length := by omega
      have e5 : w.getD j 0 = v[j - pre.length] := by
        rw [hpre2]
        simp [List.getD, List.getElem?_append_right h5, List.getElem?_append_left hi, hi]
      rw [e5]
      exact hv v List.mem_cons_self _ (List.getElem_mem hi)
    rw [c9_wIn hw hn (by omega) hin, sX9_takeWordOf_47]
    have e6 : pre.length + v.length - pre.length = v.length := by omega
    simp (disch := first | exact jm_lt0 | exact jm_lti | exact jm_ltr | exact jm_ltl | exact jm_lti2 | exact jm_ltri | exact jm_ltir | exact jm_ltrr | exact jm_ltl2 | exact jm_ltrl | exact jm_ltlr | omega | assumption | exact sa_1 | exact n32_inA sb_1 (by omega) (by omega) | exact bi01 | (rw [sa_1]; omega) | decide) only [sX9_takeWordOf_0, sX9_takeWordOf_1, sX9_takeWordOf_4, sX9_takeWordOf_7, sX9_takeWordOf_8, sX9_takeWordOf_9, sX9_takeWordOf_10, sX9_takeWordOf_13, sX9_takeWordOf_15, sX9_takeWordOf_16, sX9_takeWordOf_19, sX9_takeWordOf_22, sX9_takeWordOf_23, sX9_takeWordOf_24, sX9_takeWordOf_27, sX9_takeWordOf_30, sX9_takeWordOf_33, sX9_takeWordOf_36, sX9_takeWordOf_39, sX9_takeWordOf_40, sX9_takeWordOf_41, sX9_takeWordOf_42, sX9_takeWordOf_44, sX9_takeWordOf_45, sX9_takeWordOf_49, sX9_takeWordOf_50, sX9_takeWordOf_53, sX9_takeWordOf_56, sX9_takeWordOf_57, sX9_takeWordOf_59, sX9_takeWordOf_62, sX9_takeWordOf_64, sX9_takeWordOf_67, sX9_takeWordOf_69, sX9_takeWordOf_70, sX9_takeWordOf_71, sX9_takeWordOf_72, sX9_takeWordOf_73, sX9_takeWordOf_76, sX9_takeWordOf_77, sX9_takeWordOf_80, sX9_takeWordOf_81, sX9_takeWordOf_82, sX9_takeWordOf_83, sX9_takeWordOf_85, sX9_takeWordOf_88, sX9_takeWordOf_91, sX9_takeWordOf_92, sX9_takeWordOf_93, sX9_takeWordOf_96, sX9_takeWordOf_98, kX9_takeWordOf_99_ASIIII, sX9_takeWordOf_99, sX9_takeWordOf_101, sX9_takeWordOf_102, sX9_takeWordOf_103, sX9_takeWordOf_104, sX9_takeWordOf_107, sX9_takeWordOf_110, kX9_takeWordOf_113_ASIIII, sX9_takeWordOf_113, sX9_takeWordOf_114, evK_n, evK_v, evK_x, gI_pI, gJ_pI, gR_pI, gI_pJ, gJ_pJ, gR_pJ, gI_pR, gJ_pR, gR_pR, sa_1, sb_1, n32_le, n32_lt, n32_add, n32_mul, n32_cl, jm_lt0, jm_lti, jm_ltr, jm_ltl, jm_lti2, jm_ltri, jm_ltir, jm_ltrr, if_true, if_false, not_true_eq_false, not_false_eq_true, and_true, true_and, and_false, false_and, and_self, or_true, true_or, or_false, false_or, or_self, ne_eq, Decidable.not_not, Nat.reduceEqDiff, Nat.reduceEqDiff, cs_len hw, cs_charAt hw hn, hc32, h2, hgo, n32_sub, n32_eq, e6, c9_matches hw hF hT (show pre.length ≤ pre.length + v.length by omega) (show pre.length + v.length ≤ w.length by omega)]
    rw [if_neg (by omega)]
    have hr := run_eq (B := B) (a := a) (q := q) hpre2
    have e7 : (pre ++ (v ++ [32])).length = pre.length + v.length + 1 := by simp; omega
    have hrec := ih (pre ++ (v ++ [32])) (m + 1) (by rw [hpre2]; simp) (fun u hu => hv u (List.mem_cons_of_mem _ hu))
    rw [e7] at hrec
    have hwix : v ≠ runR B a q → (match wix (v :: vs) (runR B a q) with
        | some j => (some (.inl (some (.int (Int32.ofNat (m + j)))), pI s 1 5 (Int32.ofNat (skp B e q))) : Option (jm_O × fm_S))
        | none => some (.inl (some (.int (-1))), s)) = match wix vs (runR B a q) with
        | some j => some (.inl (some (.int (Int32.ofNat (m + 1 + j)))), pI s 1 5 (Int32.ofNat (skp B e q)))
        | none => some (.inl (some (.int (-1))), s) := fun hne => by
      rw [wix, if_neg hne]
      cases wix vs (runR B a q) with
      | none => rfl
      | some j => simp only [Option.map_some]; rw [show m + (j + 1) = m + 1 + j by omega]
    by_cases c1 : v.length = q - a
    · rw [if_neg (by simpa using c1)]
      by_cases c2 : matR w B a pre.length (pre.length + v.length) pre.length = true
      · have h9 : v = runR B a q := hr.mpr ⟨c1, matR_iff.mp c2⟩
        rw [if_neg (by rw [bi_eq]; simpa using c2), wix, if_pos h9]
        rfl
      · have h9 : v ≠ runR B a q := fun h => c2 (matR_iff.mpr (hr.mp h).2)
        rw [if_pos (by rw [bi_eq]; exact c2), hwix h9]
        exact hrec
    · have h9 : v ≠ runR B a q := fun h => c1 (hr.mp h).1
      rw [if_pos c1, hwix h9]
      exact hrec
theorem c9_takeWordOf {g : fm_g} {d k : Nat} {ws : List (List Nat)} {B : Nat → Nat} {e a : Nat} {s : fm_S} (hw : lit k (flatW ws)) (hv : ∀ v ∈ ws, v ≠ [] ∧ ∀ c ∈ v, c ≠ 32) (hF : FX s) (hT : CT s B e a) (hf : gI s 1 2 = 0) : ev g (d + 5) mX9_takeWordOf 0 [some (.ref (1 : Nat)), some (.retAddr k), none, none, none, none] [] s = match wix ws (runR B (skp B e a) (letR B e (skp B e a))) with
    | some j => some (.inl (some (.int (Int32.ofNat j))), pI s 1 5 (Int32.ofNat (skp B e (letR B e (skp B e a)))))
    | none => some (.inl (some (.int (-1))), pI s 1 5 (Int32.ofNat (skp B e a))) := by
  have hl := skp_le (B := B) hT.2.2.1
  have h4 := hT.2.2.2.1
  have hU := hT.cu
  have h2 := hT.2.1
  have hg := fun d => c9_goesOn (g := g) (d := d) hF hT hf
  rw [pI_self h2] at hg ⊢
  simp (disch := first | exact jm_lt0 | exact jm_lti | exact jm_ltr | exact jm_ltl | exact jm_lti2 | exact jm_ltri | exact jm_ltir | exact jm_ltrr | exact jm_ltl2 | exact jm_ltrl | exact jm_ltlr | omega | assumption | exact sa_1 | exact n32_inA sb_1 (by omega) (by omega) | exact bi01 | (rw [sa_1]; omega) | decide) only [sX9_takeWordOf_0, sX9_takeWordOf_1, sX9_takeWordOf_4, sX9_takeWordOf_7, sX9_takeWordOf_8, sX9_takeWordOf_9, sX9_takeWordOf_13, sX9_takeWordOf_15, sX9_takeWordOf_16, sX9_takeWordOf_19, sX9_takeWordOf_22, sX9_takeWordOf_23, sX9_takeWordOf_24, sX9_takeWordOf_27, sX9_takeWordOf_30, sX9_takeWordOf_33, sX9_takeWordOf_36, sX9_takeWordOf_39, sX9_takeWordOf_40, sX9_takeWordOf_41, sX9_takeWordOf_42, sX9_takeWordOf_44, sX9_takeWordOf_45, sX9_takeWordOf_49, sX9_takeWordOf_50, sX9_takeWordOf_53, sX9_takeWordOf_56, sX9_takeWordOf_57, sX9_takeWordOf_59, sX9_takeWordOf_62, sX9_takeWordOf_64, sX9_takeWordOf_67, sX9_takeWordOf_69, sX9_takeWordOf_70, sX9_takeWordOf_71, sX9_takeWordOf_72, sX9_takeWordOf_73, sX9_takeWordOf_76, sX9_takeWordOf_77, sX9_takeWordOf_80, sX9_takeWordOf_81, sX9_takeWordOf_82, sX9_takeWordOf_83, sX9_takeWordOf_85, sX9_takeWordOf_88, sX9_takeWordOf_91, sX9_takeWordOf_92, sX9_takeWordOf_93, sX9_takeWordOf_96, sX9_takeWordOf_98, kX9_takeWordOf_99_ASIIII, sX9_takeWordOf_99, sX9_takeWordOf_101, sX9_takeWordOf_102, sX9_takeWordOf_103, sX9_takeWordOf_104, sX9_takeWordOf_107, sX9_takeWordOf_110, kX9_takeWordOf_113_ASIIII, sX9_takeWordOf_113, sX9_takeWordOf_114, evK_n, evK_v, jm_lt0, jm_lti, jm_ltr, jm_ltl, jm_lti2, jm_ltri, jm_ltir, jm_ltrr, hg, bi_ne]
  generalize skp B e a = p at hl hU h2 ⊢
  by_cases c1 : p < e
  · have hq := letR_le (B := B) hl.2
    rw [if_pos c1]
    simp (disch := first | exact jm_lt0 | exact jm_lti | exact jm_ltr | exact jm_ltl | exact jm_lti2 | exact jm_ltri | exact jm_ltir | exact jm_ltrr | exact jm_ltl2 | exact jm_ltrl | exact jm_ltlr | omega | assumption | exact sa_1 | exact n32_inA sb_1 (by omega) (by omega) | exact bi01 | (rw [sa_1]; omega) | decide) only [sX9_takeWordOf_10, sX9_takeWordOf_13, h2]
    rw [c9_letLoop hF hU hl.2]
    simp (disch := first | exact jm_lt0 | exact jm_lti | exact jm_ltr | exact jm_ltl | exact jm_lti2 | exact jm_ltri | exact jm_ltir | exact jm_ltrr | exact jm_ltl2 | exact jm_ltrl | exact jm_ltlr | omega | assumption | exact sa_1 | exact n32_inA sb_1 (by omega) (by omega) | exact bi01 | (rw [sa_1]; omega) | decide) only [sX9_takeWordOf_39, sX9_takeWordOf_40, sX9_takeWordOf_41, sX9_takeWordOf_42, sX9_takeWordOf_44, sX9_takeWordOf_45]
    have h := c9_wLoop (g := g) (d := d) hw hF hU hq.1 hq.2 ws [] 0 rfl (fun v hv9 => (hv v hv9).2)
    rw [List.length_nil] at h
    rw [h]
    cases wix ws (runR B p (letR B e p)) with
    | none => rfl
    | some j => simp only [Nat.zero_add]
  · rw [if_neg c1]
    have hp : letR B e p = p := by rw [letR, dif_neg (fun h => c1 h.1)]
    have hr : runR B p p = [] := by simp [runR]
    have hn : ∀ l : List (List Nat), (∀ v ∈ l, v ≠ []) → wix l [] = none := by
      intro l
      induction l with
      | nil => intro _; rfl
      | cons v l ih =>
        intro h
        rw [wix, if_neg (h v List.mem_cons_self), ih (fun u hu => h u (List.mem_cons_of_mem _ hu))]
        rfl
    rw [hp, hr, hn ws (fun v hv9 => (hv v hv9).1)]
theorem c9_takeWordOf' {g : fm_g} {d k : Nat} {s : fm_S} (hf : gI s 1 2 ≠ 0) : ev g (d + 5) mX9_takeWordOf 0 [some (.ref (1 : Nat)), some (.retAddr k), none, none, none, none] [] s = some (.inl (some (.int (-1))), s) := by
  simp (disch := first | exact jm_lt0 | exact jm_lti | exact jm_ltr | exact jm_ltl | exact jm_lti2 | exact jm_ltri | exact jm_ltir | exact jm_ltrr | exact jm_ltl2 | exact jm_ltrl | exact jm_ltlr | omega | assumption | exact sa_1 | exact n32_inA sb_1 (by omega) (by omega) | exact bi01 | (rw [sa_1]; omega) | decide) only [sX9_takeWordOf_0, sX9_takeWordOf_1, sX9_takeWordOf_4, sX9_takeWordOf_7, sX9_takeWordOf_8, sX9_takeWordOf_9, sX9_takeWordOf_10, sX9_takeWordOf_13, sX9_takeWordOf_15, sX9_takeWordOf_16, sX9_takeWordOf_19, sX9_takeWordOf_22, sX9_takeWordOf_23, sX9_takeWordOf_24, sX9_takeWordOf_27, sX9_takeWordOf_30, sX9_takeWordOf_33, sX9_takeWordOf_36, sX9_takeWordOf_39, sX9_takeWordOf_40, sX9_takeWordOf_41, sX9_takeWordOf_42, sX9_takeWordOf_44, sX9_takeWordOf_45, sX9_takeWordOf_49, sX9_takeWordOf_50, sX9_takeWordOf_53, sX9_takeWordOf_56, sX9_takeWordOf_57, sX9_takeWordOf_59, sX9_takeWordOf_62, sX9_takeWordOf_64, sX9_takeWordOf_67, sX9_takeWordOf_69, sX9_takeWordOf_70, sX9_takeWordOf_71, sX9_takeWordOf_72, sX9_takeWordOf_73, sX9_takeWordOf_76, sX9_takeWordOf_77, sX9_takeWordOf_80, sX9_takeWordOf_81, sX9_takeWordOf_82, sX9_takeWordOf_83, sX9_takeWordOf_85, sX9_takeWordOf_88, sX9_takeWordOf_91, sX9_takeWordOf_92, sX9_takeWordOf_93, sX9_takeWordOf_96, sX9_takeWordOf_98, kX9_takeWordOf_99_ASIIII, sX9_takeWordOf_99, sX9_takeWordOf_101, sX9_takeWordOf_102, sX9_takeWordOf_103, sX9_takeWordOf_104, sX9_takeWordOf_107, sX9_takeWordOf_110, kX9_takeWordOf_113_ASIIII, sX9_takeWordOf_113, sX9_takeWordOf_114, evK_n, evK_v, evK_x, gI_pI, gJ_pI, gR_pI, gI_pJ, gJ_pJ, gR_pJ, gI_pR, gJ_pR, gR_pR, sa_1, sb_1, jm_lt0, jm_lti, jm_ltr, jm_ltl, jm_lti2, jm_ltri, jm_ltir, jm_ltrr, c9_goesOn' hf, show (Int32.ofNat 0 = 0) by decide, if_true, if_false, not_true_eq_false, not_false_eq_true, and_true, true_and, and_false, false_and, and_self, or_true, true_or, or_false, false_or, or_self, ne_eq, Decidable.not_not, Nat.reduceEqDiff, Nat.reduceEqDiff]
