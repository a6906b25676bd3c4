/-! the model's reading of its tape -/
def MT (t : fm_S) (B : Nat → Nat) (e a : Nat) : Prop := gI t 432 3 = Int32.ofNat e ∧ gI t 432 4 = Int32.ofNat a ∧ a ≤ e ∧ e ≤ 600 ∧ ∀ i, i < e → gI t 434 i = Int32.ofNat (B i) ∧ B i < 256
theorem MT.at {s : fm_S} {B : Nat → Nat} {e a b : Nat} (h : MT s B e a) (hb : b ≤ e) : MT (pI s 432 4 (Int32.ofNat b)) B e b := by
  obtain ⟨h1, h2, h3, h4, h5⟩ := h
  exact ⟨by simp [gI_pI, h1], by simp [gI_pI], hb, h4, fun i hi => by simp [gI_pI, h5 i hi]⟩
/-- what stands at a place; 0 behind the end -/
def chR (B : Nat → Nat) (e p : Nat) : Nat := if p < e then B p else 0
theorem m_here {g : fm_g} {d : Nat} {B : Nat → Nat} {e a : Nat} {s : fm_S} (hF : FX s) (hT : MT s B e a) : ev g d mX12_here 0 [some (.ref (432 : Nat))] [] s = some (.inl (some (.int (Int32.ofNat (chR B e (skp B e a))))), pI s 432 4 (Int32.ofNat (skp B e a))) := by
  obtain ⟨h1, h2, h3, h4, h5⟩ := id hT
  have r1 := hF.u 432 9 434 (by decide +kernel)
  rw [sX12_here_0]
  simp (disch := first | exact jm_lt0 | exact jm_lti | exact jm_ltr | exact jm_ltl | exact jm_lti2 | exact jm_ltri | exact jm_ltir | exact jm_ltrr | exact jm_ltl2 | exact jm_ltrl | exact jm_ltlr | omega | assumption | exact sa_432 | exact sa_434 | exact n32_inA sb_432 (by omega) (by omega) | exact n32_inA sb_434 (by omega) (by omega) | exact bi01 | (rw [sa_432]; omega) | (rw [sa_434]; omega) | decide) only [sX12_here_1, sX12_here_4, sX12_here_5, sX12_here_8, sX12_here_11, sX12_here_12, sX12_here_15, sX12_here_16, sX12_here_19, sX12_here_20, sX12_here_22, sX12_here_25, sX12_here_26, sX12_here_27, sX12_here_30, sX12_here_31, sX12_here_32, sX12_here_35, sX12_here_38, sX12_here_39, sX12_here_42, sX12_here_43, sX12_here_46, sX12_here_49, sX12_here_50, sX12_here_53, sX12_here_54, sX12_here_57, sX12_here_58, kX12_here_61_A, sX12_here_61, kX12_here_62_A, sX12_here_62, evK_n, evK_v, evK_x, gI_pI, gJ_pI, gR_pI, gI_pJ, gJ_pJ, gR_pJ, gI_pR, gJ_pR, gR_pR, sa_432, sb_432, sa_434, sb_434, n32_le, n32_lt, n32_add, n32_mul, n32_cl, r1, h1, h2]
  rw [skp]
  by_cases c1 : e ≤ a
  · rw [if_pos c1, dif_neg (by omega), pI_self h2, if_pos c1, chR, if_neg (by omega)]
  · rw [if_neg c1]
    have hb := h5 a (by omega)
    rw [hb.1]
    by_cases c2 : B a = 32
    · rw [if_neg (by rw [ne_eq, n32_eq (by omega) (by decide)]; omega), dif_pos ⟨by omega, c2⟩]
      rw [m_here (a := a + 1) hF.pI (hT.at (by omega)), pI_pI]
    · rw [if_pos (by rw [ne_eq, n32_eq (by omega) (by decide)]; exact c2), dif_neg (by omega), pI_self h2, if_neg c1, chR, if_pos (by omega)]
termination_by e - a
theorem m_fine {g : fm_g} {d : Nat} {s : fm_S} : ev g d mX12_fine 0 [some (.ref (432 : Nat))] [] s = some (.inl (some (.int (bi (gI s 432 5 = -1)))), s) := by
  simp (disch := first | exact jm_lt0 | exact jm_lti | exact jm_ltr | exact jm_ltl | exact jm_lti2 | exact jm_ltri | exact jm_ltir | exact jm_ltrr | exact jm_ltl2 | exact jm_ltrl | exact jm_ltlr | omega | assumption | exact sa_432 | exact n32_inA sb_432 (by omega) (by omega) | exact bi01 | (rw [sa_432]; omega) | decide) only [sX12_fine_0, sX12_fine_1, sX12_fine_4, sX12_fine_5, sX12_fine_8, sX12_fine_9, kX12_fine_12_A, sX12_fine_12, kX12_fine_13_A, sX12_fine_13, sa_432, sb_432, ite_bi', ne_eq, Decidable.not_not]
theorem m_isSmall {g : fm_g} {d x : Nat} {s : fm_S} (hx : x < 256) : ev g d mX12_isSmall 0 [some (.int (Int32.ofNat x))] [] s = some (.inl (some (.int (bi (isL x)))), s) := by
  simp (disch := first | exact jm_lt0 | exact jm_lti | exact jm_ltr | exact jm_ltl | exact jm_lti2 | exact jm_ltri | exact jm_ltir | exact jm_ltrr | exact jm_ltl2 | exact jm_ltrl | exact jm_ltlr | omega | assumption | exact sa_1 | exact n32_inA sb_1 (by omega) (by omega) | exact bi01 | (rw [sa_1]; omega) | decide) only [sX12_isSmall_0, sX12_isSmall_1, sX12_isSmall_3, sX12_isSmall_6, sX12_isSmall_7, sX12_isSmall_9, sX12_isSmall_12, sX12_isSmall_13, kX12_isSmall_16_I, sX12_isSmall_16, kX12_isSmall_17_I, sX12_isSmall_17, n32_lt]
  by_cases h1 : x < 97 <;> by_cases h2 : 122 < x <;> simp only [h1, h2, bi, isL, if_true, if_false, not_true_eq_false, not_false_eq_true, and_true, true_and, and_false, false_and, and_self, or_true, true_or, or_false, false_or, or_self, ne_eq, Decidable.not_not, Nat.reduceEqDiff, Nat.reduceEqDiff] <;> first | rw [if_neg (by omega)] | rw [if_pos (by omega)]
theorem m_isDigit {g : fm_g} {d x : Nat} {s : fm_S} (hx : x < 256) : ev g d mX12_isDigit 0 [some (.int (Int32.ofNat x))] [] s = some (.inl (some (.int (bi (isD x)))), s) := by
  simp (disch := first | exact jm_lt0 | exact jm_lti | exact jm_ltr | exact jm_ltl | exact jm_lti2 | exact jm_ltri | exact jm_ltir | exact jm_ltrr | exact jm_ltl2 | exact jm_ltrl | exact jm_ltlr | omega | assumption | exact sa_1 | exact n32_inA sb_1 (by omega) (by omega) | exact bi01 | (rw [sa_1]; omega) | decide) only [sX12_isDigit_0, sX12_isDigit_1, sX12_isDigit_3, sX12_isDigit_6, sX12_isDigit_7, sX12_isDigit_9, sX12_isDigit_12, sX12_isDigit_13, kX12_isDigit_16_I, sX12_isDigit_16, kX12_isDigit_17_I, sX12_isDigit_17, n32_lt]
  by_cases h1 : x < 48 <;> by_cases h2 : 57 < x <;> simp only [h1, h2, bi, isD, if_true, if_false, not_true_eq_false, not_false_eq_true, and_true, true_and, and_false, false_and, and_self, or_true, true_or, or_false, false_or, or_self, ne_eq, Decidable.not_not, Nat.reduceEqDiff, Nat.reduceEqDiff] <;> first | rw [if_neg (by omega)] | rw [if_pos (by omega)]
theorem m_wrong {g : fm_g} {d : Nat} {s : fm_S} {k p : Int32} : ev g d mX12_wrong 0 [some (.ref (432 : Nat)), some (.int k), some (.int p)] [] s = some (.inl none, if gI s 432 5 = -1 then pI (pI s 432 5 p) 432 6 k else s) := by
  simp (disch := first | exact jm_lt0 | exact jm_lti | exact jm_ltr | exact jm_ltl | exact jm_lti2 | exact jm_ltri | exact jm_ltir | exact jm_ltrr | exact jm_ltl2 | exact jm_ltrl | exact jm_ltlr | omega | assumption | exact sa_432 | exact n32_inA sb_432 (by omega) (by omega) | exact bi01 | (rw [sa_432]; omega) | decide) only [sX12_wrong_0, sX12_wrong_1, sX12_wrong_4, sX12_wrong_5, sX12_wrong_8, sX12_wrong_9, sX12_wrong_10, sX12_wrong_11, sX12_wrong_14, sX12_wrong_15, sX12_wrong_16, sX12_wrong_19, sa_432, sb_432]
  by_cases h : gI s 432 5 = -1 <;> simp [h]
/-- a fault at the place p, if none was -/
def mflt (s : fm_S) (k p : Nat) : fm_S := pI (pI s 432 5 (Int32.ofNat p)) 432 6 (Int32.ofNat k)
theorem m_sign {g : fm_g} {d : Nat} {B : Nat → Nat} {e a k : Nat} {s : fm_S} (hF : FX s) (hT : MT s B e a) (hf : gI s 432 5 = -1) (hk : 0 < k ∧ k < 128) : ev g (d + 1) mX12_sign 0 [some (.ref (432 : Nat)), some (.int (Int32.ofNat k))] [] s = some (.inl none, if skp B e a < e ∧ B (skp B e a) = k then pI s 432 4 (Int32.ofNat (skp B e a + 1)) else mflt (pI s 432 4 (Int32.ofNat (skp B e a))) 1 (skp B e a)) := by
  have hl := skp_le (B := B) hT.2.2.1
  have h4 := hT.2.2.2.1
  have hc : chR B e (skp B e a) < 256 := by
    unfold chR
    split
    next h => exact (hT.2.2.2.2 _ h).2
    next => decide
  simp (disch := first | exact jm_lt0 | exact jm_lti | exact jm_ltr | exact jm_ltl | exact jm_lti2 | exact jm_ltri | exact jm_ltir | exact jm_ltrr | exact jm_ltl2 | exact jm_ltrl | exact jm_ltlr | omega | assumption | exact sa_432 | exact n32_inA sb_432 (by omega) (by omega) | exact bi01 | (rw [sa_432]; omega) | decide) only [sX12_sign_0, sX12_sign_1, sX12_sign_4, sX12_sign_7, sX12_sign_8, sX12_sign_11, sX12_sign_12, sX12_sign_15, sX12_sign_16, sX12_sign_17, sX12_sign_18, sX12_sign_21, kX12_sign_24_AI, sX12_sign_24, sX12_sign_25, sX12_sign_28, sX12_sign_31, sX12_sign_32, sX12_sign_33, sX12_sign_36, sX12_sign_37, sX12_sign_38, kX12_sign_41_AN, sX12_sign_41, evK_n, evK_v, evK_x, gI_pI, gJ_pI, gR_pI, gI_pJ, gJ_pJ, gR_pJ, gI_pR, gJ_pR, gR_pR, sa_432, sb_432, n32_le, n32_lt, n32_add, n32_mul, n32_cl, jm_lt0, jm_lti, jm_ltr, jm_ltl, jm_lti2, jm_ltri, jm_ltir, jm_ltrr, if_true, if_false, not_true_eq_false, not_false_eq_true, and_true, true_and, and_false, false_and, and_self, or_true, true_or, or_false, false_or, or_self, ne_eq, Decidable.not_not, Nat.reduceEqDiff, Nat.reduceEqDiff, m_fine, bi_eq, bi_ne, hf, m_here hF hT, n32_eq, m_wrong, n32_neg, pI_pI, mflt]
  by_cases c1 : skp B e a < e
  · by_cases c2 : B (skp B e a) = k
    · simp only [chR, c1, c2, if_true, if_false, not_true_eq_false, not_false_eq_true, and_true, true_and, and_false, false_and, and_self, or_true, true_or, or_false, false_or, or_self, ne_eq, Decidable.not_not, Nat.reduceEqDiff, Nat.reduceEqDiff]
    · simp only [chR, c1, c2, if_true, if_false, not_true_eq_false, not_false_eq_true, and_true, true_and, and_false, false_and, and_self, or_true, true_or, or_false, false_or, or_self, ne_eq, Decidable.not_not, Nat.reduceEqDiff, Nat.reduceEqDiff]
  · have c3 : ¬ 0 = k := by omega
    simp only [chR, c1, c3, if_true, if_false, not_true_eq_false, not_false_eq_true, and_true, true_and, and_false, false_and, and_self, or_true, true_or, or_false, false_or, or_self, ne_eq, Decidable.not_not, Nat.reduceEqDiff, Nat.reduceEqDiff]
theorem m_sign' {g : fm_g} {d : Nat} {k : Int32} {s : fm_S} (hf : gI s 432 5 ≠ -1) : ev g (d + 1) mX12_sign 0 [some (.ref (432 : Nat)), some (.int k)] [] s = some (.inl none, s) := by
  simp (disch := first | exact jm_lt0 | exact jm_lti | exact jm_ltr | exact jm_ltl | exact jm_lti2 | exact jm_ltri | exact jm_ltir | exact jm_ltrr | exact jm_ltl2 | exact jm_ltrl | exact jm_ltlr | omega | assumption | exact sa_432 | exact n32_inA sb_432 (by omega) (by omega) | exact bi01 | (rw [sa_432]; omega) | decide) only [sX12_sign_0, sX12_sign_1, sX12_sign_4, sX12_sign_7, sX12_sign_8, sX12_sign_11, sX12_sign_12, sX12_sign_15, sX12_sign_16, sX12_sign_17, sX12_sign_18, sX12_sign_21, kX12_sign_24_AI, sX12_sign_24, sX12_sign_25, sX12_sign_28, sX12_sign_31, sX12_sign_32, sX12_sign_33, sX12_sign_36, sX12_sign_37, sX12_sign_38, kX12_sign_41_AN, sX12_sign_41, evK_n, evK_v, evK_x, gI_pI, gJ_pI, gR_pI, gI_pJ, gJ_pJ, gR_pJ, gI_pR, gJ_pR, gR_pR, sa_432, sb_432, jm_lt0, jm_lti, jm_ltr, jm_ltl, jm_lti2, jm_ltri, jm_ltir, jm_ltrr, if_true, if_false, not_true_eq_false, not_false_eq_true, and_true, true_and, and_false, false_and, and_self, or_true, true_or, or_false, false_or, or_self, ne_eq, Decidable.not_not, Nat.reduceEqDiff, Nat.reduceEqDiff, m_fine, bi_eq, hf]
theorem m_isMore {g : fm_g} {d : Nat} {B : Nat → Nat} {e a : Nat} {s : fm_S} (hF : FX s) (hT : MT s B e a) : ev g (d + 1) mX12_isMore 0 [some (.ref (432 : Nat))] [] s = some (.inl (some (.int (bi (skp B e a < e)))), pI s 432 4 (Int32.ofNat (skp B e a))) := by
  have hl := skp_le (B := B) hT.2.2.1
  have h4 := hT.2.2.2.1
  simp (disch := first | exact jm_lt0 | exact jm_lti | exact jm_ltr | exact jm_ltl | exact jm_lti2 | exact jm_ltri | exact jm_ltir | exact jm_ltrr | exact jm_ltl2 | exact jm_ltrl | exact jm_ltlr | omega | assumption | exact sa_432 | exact n32_inA sb_432 (by omega) (by omega) | exact bi01 | (rw [sa_432]; omega) | decide) only [sX12_isMore_0, sX12_isMore_1, sX12_isMore_4, sX12_isMore_5, sX12_isMore_6, sX12_isMore_9, sX12_isMore_10, sX12_isMore_13, sX12_isMore_16, sX12_isMore_17, kX12_isMore_20_A, sX12_isMore_20, kX12_isMore_21_A, sX12_isMore_21, evK_n, evK_v, evK_x, gI_pI, gJ_pI, gR_pI, gI_pJ, gJ_pJ, gR_pJ, gI_pR, gJ_pR, gR_pR, sa_432, sb_432, n32_le, n32_lt, n32_add, n32_mul, n32_cl, jm_lt0, jm_lti, jm_ltr, jm_ltl, jm_lti2, jm_ltri, jm_ltir, jm_ltrr, if_true, if_false, not_true_eq_false, not_false_eq_true, and_true, true_and, and_false, false_and, and_self, or_true, true_or, or_false, false_or, or_self, ne_eq, Decidable.not_not, Nat.reduceEqDiff, Nat.reduceEqDiff, m_here hF hT, hT.1, ite_bi']
  simp only [Nat.not_le]
theorem m_pass {g : fm_g} {d : Nat} {B : Nat → Nat} {e a : Nat} {s : fm_S} (hF : FX s) (hT : MT s B e a) : ev g (d + 1) mX12_pass 0 [some (.ref (432 : Nat))] [] s = some (.inl none, pI s 432 4 (Int32.ofNat (letR B e a))) := by
  obtain ⟨h1, h2, h3, h4, h5⟩ := id hT
  have r1 := hF.u 432 9 434 (by decide +kernel)
  rw [sX12_pass_0, letR]
  by_cases c1 : a < e
  · have hb := h5 a c1
    simp (disch := first | exact jm_lt0 | exact jm_lti | exact jm_ltr | exact jm_ltl | exact jm_lti2 | exact jm_ltri | exact jm_ltir | exact jm_ltrr | exact jm_ltl2 | exact jm_ltrl | exact jm_ltlr | omega | assumption | exact sa_432 | exact sa_434 | exact n32_inA sb_432 (by omega) (by omega) | exact n32_inA sb_434 (by omega) (by omega) | exact bi01 | (rw [sa_432]; omega) | (rw [sa_434]; omega) | decide) only [sX12_pass_1, sX12_pass_4, sX12_pass_5, sX12_pass_8, sX12_pass_11, sX12_pass_12, sX12_pass_15, sX12_pass_16, sX12_pass_19, sX12_pass_20, sX12_pass_23, sX12_pass_26, sX12_pass_27, sX12_pass_28, sX12_pass_31, sX12_pass_32, sX12_pass_33, sX12_pass_36, kX12_pass_39_A, sX12_pass_39, evK_n, evK_v, evK_x, gI_pI, gJ_pI, gR_pI, gI_pJ, gJ_pJ, gR_pJ, gI_pR, gJ_pR, gR_pR, sa_432, sb_432, sa_434, sb_434, n32_le, n32_lt, n32_add, n32_mul, n32_cl, jm_lt0, jm_lti, jm_ltr, jm_ltl, jm_lti2, jm_ltri, jm_ltir, jm_ltrr, r1, h1, h2, hb.1, m_isSmall hb.2, bi_eq]
    rw [if_neg (by omega)]
    by_cases c2 : isL (B a)
    · rw [if_neg (by simpa using c2), dif_pos ⟨c1, c2⟩, m_pass (a := a + 1) hF.pI (hT.at (by omega)), pI_pI]
    · rw [if_pos c2, dif_neg (fun h => c2 h.2), pI_self h2]
  · simp (disch := first | exact jm_lt0 | exact jm_lti | exact jm_ltr | exact jm_ltl | exact jm_lti2 | exact jm_ltri | exact jm_ltir | exact jm_ltrr | exact jm_ltl2 | exact jm_ltrl | exact jm_ltlr | omega | assumption | exact sa_432 | exact sa_434 | exact n32_inA sb_432 (by omega) (by omega) | exact n32_inA sb_434 (by omega) (by omega) | exact bi01 | (rw [sa_432]; omega) | (rw [sa_434]; omega) | decide) only [sX12_pass_1, sX12_pass_4, sX12_pass_5, sX12_pass_8, sX12_pass_11, sX12_pass_12, sX12_pass_15, sX12_pass_16, sX12_pass_19, sX12_pass_20, sX12_pass_23, sX12_pass_26, sX12_pass_27, sX12_pass_28, sX12_pass_31, sX12_pass_32, sX12_pass_33, sX12_pass_36, kX12_pass_39_A, sX12_pass_39, evK_n, evK_v, evK_x, gI_pI, gJ_pI, gR_pI, gI_pJ, gJ_pJ, gR_pJ, gI_pR, gJ_pR, gR_pR, sa_432, sb_432, sa_434, sb_434, n32_le, n32_lt, n32_add, n32_mul, n32_cl, jm_lt0, jm_lti, jm_ltr, jm_ltl, jm_lti2, jm_ltri, jm_ltir, jm_ltrr, h1, h2]
    rw [if_pos (by omega), dif_neg (fun h => c1 h.1), pI_self h2]
termination_by e - a
/-- a word's code, five bits a letter -/
def cod (l : List Nat) : Nat := l.foldl (fun v c => v * 32 + (c - 96)) 0
theorem cod_snoc (l : List Nat) (c : Nat) : cod (l ++ [c]) = cod l * 32 + (c - 96) := by simp [cod]
theorem snoc_ind {α : Type} {P : List α → Prop} (h0 : P []) (h1 : ∀ l c, P l → P (l ++ [c])) (l : List α) : P l := by
  have h : ∀ m : List α, P m.reverse := by
    intro m
    induction m with
    | nil => exact h0
    | cons c m ih => rw [List.reverse_cons]; exact h1 _ _ ih
  have h2 := h l.reverse
  rwa [List.reverse_reverse] at h2
theorem cod_lt (l : List Nat) (hl : ∀ c ∈ l, isL c) : cod l < 32 ^ l.length := by
  revert hl
  refine snoc_ind (P := fun l => (∀ c ∈ l, isL c) → cod l < 32 ^ l.length) (fun _ => by decide) (fun l c ih hl => ?_) l
  have h1 := ih (fun c hc => hl c (by simp [hc]))
  have h2 : isL c := hl c (by simp)
  rw [cod_snoc, List.length_append, List.length_singleton, Nat.pow_succ]
  unfold isL at h2
  omega
theorem cod_inj : ∀ (l m : List Nat), (∀ c ∈ l, isL c) → (∀ c ∈ m, isL c) → cod l = cod m → l = m := by
  intro l
  refine snoc_ind (P := fun l => ∀ m : List Nat, (∀ c ∈ l, isL c) → (∀ c ∈ m, isL c) → cod l = cod m → l = m) (fun m => ?_) (fun l c ih m => ?_) l
  · refine snoc_ind (P := fun m => (∀ c ∈ [], isL c) → (∀ c ∈ m, isL c) → cod [] = cod m → [] = m) (fun _ _ _ => rfl) (fun m b _ _ hm h => ?_) m
    have h2 : isL b := hm b (by simp)
    rw [cod_snoc] at h
    have h0 : cod [] = 0 := rfl
    unfold isL at h2
    omega
  · refine snoc_ind (P := fun m => (∀ x ∈ l ++ [c], isL x) → (∀ x ∈ m, isL x) → cod (l ++ [c]) = cod m → l ++ [c] = m) (fun hl _ h => ?_) (fun m b _ hl hm h => ?_) m
    · have h2 : isL c := hl c (by simp)
      rw [cod_snoc] at h
      have h0 : cod [] = 0 := rfl
      unfold isL at h2
      omega
    · have h2 : isL c := hl c (by simp)
      have h3 : isL b := hm b (by simp)
      rw [cod_snoc, cod_snoc] at h
      unfold isL at h2 h3
      have e1 : c = b := by omega
      have e2 : cod l = cod m := by omega
      rw [ih m (fun x hx => hl x (by simp [hx])) (fun x hx => hm x (by simp [hx])) e2, e1]
theorem i32_code {v c : Nat} (hv : v < 33554432) (hc : c < 32) : (Int32.ofNat v <<< (Int32.ofNat 5 &&& 31)) ||| Int32.ofNat c = Int32.ofNat (v * 32 + c) := by
  have h5 : (Int32.ofNat 5 &&& 31) = 5 := by decide
  rw [h5]
  apply Int32.toBitVec.inj
  apply BitVec.eq_of_toNat_eq
  have e1 : (Int32.ofNat v <<< (5 : Int32) ||| Int32.ofNat c).toBitVec = (BitVec.ofNat 32 v <<< 5) ||| BitVec.ofNat 32 c := by simp
  rw [e1, BitVec.toNat_or, BitVec.toNat_shiftLeft, BitVec.toNat_ofNat, BitVec.toNat_ofNat]
  have e2 : (Int32.ofNat (v * 32 + c)).toBitVec.toNat = (v * 32 + c) % 2 ^ 32 := by simp
  rw [e2, Nat.mod_eq_of_lt (a := v) (by omega), Nat.mod_eq_of_lt (a := c) (by omega), Nat.mod_eq_of_lt (a := v * 32 + c) (by omega)]
  have e3 : v <<< 5 = v * 32 := by rw [Nat.shiftLeft_eq]
  rw [e3, Nat.mod_eq_of_lt (by omega), ← e3, ← Nat.shiftLeft_add_eq_or_of_lt (by omega)]
theorem runR_succ {B : Nat → Nat} {p k : Nat} (h : p ≤ k) : runR B p (k + 1) = runR B p k ++ [B k] := by
  unfold runR
  rw [show k + 1 - p = (k - p) + 1 by omega, List.range_succ, List.map_append]
  simp
  congr 1
  omega
theorem runR_mem {B : Nat → Nat} {p k c : Nat} (h : ∀ i, p ≤ i → i < k → isL (B i)) (hc : c ∈ runR B p k) : isL c := by
  unfold runR at hc
  obtain ⟨i, hi, rfl⟩ := List.mem_map.mp hc
  have := List.mem_range.mp hi
  exact h _ (by omega) (by omega)
theorem runR_len {B : Nat → Nat} {p k : Nat} : (runR B p k).length = k - p := by simp [runR]
def wv (B : Nat → Nat) (p k : Nat) : Nat := if k - p ≤ 6 then cod (runR B p k) else 0
theorem letR_L {B : Nat → Nat} {e p : Nat} : ∀ i, p ≤ i → i < letR B e p → isL (B i) := by
  intro i h1 h2
  rw [letR] at h2
  split at h2
  next hc =>
    by_cases e : i = p
    · rw [e]; exact hc.2
    · exact letR_L i (by omega) h2
  next => omega
termination_by e - p
theorem wv_lt {B : Nat → Nat} {p k : Nat} (h : ∀ i, p ≤ i → i < k → isL (B i)) : wv B p k < 1073741824 := by
  unfold wv
  split
  next h1 =>
    have h2 := cod_lt (runR B p k) (fun c hc => runR_mem h hc)
    rw [runR_len] at h2
    have h3 : 32 ^ (k - p) ≤ 32 ^ 6 := Nat.pow_le_pow_right (by decide) h1
    omega
  next => decide
theorem m_wordLoop {g : fm_g} {d : Nat} {B : Nat → Nat} {e a p k : Nat} {s : fm_S} (hF : FX s) (hT : MT s B e a) (hpk : p ≤ k) (hk : k ≤ e) (hL : ∀ i, p ≤ i → i < k → isL (B i)) : ev g (d + 1) mX12_word 14 [some (.ref (432 : Nat)), some (.int (Int32.ofNat (wv B p k))), some (.int (Int32.ofNat (k - p))), some (.int (Int32.ofNat k))] [] s = some (.inl (some (.int (Int32.ofNat (wv B p (letR B e k))))), s) := by
  obtain ⟨h1, h2, h3, h4, h5⟩ := id hT
  have r1 := hF.u 432 9 434 (by decide +kernel)
  rw [sX12_word_14, letR]
  by_cases c1 : k < e
  · have hb := h5 k c1
    by_cases c2 : isL (B k)
    · have hL' : ∀ i, p ≤ i → i < k + 1 → isL (B i) := fun i hi1 hi2 => by
        by_cases e1 : i = k
        · rw [e1]; exact c2
        · exact hL i hi1 (by omega)
      have hrec := m_wordLoop (g := g) (d := d) hF hT (show p ≤ k + 1 by omega) (show k + 1 ≤ e by omega) hL'
      rw [dif_pos ⟨c1, c2⟩]
      have e2 : k + 1 - p = k - p + 1 := by omega
      rw [e2] at hrec
      by_cases c3 : k - p < 6
      · have e3 : wv B p k = cod (runR B p k) := by unfold wv; rw [if_pos (by omega)]
        have e4 : wv B p (k + 1) = wv B p k * 32 + (B k - 96) := by
          rw [e3]
          unfold wv
          rw [if_pos (by omega), runR_succ hpk, cod_snoc]
        have h6 : wv B p k < 33554432 := by
          rw [e3]
          have h7 := cod_lt (runR B p k) (fun c hc => runR_mem hL hc)
          rw [runR_len] at h7
          have h8 : 32 ^ (k - p) ≤ 32 ^ 5 := Nat.pow_le_pow_right (by decide) (by omega)
          omega
        simp (disch := first | exact jm_lt0 | exact jm_lti | exact jm_ltr | exact jm_ltl | exact jm_lti2 | exact jm_ltri | exact jm_ltir | exact jm_ltrr | exact jm_ltl2 | exact jm_ltrl | exact jm_ltlr | omega | assumption | exact sa_432 | exact sa_434 | exact n32_inA sb_432 (by omega) (by omega) | exact n32_inA sb_434 (by omega) (by omega) | exact bi01 | (rw [sa_432]; omega) | (rw [sa_434]; omega) | decide) only [sX12_word_0, sX12_word_1, sX12_word_4, sX12_word_5, sX12_word_6, sX12_word_7, sX12_word_8, sX12_word_9, sX12_word_10, sX12_word_13, sX12_word_15, sX12_word_16, sX12_word_19, sX12_word_22, sX12_word_23, sX12_word_26, sX12_word_27, sX12_word_28, sX12_word_31, sX12_word_34, sX12_word_35, sX12_word_37, sX12_word_40, sX12_word_41, sX12_word_42, sX12_word_43, sX12_word_44, sX12_word_47, sX12_word_48, sX12_word_49, sX12_word_51, sX12_word_52, sX12_word_53, kX12_word_56_AIII, sX12_word_56, kX12_word_57_AIII, sX12_word_57, sX12_word_58, sX12_word_61, sX12_word_64, kX12_word_67_AIII, sX12_word_67, sX12_word_68, sX12_word_70, sX12_word_73, sX12_word_74, kX12_word_77_NIIN, sX12_word_77, kX12_word_78_NIIN, kX12_word_78_NINN, sX12_word_78, evK_n, evK_v, evK_x, gI_pI, gJ_pI, gR_pI, gI_pJ, gJ_pJ, gR_pJ, gI_pR, gJ_pR, gR_pR, sa_432, sb_432, sa_434, sb_434, n32_le, n32_lt, n32_add, n32_mul, n32_cl, jm_lt0, jm_lti, jm_ltr, jm_ltl, jm_lti2, jm_ltri, jm_ltir, jm_ltrr, r1, h1, hb.1, m_isSmall hb.2, bi_eq, n32_sub, i32_code]
        rw [if_neg (by omega), if_neg (by simpa using c2), if_neg (by omega), ← e4]
        exact hrec
      · have e4 : wv B p (k + 1) = 0 := by unfold wv; rw [if_neg (by omega)]
        simp (disch := first | exact jm_lt0 | exact jm_lti | exact jm_ltr | exact jm_ltl | exact jm_lti2 | exact jm_ltri | exact jm_ltir | exact jm_ltrr | exact jm_ltl2 | exact jm_ltrl | exact jm_ltlr | omega | assumption | exact sa_432 | exact sa_434 | exact n32_inA sb_432 (by omega) (by omega) | exact n32_inA sb_434 (by omega) (by omega) | exact bi01 | (rw [sa_432]; omega) | (rw [sa_434]; omega) | decide) only [sX12_word_0, sX12_word_1, sX12_word_4, sX12_word_5, sX12_word_6, sX12_word_7, sX12_word_8, sX12_word_9, sX12_word_10, sX12_word_13, sX12_word_15, sX12_word_16, sX12_word_19, sX12_word_22, sX12_word_23, sX12_word_26, sX12_word_27, sX12_word_28, sX12_word_31, sX12_word_34, sX12_word_35, sX12_word_37, sX12_word_40, sX12_word_41, sX12_word_42, sX12_word_43, sX12_word_44, sX12_word_47, sX12_word_48, sX12_word_49, sX12_word_51, sX12_word_52, sX12_word_53, kX12_word_56_AIII, sX12_word_56, kX12_word_57_AIII, sX12_word_57, sX12_word_58, sX12_word_61, sX12_word_64, kX12_word_67_AIII, sX12_word_67, sX12_word_68, sX12_word_70, sX12_word_73, sX12_word_74, kX12_word_77_NIIN, sX12_word_77, kX12_word_78_NIIN, kX12_word_78_NINN, sX12_word_78, evK_n, evK_v, evK_x, gI_pI, gJ_pI, gR_pI, gI_pJ, gJ_pJ, gR_pJ, gI_pR, gJ_pR, gR_pR, sa_432, sb_432, sa_434, sb_434, n32_le, n32_lt, n32_add, n32_mul, n32_cl, jm_lt0, jm_lti, jm_ltr, jm_ltl, jm_lti2, jm_ltri, jm_ltir, jm_ltrr, r1, h1, hb.1, m_isSmall hb.2, bi_eq]
        rw [if_neg (by omega), if_neg (by simpa using c2), if_pos (by omega)]
        rw [e4] at hrec
        exact hrec
    · rw [dif_neg (fun h => c2 h.2)]
      simp (disch := first | exact jm_lt0 | exact jm_lti | exact jm_ltr | exact jm_ltl | exact jm_lti2 | exact jm_ltri | exact jm_ltir | exact jm_ltrr | exact jm_ltl2 | exact jm_ltrl | exact jm_ltlr | omega | assumption | exact sa_432 | exact sa_434 | exact n32_inA sb_432 (by omega) (by omega) | exact n32_inA sb_434 (by omega) (by omega) | exact bi01 | (rw [sa_432]; omega) | (rw [sa_434]; omega) | decide) only [sX12_word_0, sX12_word_1, sX12_word_4, sX12_word_5, sX12_word_6, sX12_word_7, sX12_word_8, sX12_word_9, sX12_word_10, sX12_word_13, sX12_word_15, sX12_word_16, sX12_word_19, sX12_word_22, sX12_word_23, sX12_word_26, sX12_word_27, sX12_word_28, sX12_word_31, sX12_word_34, sX12_word_35, sX12_word_37, sX12_word_40, sX12_word_41, sX12_word_42, sX12_word_43, sX12_word_44, sX12_word_47, sX12_word_48, sX12_word_49, sX12_word_51, sX12_word_52, sX12_word_53, kX12_word_56_AIII, sX12_word_56, kX12_word_57_AIII, sX12_word_57, sX12_word_58, sX12_word_61, sX12_word_64, kX12_word_67_AIII, sX12_word_67, sX12_word_68, sX12_word_70, sX12_word_73, sX12_word_74, kX12_word_77_NIIN, sX12_word_77, kX12_word_78_NIIN, kX12_word_78_NINN, sX12_word_78, evK_n, evK_v, evK_x, gI_pI, gJ_pI, gR_pI, gI_pJ, gJ_pJ, gR_pJ, gI_pR, gJ_pR, gR_pR, sa_432, sb_432, sa_434, sb_434, n32_le, n32_lt, n32_add, n32_mul, n32_cl, jm_lt0, jm_lti, jm_ltr, jm_ltl, jm_lti2, jm_ltri, jm_ltir, jm_ltrr, if_true, if_false, not_true_eq_false, not_false_eq_true, and_true, true_and, and_false, false_and, and_self, or_true, true_or, or_false, false_or, or_self, ne_eq, Decidable.not_not, Nat.reduceEqDiff, Nat.reduceEqDiff, r1, h1, hb.1, m_isSmall hb.2, bi_eq, c2]
      rw [if_neg (by omega)]
      unfold wv
      by_cases c3 : k - p ≤ 6
      · rw [if_pos c3, if_pos c3]
      · rw [if_neg c3, if_neg c3]
  · rw [dif_neg (fun h => c1 h.1)]
    simp (disch := first | exact jm_lt0 | exact jm_lti | exact jm_ltr | exact jm_ltl | exact jm_lti2 | exact jm_ltri | exact jm_ltir | exact jm_ltrr | exact jm_ltl2 | exact jm_ltrl | exact jm_ltlr | omega | assumption | exact sa_432 | exact sa_434 | exact n32_inA sb_432 (by omega) (by omega) | exact n32_inA sb_434 (by omega) (by omega) | exact bi01 | (rw [sa_432]; omega) | (rw [sa_434]; omega) | decide) only [sX12_word_0, sX12_word_1, sX12_word_4, sX12_word_5, sX12_word_6, sX12_word_7, sX12_word_8, sX12_word_9, sX12_word_10, sX12_word_13, sX12_word_15, sX12_word_16, sX12_word_19, sX12_word_22, sX12_word_23, sX12_word_26, sX12_word_27, sX12_word_28, sX12_word_31, sX12_word_34, sX12_word_35, sX12_word_37, sX12_word_40, sX12_word_41, sX12_word_42, sX12_word_43, sX12_word_44, sX12_word_47, sX12_word_48, sX12_word_49, sX12_word_51, sX12_word_52, sX12_word_53, kX12_word_56_AIII, sX12_word_56, kX12_word_57_AIII, sX12_word_57, sX12_word_58, sX12_word_61, sX12_word_64, kX12_word_67_AIII, sX12_word_67, sX12_word_68, sX12_word_70, sX12_word_73, sX12_word_74, kX12_word_77_NIIN, sX12_word_77, kX12_word_78_NIIN, kX12_word_78_NINN, sX12_word_78, evK_n, evK_v, evK_x, gI_pI, gJ_pI, gR_pI, gI_pJ, gJ_pJ, gR_pJ, gI_pR, gJ_pR, gR_pR, sa_432, sb_432, sa_434, sb_434, n32_le, n32_lt, n32_add, n32_mul, n32_cl, jm_lt0, jm_lti, jm_ltr, jm_ltl, jm_lti2, jm_ltri, jm_ltir, jm_ltrr, if_true, if_false, not_true_eq_false, not_false_eq_true, and_true, true_and, and_false, false_and, and_self, or_true, true_or, or_false, false_or, or_self, ne_eq, Decidable.not_not, Nat.reduceEqDiff, Nat.reduceEqDiff, h1]
    rw [if_pos (by omega)]
    unfold wv
    by_cases c3 : k - p ≤ 6
    · rw [if_pos c3, if_pos c3]
    · rw [if_neg c3, if_neg c3]
termination_by e - k
theorem m_word {g : fm_g} {d : Nat} {B : Nat → Nat} {e a : Nat} {s : fm_S} (hF : FX s) (hT : MT s B e a) : ev g (d + 1) mX12_word 0 [some (.ref (432 : Nat)), none, none, none] [] s = some (.inl (some (.int (Int32.ofNat (wv B (skp B e a) (letR B e (skp B e a)))))), pI s 432 4 (Int32.ofNat (skp B e a))) := by
  have hl := skp_le (B := B) hT.2.2.1
  have hF' : FX (pI s 432 4 (Int32.ofNat (skp B e a))) := hF.pI
  have hT' := hT.at hl.2
  have h := m_wordLoop (g := g) (d := d) hF' hT' (Nat.le_refl (skp B e a)) hl.2 (fun i h1 h2 => by omega)
  have e0 : wv B (skp B e a) (skp B e a) = 0 := by simp [wv, runR, cod]
  rw [e0, Nat.sub_self] at h
  simp (disch := first | exact jm_lt0 | exact jm_lti | exact jm_ltr | exact jm_ltl | exact jm_lti2 | exact jm_ltri | exact jm_ltir | exact jm_ltrr | exact jm_ltl2 | exact jm_ltrl | exact jm_ltlr | omega | assumption | exact sa_432 | exact n32_inA sb_432 (by omega) (by omega) | exact bi01 | (rw [sa_432]; omega) | decide) only [sX12_word_0, sX12_word_1, sX12_word_4, sX12_word_5, sX12_word_6, sX12_word_7, sX12_word_8, sX12_word_9, sX12_word_10, sX12_word_13, sX12_word_15, sX12_word_16, sX12_word_19, sX12_word_22, sX12_word_23, sX12_word_26, sX12_word_27, sX12_word_28, sX12_word_31, sX12_word_34, sX12_word_35, sX12_word_37, sX12_word_40, sX12_word_41, sX12_word_42, sX12_word_43, sX12_word_44, sX12_word_47, sX12_word_48, sX12_word_49, sX12_word_51, sX12_word_52, sX12_word_53, kX12_word_56_AIII, sX12_word_56, kX12_word_57_AIII, sX12_word_57, sX12_word_58, sX12_word_61, sX12_word_64, kX12_word_67_AIII, sX12_word_67, sX12_word_68, sX12_word_70, sX12_word_73, sX12_word_74, kX12_word_77_NIIN, sX12_word_77, kX12_word_78_NIIN, kX12_word_78_NINN, sX12_word_78, evK_n, evK_v, evK_x, gI_pI, gJ_pI, gR_pI, gI_pJ, gJ_pJ, gR_pJ, gI_pR, gJ_pR, gR_pR, sa_432, sb_432, jm_lt0, jm_lti, jm_ltr, jm_ltl, jm_lti2, jm_ltri, jm_ltir, jm_ltrr, if_true, if_false, not_true_eq_false, not_false_eq_true, and_true, true_and, and_false, false_and, and_self, or_true, true_or, or_false, false_or, or_self, ne_eq, Decidable.not_not, Nat.reduceEqDiff, Nat.reduceEqDiff, m_here hF hT]
  exact h
theorem m_ofLoop {g : fm_g} {d k : Nat} {w : List Nat} {s : fm_S} (hw : lit k w) (hl : ∀ c ∈ w, isL c) (h6 : w.length ≤ 6) : ∀ i, i ≤ w.length → ev g (d + 4) mX12_of 4 [some (.retAddr k), some (.int (Int32.ofNat (cod (w.take i)))), some (.int (Int32.ofNat i))] [] s = some (.inl (some (.int (Int32.ofNat (cod w)))), s) := by
  intro i hi
  have hk := hw.lt
  rw [sX12_of_4]
  by_cases c1 : i < w.length
  · have hc : isL (w.getD i 0) := by
      have e : w.getD i 0 = w[i] := by simp [List.getD, c1]
      rw [e]
      exact hl _ (List.getElem_mem c1)
    have h7 : cod (w.take i) < 33554432 := by
      have h8 := cod_lt (w.take i) (fun c hc => hl c (List.mem_of_mem_take hc))
      have h9 : 32 ^ (w.take i).length ≤ 32 ^ 5 := Nat.pow_le_pow_right (by decide) (by simp; omega)
      omega
    have e4 : cod (w.take (i + 1)) = cod (w.take i) * 32 + (w.getD i 0 - 96) := by
      rw [List.take_add_one, show w[i]?.toList = [w.getD i 0] by simp [List.getD, c1], cod_snoc]
    have hrec := m_ofLoop (g := g) (d := d) (s := s) hw hl h6 (i + 1) (by omega)
    simp (disch := first | exact jm_lt0 | exact jm_lti | exact jm_ltr | exact jm_ltl | exact jm_lti2 | exact jm_ltri | exact jm_ltir | exact jm_ltrr | exact jm_ltl2 | exact jm_ltrl | exact jm_ltlr | omega | assumption | exact sa_1 | exact n32_inA sb_1 (by omega) (by omega) | exact bi01 | (rw [sa_1]; omega) | decide) only [sX12_of_0, sX12_of_1, sX12_of_2, sX12_of_3, sX12_of_5, sX12_of_6, sX12_of_9, sX12_of_12, sX12_of_13, sX12_of_14, sX12_of_15, sX12_of_16, sX12_of_17, sX12_of_20, sX12_of_22, sX12_of_23, sX12_of_24, sX12_of_25, sX12_of_28, kX12_of_31_SII, sX12_of_31, sX12_of_32, evK_n, evK_v, evK_x, gI_pI, gJ_pI, gR_pI, gI_pJ, gJ_pJ, gR_pJ, gI_pR, gJ_pR, gR_pR, n32_le, n32_lt, n32_add, n32_mul, n32_cl, jm_lt0, jm_lti, jm_ltr, jm_ltl, jm_lti2, jm_ltri, jm_ltir, jm_ltrr, cs_len hw, cs_charAt hw c1, n32_sub, i32_code]
    rw [if_neg (by omega), ← e4]
    exact hrec
  · have e1 : i = w.length := by omega
    simp (disch := first | exact jm_lt0 | exact jm_lti | exact jm_ltr | exact jm_ltl | exact jm_lti2 | exact jm_ltri | exact jm_ltir | exact jm_ltrr | exact jm_ltl2 | exact jm_ltrl | exact jm_ltlr | omega | assumption | exact sa_1 | exact n32_inA sb_1 (by omega) (by omega) | exact bi01 | (rw [sa_1]; omega) | decide) only [sX12_of_0, sX12_of_1, sX12_of_2, sX12_of_3, sX12_of_5, sX12_of_6, sX12_of_9, sX12_of_12, sX12_of_13, sX12_of_14, sX12_of_15, sX12_of_16, sX12_of_17, sX12_of_20, sX12_of_22, sX12_of_23, sX12_of_24, sX12_of_25, sX12_of_28, kX12_of_31_SII, sX12_of_31, sX12_of_32, evK_n, evK_v, evK_x, gI_pI, gJ_pI, gR_pI, gI_pJ, gJ_pJ, gR_pJ, gI_pR, gJ_pR, gR_pR, n32_le, n32_lt, n32_add, n32_mul, n32_cl, jm_lt0, jm_lti, jm_ltr, jm_ltl, jm_lti2, jm_ltri, jm_ltir, jm_ltrr, cs_len hw]
    rw [if_pos (by omega), e1, List.take_length]
termination_by i => w.length - i
theorem m_of {g : fm_g} {d k : Nat} {w : List Nat} {s : fm_S} (hw : lit k w) (hl : ∀ c ∈ w, isL c) (h6 : w.length ≤ 6) : ev g (d + 4) mX12_of 0 [some (.retAddr k), none, none] [] s = some (.inl (some (.int (Int32.ofNat (cod w)))), s) := by
  have h := m_ofLoop (g := g) (d := d) (s := s) hw hl h6 0 (by omega)
  simp (disch := first | exact jm_lt0 | exact jm_lti | exact jm_ltr | exact jm_ltl | exact jm_lti2 | exact jm_ltri | exact jm_ltir | exact jm_ltrr | exact jm_ltl2 | exact jm_ltrl | exact jm_ltlr | omega | assumption | exact sa_1 | exact n32_inA sb_1 (by omega) (by omega) | exact bi01 | (rw [sa_1]; omega) | decide) only [sX12_of_0, sX12_of_1, sX12_of_2, sX12_of_3]
  exact h
