/-! words: the String constants, and the class's takeWordOf -/
theorem i32_shr0 (x : Int32) : x >>> ((0 : Int32) &&& 31) = x := by
  have h : ((0 : Int32) &&& 31) = 0 := by decide
  rw [h]
  apply Int32.toBitVec.inj
  simp
theorem chr_ok : ∀ c : Nat, c < 128 → ((Int32.ofNat c &&& Int32.ofNat 255).toUInt32 % 65536).toInt32 = Int32.ofNat c ∧ narrow .char (.int (Int32.ofNat c)) = .int (Int32.ofNat c) := by decide +kernel
/-- the String constant k is the text w -/
def lit (k : Nat) (w : List Nat) : Prop := jm_lits[k]? = some (w.map Int32.ofNat) ∧ w.length < 1000 ∧ ∀ c ∈ w, c < 128
theorem lit.lt {k : Nat} {w : List Nat} (h : lit k w) : k < jm_lits.length := (List.getElem?_eq_some_iff.mp h.1).1
theorem cs_coder {g : fm_g} {d k : Nat} {s : fm_S} (hk : k < jm_lits.length) : ev g d mJS_coder 0 [some (.retAddr k)] [] s = some (.inl (some (.int 0)), s) := by
  simp (disch := first | exact jm_lt0 | exact jm_lti | exact jm_ltr | exact jm_ltl | exact jm_lti2 | exact jm_ltri | exact jm_ltir | exact jm_ltrr | exact jm_ltl2 | exact jm_ltrl | exact jm_ltlr | omega | assumption | exact sa_1 | exact n32_inA sb_1 (by omega) (by omega) | exact bi01 | (rw [sa_1]; omega) | decide) only [sJS_coder_0, sJS_coder_3, sJS_coder_6, sJS_coder_7, sJS_coder_10, kJS_coder_13_S, sJS_coder_13, kJS_coder_14_S, sJS_coder_14, show ¬ ((1 : Int32) = 0) by decide, if_false]
theorem cs_len {g : fm_g} {d k : Nat} {w : List Nat} {s : fm_S} (h : lit k w) : ev g (d + 1) mJS_length 0 [some (.retAddr k)] [] s = some (.inl (some (.int (Int32.ofNat w.length))), s) := by
  have hk := h.lt
  have h1 : 1000 ≤ k + 1000 := by omega
  have h2 : (jm_lits[k + 1000 - 1000]?).map List.length = some w.length := by
    rw [Nat.add_sub_cancel, h.1]
    simp
  rw [sJS_length_0, sJS_length_1 _ _ _ _ _ _ hk, sJS_length_4 _ _ _ _ _ _ _ h1 h2, sJS_length_5, sJS_length_6 _ _ _ _ _ _ hk jm_lti, cs_coder hk, evK_v, sJS_length_9, i32_shr0, sJS_length_10]
theorem cs_isLatin1 {g : fm_g} {d k : Nat} {s : fm_S} (hk : k < jm_lits.length) : ev g d mJS_isLatin1 0 [some (.retAddr k)] [] s = some (.inl (some (.int (Int32.ofNat 1))), s) := by
  have h1 : Int32.ofNat 1 = 0 ∨ Int32.ofNat 1 = 1 := Or.inr rfl
  simp (disch := first | exact jm_lt0 | exact jm_lti | exact jm_ltr | exact jm_ltl | exact jm_lti2 | exact jm_ltri | exact jm_ltir | exact jm_ltrr | exact jm_ltl2 | exact jm_ltrl | exact jm_ltlr | omega | assumption | exact sa_1 | exact n32_inA sb_1 (by omega) (by omega) | exact bi01 | (rw [sa_1]; omega) | decide) only [sJS_isLatin1_0, sJS_isLatin1_3, sJS_isLatin1_6, sJS_isLatin1_7, sJS_isLatin1_10, sJS_isLatin1_13, sJS_isLatin1_14, kJS_isLatin1_17_S, sJS_isLatin1_17, kJS_isLatin1_18_S, sJS_isLatin1_18, show ¬ ((1 : Int32) = 0) by decide, if_false, ne_eq, not_true_eq_false]
theorem cs_check2 {g : fm_g} {d i n : Nat} {f : UInt32} {s : fm_S} (hi : i < n) (hn : n < 100000) : ev g d mJP_checkIndex 0 [some (.int (Int32.ofNat i)), some (.int (Int32.ofNat n)), some (.float f)] [] s = some (.inl (some (.int (Int32.ofNat i))), s) := by
  simp (disch := first | exact jm_lt0 | exact jm_lti | exact jm_ltr | exact jm_ltl | exact jm_lti2 | exact jm_ltri | exact jm_ltir | exact jm_ltrr | exact jm_ltl2 | exact jm_ltrl | exact jm_ltlr | omega | assumption | exact sa_1 | exact n32_inA sb_1 (by omega) (by omega) | exact bi01 | (rw [sa_1]; omega) | decide) only [sJP_checkIndex_0, sJP_checkIndex_1, sJP_checkIndex_4, sJP_checkIndex_5, sJP_checkIndex_6, kJP_checkIndex_16_IIF, sJP_checkIndex_16, sJP_checkIndex_17, n32_lt0, n32_lt, hi, if_true, if_false]
theorem cs_check {g : fm_g} {d i n : Nat} {s : fm_S} (hi : i < n) (hn : n < 100000) : ev g (d + 1) mJS_checkIndex 0 [some (.int (Int32.ofNat i)), some (.int (Int32.ofNat n))] [] s = some (.inl none, s) := by
  simp (disch := first | exact jm_lt0 | exact jm_lti | exact jm_ltr | exact jm_ltl | exact jm_lti2 | exact jm_ltri | exact jm_ltir | exact jm_ltrr | exact jm_ltl2 | exact jm_ltrl | exact jm_ltlr | omega | assumption | exact sa_1 | exact n32_inA sb_1 (by omega) (by omega) | exact bi01 | (rw [sa_1]; omega) | decide) only [sJS_checkIndex_0, sJS_checkIndex_1, sJS_checkIndex_2, sJS_checkIndex_5, sJS_checkIndex_8, sJS_checkIndex_9, evK_n, evK_v, evK_x, gI_pI, gJ_pI, gR_pI, gI_pJ, gJ_pJ, gR_pJ, gI_pR, gJ_pR, gR_pR, cs_check2 hi hn]
theorem cs_charAt2 {g : fm_g} {d k i : Nat} {w : List Nat} {s : fm_S} (h : lit k w) (hi : i < w.length) : ev g (d + 2) mJL_charAt 0 [some (.retAddr (k + 1000)), some (.int (Int32.ofNat i))] [] s = some (.inl (some (.int (Int32.ofNat (w.getD i 0)))), s) := by
  have h1 : 1000 ≤ k + 1000 := by omega
  have hw := h.2.1
  have h3 : jm_lits[k + 1000 - 1000]? = some (w.map Int32.ofNat) := by rw [Nat.add_sub_cancel, h.1]
  have h2 : (jm_lits[k + 1000 - 1000]?).map List.length = some w.length := by
    rw [h3]
    simp
  have h4 : jm_in (Int32.ofNat i) (w.map Int32.ofNat).length = true := by
    rw [List.length_map]
    exact n32_in' (by omega) hi
  have hc : w.getD i 0 < 128 := by
    have e : w.getD i 0 = w[i] := by simp [List.getD, hi]
    rw [e]
    exact h.2.2 _ (List.getElem_mem hi)
  have h5 : (w.map Int32.ofNat).getD (Int32.ofNat i).toNatClampNeg 0 = Int32.ofNat (w.getD i 0) := by
    rw [n32_cl (by omega)]
    simp [List.getD, hi]
  obtain ⟨h6, h7⟩ := chr_ok _ hc
  rw [sJL_charAt_0, sJL_charAt_1, sJL_charAt_2 _ _ _ _ _ _ _ _ h1 h2, sJL_charAt_3 _ _ _ _ _ _ _ _ jm_lt0, cs_check hi (by omega), evK_n, sJL_charAt_6, sJL_charAt_7, sJL_charAt_8 _ _ _ _ _ _ _ _ _ h1 h3 h4, h5, sJL_charAt_9, sJL_charAt_12, sJL_charAt_13, h6, sJL_charAt_14 _ _ _ _ _ _ h7]
theorem cs_charAt {g : fm_g} {d k i : Nat} {w : List Nat} {s : fm_S} (h : lit k w) (hi : i < w.length) : ev g (d + 3) mJS_charAt 0 [some (.retAddr k), some (.int (Int32.ofNat i))] [] s = some (.inl (some (.int (Int32.ofNat (w.getD i 0)))), s) := by
  have hk := h.lt
  have hc : w.getD i 0 < 128 := by
    have e : w.getD i 0 = w[i] := by simp [List.getD, hi]
    rw [e]
    exact h.2.2 _ (List.getElem_mem hi)
  obtain ⟨h6, h7⟩ := chr_ok _ hc
  simp (disch := first | exact jm_lt0 | exact jm_lti | exact jm_ltr | exact jm_ltl | exact jm_lti2 | exact jm_ltri | exact jm_ltir | exact jm_ltrr | exact jm_ltl2 | exact jm_ltrl | exact jm_ltlr | omega | assumption | exact sa_1 | exact n32_inA sb_1 (by omega) (by omega) | exact bi01 | (rw [sa_1]; omega) | decide) only [sJS_charAt_0, sJS_charAt_1, sJS_charAt_4, sJS_charAt_7, sJS_charAt_8, sJS_charAt_11, sJS_charAt_12, sJS_charAt_15, evK_n, evK_v, evK_x, gI_pI, gJ_pI, gR_pI, gI_pJ, gJ_pJ, gR_pJ, gI_pR, gJ_pR, gR_pR, cs_isLatin1 hk, cs_charAt2 h hi, show ¬ (Int32.ofNat 1 = 0) by decide, if_false]
/-- the end of the letters -/
def letR (B : Nat → Nat) (e p : Nat) : Nat := if h : p < e ∧ isL (B p) then letR B e (p + 1) else p
termination_by e - p
decreasing_by omega
theorem letR_le {B : Nat → Nat} {e p : Nat} (h : p ≤ e) : p ≤ letR B e p ∧ letR B e p ≤ e := by
  rw [letR]
  split
  next hc =>
    have := letR_le (B := B) (e := e) (p := p + 1) (by omega)
    omega
  next => omega
termination_by e - p
def runR (B : Nat → Nat) (p q : Nat) : List Nat := (List.range (q - p)).map fun i => B (p + i)
def flatW : List (List Nat) → List Nat
  | [] => []
  | v :: vs => v ++ 32 :: flatW vs
def wix : List (List Nat) → List Nat → Option Nat
  | [], _ => none
  | v :: vs, r => if v = r then some 0 else (wix vs r).map (· + 1)
theorem c9_letLoop {g : fm_g} {d k : Nat} {B : Nat → Nat} {e a p : Nat} {s : fm_S} (hF : FX s) (hT : CU s B e a) (hp : p ≤ e) : ev g (d + 1) mX9_takeWordOf 14 [some (.ref (1 : Nat)), some (.retAddr k), some (.int (Int32.ofNat p)), none, none, none] [] s = ev g (d + 1) mX9_takeWordOf 39 [some (.ref (1 : Nat)), some (.retAddr k), some (.int (Int32.ofNat (letR B e p))), none, none, none] [] s := by
  obtain ⟨h1, h2, h3, h4, h5⟩ := id hT
  rw [sX9_takeWordOf_14, letR]
  by_cases c1 : p < e
  · have hb := h5 p c1
    simp (disch := first | exact jm_lt0 | exact jm_lti | exact jm_ltr | exact jm_ltl | exact jm_lti2 | exact jm_ltri | exact jm_ltir | exact jm_ltrr | exact jm_ltl2 | exact jm_ltrl | exact jm_ltlr | omega | assumption | exact sa_1 | exact n32_inA sb_1 (by omega) (by omega) | exact bi01 | (rw [sa_1]; omega) | decide) only [sX9_takeWordOf_0, sX9_takeWordOf_1, sX9_takeWordOf_4, sX9_takeWordOf_7, sX9_takeWordOf_8, sX9_takeWordOf_9, sX9_takeWordOf_10, sX9_takeWordOf_13, sX9_takeWordOf_15, sX9_takeWordOf_16, sX9_takeWordOf_19, sX9_takeWordOf_22, sX9_takeWordOf_23, sX9_takeWordOf_24, sX9_takeWordOf_27, sX9_takeWordOf_30, sX9_takeWordOf_33, sX9_takeWordOf_36, sX9_takeWordOf_40, sX9_takeWordOf_41, sX9_takeWordOf_42, sX9_takeWordOf_44, sX9_takeWordOf_45, sX9_takeWordOf_49, sX9_takeWordOf_50, sX9_takeWordOf_53, sX9_takeWordOf_56, sX9_takeWordOf_57, sX9_takeWordOf_59, sX9_takeWordOf_62, sX9_takeWordOf_64, sX9_takeWordOf_67, sX9_takeWordOf_69, sX9_takeWordOf_70, sX9_takeWordOf_71, sX9_takeWordOf_72, sX9_takeWordOf_73, sX9_takeWordOf_76, sX9_takeWordOf_77, sX9_takeWordOf_80, sX9_takeWordOf_81, sX9_takeWordOf_82, sX9_takeWordOf_83, sX9_takeWordOf_85, sX9_takeWordOf_88, sX9_takeWordOf_91, sX9_takeWordOf_92, sX9_takeWordOf_93, sX9_takeWordOf_96, sX9_takeWordOf_98, kX9_takeWordOf_99_ASIIII, sX9_takeWordOf_99, sX9_takeWordOf_101, sX9_takeWordOf_102, sX9_takeWordOf_103, sX9_takeWordOf_104, sX9_takeWordOf_107, sX9_takeWordOf_110, kX9_takeWordOf_113_ASIIII, sX9_takeWordOf_113, sX9_takeWordOf_114, evK_n, evK_v, evK_x, gI_pI, gJ_pI, gR_pI, gI_pJ, gJ_pJ, gR_pJ, gI_pR, gJ_pR, gR_pR, sa_1, sb_1, n32_le, n32_lt, n32_add, n32_mul, n32_cl, jm_lt0, jm_lti, jm_ltr, jm_ltl, jm_lti2, jm_ltri, jm_ltir, jm_ltrr, h1, c9_byteAt hF (show p < 600 by omega), c9_isLetter, hb.1, cb_isL hb.2, bi_eq]
    rw [if_neg (by omega)]
    by_cases c2 : isL (B p)
    · rw [if_neg (by simpa using c2), dif_pos ⟨c1, c2⟩]
      exact c9_letLoop hF hT (by omega)
    · rw [if_pos c2, dif_neg (fun h => c2 h.2)]
  · simp (disch := first | exact jm_lt0 | exact jm_lti | exact jm_ltr | exact jm_ltl | exact jm_lti2 | exact jm_ltri | exact jm_ltir | exact jm_ltrr | exact jm_ltl2 | exact jm_ltrl | exact jm_ltlr | omega | assumption | exact sa_1 | exact n32_inA sb_1 (by omega) (by omega) | exact bi01 | (rw [sa_1]; omega) | decide) only [sX9_takeWordOf_0, sX9_takeWordOf_1, sX9_takeWordOf_4, sX9_takeWordOf_7, sX9_takeWordOf_8, sX9_takeWordOf_9, sX9_takeWordOf_10, sX9_takeWordOf_13, sX9_takeWordOf_15, sX9_takeWordOf_16, sX9_takeWordOf_19, sX9_takeWordOf_22, sX9_takeWordOf_23, sX9_takeWordOf_24, sX9_takeWordOf_27, sX9_takeWordOf_30, sX9_takeWordOf_33, sX9_takeWordOf_36, sX9_takeWordOf_40, sX9_takeWordOf_41, sX9_takeWordOf_42, sX9_takeWordOf_44, sX9_takeWordOf_45, sX9_takeWordOf_49, sX9_takeWordOf_50, sX9_takeWordOf_53, sX9_takeWordOf_56, sX9_takeWordOf_57, sX9_takeWordOf_59, sX9_takeWordOf_62, sX9_takeWordOf_64, sX9_takeWordOf_67, sX9_takeWordOf_69, sX9_takeWordOf_70, sX9_takeWordOf_71, sX9_takeWordOf_72, sX9_takeWordOf_73, sX9_takeWordOf_76, sX9_takeWordOf_77, sX9_takeWordOf_80, sX9_takeWordOf_81, sX9_takeWordOf_82, sX9_takeWordOf_83, sX9_takeWordOf_85, sX9_takeWordOf_88, sX9_takeWordOf_91, sX9_takeWordOf_92, sX9_takeWordOf_93, sX9_takeWordOf_96, sX9_takeWordOf_98, kX9_takeWordOf_99_ASIIII, sX9_takeWordOf_99, sX9_takeWordOf_101, sX9_takeWordOf_102, sX9_takeWordOf_103, sX9_takeWordOf_104, sX9_takeWordOf_107, sX9_takeWordOf_110, kX9_takeWordOf_113_ASIIII, sX9_takeWordOf_113, sX9_takeWordOf_114, evK_n, evK_v, evK_x, gI_pI, gJ_pI, gR_pI, gI_pJ, gJ_pJ, gR_pJ, gI_pR, gJ_pR, gR_pR, sa_1, sb_1, n32_le, n32_lt, n32_add, n32_mul, n32_cl, jm_lt0, jm_lti, jm_ltr, jm_ltl, jm_lti2, jm_ltri, jm_ltir, jm_ltrr, h1]
    rw [if_pos (by omega), dif_neg (fun h => c1 h.1)]
termination_by e - p
/-- a part of a text against what stands at the place a -/
def matR (w : List Nat) (B : Nat → Nat) (a st sp i : Nat) : Bool := if h : i < sp then (if w.getD i 0 = B (a + (i - st)) then matR w B a st sp (i + 1) else false) else true
termination_by sp - i
decreasing_by omega
theorem matR_iff {w : List Nat} {B : Nat → Nat} {a st sp i : Nat} : matR w B a st sp i = true ↔ ∀ j, i ≤ j → j < sp → w.getD j 0 = B (a + (j - st)) := by
  rw [matR]
  split
  next h =>
    split
    next h1 =>
      rw [matR_iff]
      constructor
      · intro h2 j hj1 hj2
        by_cases e : j = i
        · subst e; exact h1
        · exact h2 j (by omega) hj2
      · intro h2 j hj1 hj2
        exact h2 j (by omega) hj2
    next h1 =>
      constructor
      · intro h2; cases h2
      · intro h2; exact absurd (h2 i (Nat.le_refl _) h) h1
  next h =>
    constructor
    · intro _ j hj1 hj2; omega
    · intro _; rfl
termination_by sp - i
theorem lit.getD {k : Nat} {w : List Nat} (h : lit k w) {i : Nat} (hi : i < w.length) : w.getD i 0 < 128 := by
  have e : w.getD i 0 = w[i] := by simp [List.getD, hi]
  rw [e]
  exact h.2.2 _ (List.getElem_mem hi)
theorem n32_cbe {c n : Nat} (hn : n < 256) (hc : c < 128) : (Int32.ofNat c = cb n) = (c = n) := propext ⟨fun h => ((cb_eq hn hc) ▸ h.symm : n = c).symm, fun h => by rw [h, cb_of (by omega)]⟩
theorem c9_matLoop {g : fm_g} {d k : Nat} {w : List Nat} {B : Nat → Nat} {e a st sp i : Nat} {s : fm_S} (hw : lit k w) (hF : FX s) (hT : CU s B e a) (hi : st ≤ i) (his : i ≤ sp) (hsp : sp ≤ w.length) (hae : a + (sp - st) ≤ e) : ev g (d + 4) mX9_matches 3 [some (.ref (1 : Nat)), some (.retAddr k), some (.int (Int32.ofNat st)), some (.int (Int32.ofNat sp)), some (.int (Int32.ofNat i)), none] [] s = some (.inl (some (.int (bi (matR w B a st sp i = true)))), s) := by
  obtain ⟨h1, h2, h3, h4, h5⟩ := id hT
  have hk := hw.lt
  have hw2 := hw.2.1
  have r1 := hF.u 1 0 2 (by decide +kernel)
  rw [sX9_matches_3]
  by_cases c1 : i < sp
  · have hb := h5 (a + (i - st)) (by omega)
    have hc := hw.getD (show i < w.length by omega)
    have e1 : a + i - st = a + (i - st) := by omega
    simp (disch := first | exact jm_lt0 | exact jm_lti | exact jm_ltr | exact jm_ltl | exact jm_lti2 | exact jm_ltri | exact jm_ltir | exact jm_ltrr | exact jm_ltl2 | exact jm_ltrl | exact jm_ltlr | omega | assumption | exact sa_1 | exact sa_2 | exact n32_inA sb_1 (by omega) (by omega) | exact n32_inA sb_2 (by omega) (by omega) | exact bi01 | (rw [sa_1]; omega) | (rw [sa_2]; omega) | decide) only [sX9_matches_0, sX9_matches_1, sX9_matches_5, sX9_matches_6, sX9_matches_9, sX9_matches_10, sX9_matches_13, sX9_matches_15, sX9_matches_16, sX9_matches_17, sX9_matches_18, sX9_matches_20, sX9_matches_22, sX9_matches_25, sX9_matches_27, sX9_matches_28, sX9_matches_31, sX9_matches_34, sX9_matches_36, sX9_matches_39, sX9_matches_41, sX9_matches_42, sX9_matches_45, sX9_matches_46, sX9_matches_49, sX9_matches_50, sX9_matches_52, sX9_matches_55, sX9_matches_56, sX9_matches_59, sX9_matches_61, sX9_matches_62, kX9_matches_65_ASIIII, sX9_matches_65, sX9_matches_66, kX9_matches_67_ASIIII, sX9_matches_67, sX9_matches_70, kX9_matches_73_ASIIIN, sX9_matches_73, sX9_matches_74, evK_n, evK_v, evK_x, gI_pI, gJ_pI, gR_pI, gI_pJ, gJ_pJ, gR_pJ, gI_pR, gJ_pR, gR_pR, sa_1, sb_1, sa_2, sb_2, n32_le, n32_lt, n32_add, n32_mul, n32_cl, jm_lt0, jm_lti, jm_ltr, jm_ltl, jm_lti2, jm_ltri, jm_ltir, jm_ltrr, h2, r1, n32_lt0, n32_sub, cs_len hw, cs_charAt hw (show i < w.length by omega), e1, hb.1, n32_cbe hb.2 hc, if_false]
    rw [if_neg (by omega), if_neg (by omega), if_neg (by omega), matR, dif_pos c1]
    by_cases c2 : w.getD i 0 = B (a + (i - st))
    · rw [if_pos c2]
      simp only [if_pos c2]
      exact c9_matLoop hw hF hT (by omega) (by omega) hsp hae
    · rw [if_neg c2]
      simp only [if_neg c2]
      rfl
  · simp (disch := first | exact jm_lt0 | exact jm_lti | exact jm_ltr | exact jm_ltl | exact jm_lti2 | exact jm_ltri | exact jm_ltir | exact jm_ltrr | exact jm_ltl2 | exact jm_ltrl | exact jm_ltlr | omega | assumption | exact sa_1 | exact n32_inA sb_1 (by omega) (by omega) | exact bi01 | (rw [sa_1]; omega) | decide) only [sX9_matches_0, sX9_matches_1, sX9_matches_5, sX9_matches_6, sX9_matches_9, sX9_matches_10, sX9_matches_13, sX9_matches_15, sX9_matches_16, sX9_matches_17, sX9_matches_18, sX9_matches_20, sX9_matches_22, sX9_matches_25, sX9_matches_27, sX9_matches_28, sX9_matches_31, sX9_matches_34, sX9_matches_36, sX9_matches_39, sX9_matches_41, sX9_matches_42, sX9_matches_45, sX9_matches_46, sX9_matches_49, sX9_matches_50, sX9_matches_52, sX9_matches_55, sX9_matches_56, sX9_matches_59, sX9_matches_61, sX9_matches_62, kX9_matches_65_ASIIII, sX9_matches_65, sX9_matches_66, kX9_matches_67_ASIIII, sX9_matches_67, sX9_matches_70, kX9_matches_73_ASIIIN, sX9_matches_73, sX9_matches_74, evK_n, evK_v, evK_x, gI_pI, gJ_pI, gR_pI, gI_pJ, gJ_pJ, gR_pJ, gI_pR, gJ_pR, gR_pR, sa_1, sb_1, n32_le, n32_lt, n32_add, n32_mul, n32_cl, jm_lt0, jm_lti, jm_ltr, jm_ltl, jm_lti2, jm_ltri, jm_ltir, jm_ltrr]
    rw [if_pos (by omega), matR, dif_neg c1]
    rfl
termination_by sp - i
theorem c9_matches {g : fm_g} {d k : Nat} {w : List Nat} {B : Nat → Nat} {e a st sp : Nat} {s : fm_S} (hw : lit k w) (hF : FX s) (hT : CU s B e a) (his : st ≤ sp) (hsp : sp ≤ w.length) (hae : a + (sp - st) ≤ e) : ev g (d + 4) mX9_matches 0 [some (.ref (1 : Nat)), some (.retAddr k), some (.int (Int32.ofNat st)), some (.int (Int32.ofNat sp)), none, none] [] s = some (.inl (some (.int (bi (matR w B a st sp st = true)))), s) := by
  rw [sX9_matches_0, sX9_matches_1]
  exact c9_matLoop hw hF hT (Nat.le_refl _) his hsp hae
/-- one word of a list, and the next ones -/
theorem c9_wIn {g : fm_g} {d k : Nat} {w : List Nat} {q st m i n : Nat} {s : fm_S} (hw : lit k w) (hn : n < w.length) (hi : i ≤ n) (hv : ∀ j, i ≤ j → j < n → w.getD j 0 ≠ 32) : ev g (d + 5) mX9_takeWordOf 47 [some (.ref (1 : Nat)), some (.retAddr k), some (.int (Int32.ofNat q)), some (.int (Int32.ofNat st)), some (.int (Int32.ofNat m)), some (.int (Int32.ofNat i))] [] s = ev g (d + 5) mX9_takeWordOf 47 [some (.ref (1 : Nat)), some (.retAddr k), some (.int (Int32.ofNat q)), some (.int (Int32.ofNat st)), some (.int (Int32.ofNat m)), some (.int (Int32.ofNat n))] [] s := by
  by_cases c : i = n
  · rw [c]
  · have hk := hw.lt
    have hw2 := hw.2.1
    have hc := hw.getD (show i < w.length by omega)
    rw [sX9_takeWordOf_47]
    simp (disch := first | exact jm_lt0 | exact jm_lti | exact jm_ltr | exact jm_ltl | exact jm_lti2 | exact jm_ltri | exact jm_ltir | exact jm_ltrr | exact jm_ltl2 | exact jm_ltrl | exact jm_ltlr | omega | assumption | exact sa_1 | exact n32_inA sb_1 (by omega) (by omega) | exact bi01 | (rw [sa_1]; omega) | decide) only [sX9_takeWordOf_0, sX9_takeWordOf_1, sX9_takeWordOf_4, sX9_takeWordOf_7, sX9_takeWordOf_8, sX9_takeWordOf_9, sX9_takeWordOf_10, sX9_takeWordOf_13, sX9_takeWordOf_15, sX9_takeWordOf_16, sX9_takeWordOf_19, sX9_takeWordOf_22, sX9_takeWordOf_23, sX9_takeWordOf_24, sX9_takeWordOf_27, sX9_takeWordOf_30, sX9_takeWordOf_33, sX9_takeWordOf_36, sX9_takeWordOf_39, sX9_takeWordOf_40, sX9_takeWordOf_41, sX9_takeWordOf_42, sX9_takeWordOf_44, sX9_takeWordOf_45, sX9_takeWordOf_49, sX9_takeWordOf_50, sX9_takeWordOf_53, sX9_takeWordOf_56, sX9_takeWordOf_57, sX9_takeWordOf_59, sX9_takeWordOf_62, sX9_takeWordOf_64, sX9_takeWordOf_67, sX9_takeWordOf_69, sX9_takeWordOf_70, sX9_takeWordOf_71, sX9_takeWordOf_72, sX9_takeWordOf_73, sX9_takeWordOf_76, sX9_takeWordOf_77, sX9_takeWordOf_80, sX9_takeWordOf_81, sX9_takeWordOf_82, sX9_takeWordOf_83, sX9_takeWordOf_85, sX9_takeWordOf_88, sX9_takeWordOf_91, sX9_takeWordOf_92, sX9_takeWordOf_93, sX9_takeWordOf_96, sX9_takeWordOf_98, kX9_takeWordOf_99_ASIIII, sX9_takeWordOf_99, sX9_takeWordOf_101, sX9_takeWordOf_102, sX9_takeWordOf_103, sX9_takeWordOf_104, sX9_takeWordOf_107, sX9_takeWordOf_110, kX9_takeWordOf_113_ASIIII, sX9_takeWordOf_113, sX9_takeWordOf_114, evK_n, evK_v, evK_x, gI_pI, gJ_pI, gR_pI, gI_pJ, gJ_pJ, gR_pJ, gI_pR, gJ_pR, gR_pR, sa_1, sb_1, n32_le, n32_lt, n32_add, n32_mul, n32_cl, jm_lt0, jm_lti, jm_ltr, jm_ltl, jm_lti2, jm_ltri, jm_ltir, jm_ltrr, cs_len hw, cs_charAt hw (show i < w.length by omega), n32_eq, ne_eq]
    rw [if_neg (by omega), if_pos (hv i (Nat.le_refl _) (by omega))]
    exact c9_wIn hw hn (by omega) (fun j h1 h2 => hv j (by omega) h2)
termination_by n - i
