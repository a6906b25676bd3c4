/-! clouds: parts by states' numbers -/
def clL : List Nat := [316, 319]
theorem clS {a : Nat} (h : a ∈ clL) : (shp a).1 = 1 ∧ (shp (a + 1)).1 = 60 ∧ (shp (a + 1)).2 = 9100 ∧ (shp (a + 2)).1 = 62 ∧ (shp (a + 2)).2 = 9100 := by
  have key : ∀ c ∈ clL, (shp c).1 = 1 ∧ (shp (c + 1)).1 = 60 ∧ (shp (c + 1)).2 = 9100 ∧ (shp (c + 2)).1 = 62 ∧ (shp (c + 2)).2 = 9100 := by decide +kernel
  exact key a h
theorem clR {a : Nat} {s : fm_S} (hF : FX s) (h : a ∈ clL) : gR s a 1 = a + 1 ∧ gR s a 2 = a + 2 := by
  have key : ∀ c ∈ clL, (c, 1, c + 1) ∈ fxL ∧ (c, 2, c + 2) ∈ fxL := by decide +kernel
  exact ⟨hF _ (key a h).1, hF _ (key a h).2⟩
/-- what is below this never wraps -/
abbrev BIG : Nat := 4611686018427387904
def CL (s : fm_S) (a : Nat) (l : List Nat) (D : Nat → Nat) : Prop := gI s a 0 = Int32.ofNat l.length ∧ l.Nodup ∧ (∀ k ∈ l, k < NS) ∧ (∀ i k, l[i]? = some k → gI s (a + 1) i = Int32.ofNat k) ∧ ∀ k, k < NS → gJ s (a + 2) k = Int64.ofNat (D k) ∧ D k < BIG ∧ (k ∈ l ↔ D k ≠ 0)
theorem nodup_len {l : List Nat} {n : Nat} (h : l.Nodup) (hl : ∀ k ∈ l, k < n) : l.length ≤ n := by
  have h1 := sumN_mem (f := fun _ => 1) h hl
  have h2 : ∀ l : List Nat, sumL (fun _ => 1) l = l.length := fun l => by
    induction l with
    | nil => rfl
    | cons a l ih => rw [sumL, ih, List.length_cons, Nat.add_comm]
  have h3 : ∀ n, sumN (fun _ => 1) n = n := fun n => by
    induction n with
    | zero => rfl
    | succ n ih => rw [sumN, ih]
  rw [h2] at h1
  rw [← h1]
  exact Nat.le_trans (sumN_le (h := fun _ => 1) (fun k _ => by split <;> omega)) (Nat.le_of_eq (h3 n))
theorem CL.len {s : fm_S} {a : Nat} {l : List Nat} {D : Nat → Nat} (h : CL s a l D) : l.length ≤ 9100 := nodup_len h.2.1 h.2.2.1
/-- what a cloud's change touches -/
def pC (a b j : Nat) : Prop := (b = a ∧ j = 0) ∨ b = a + 1
def qC (a b _j : Nat) : Prop := b = a + 2
theorem CL.of {s s' : fm_S} {a : Nat} {l : List Nat} {D : Nat → Nat} (h : CL s a l D) (e0 : gI s' a 0 = gI s a 0) (e1 : ∀ j, gI s' (a + 1) j = gI s (a + 1) j) (e2 : ∀ j, gJ s' (a + 2) j = gJ s (a + 2) j) : CL s' a l D := by
  obtain ⟨h1, h2, h3, h4, h5⟩ := h
  exact ⟨by rw [e0, h1], h2, h3, fun i k hk => by rw [e1, h4 i k hk], fun k hk => by rw [e2]; exact h5 k hk⟩
theorem c1_stateAt {g : fm_g} {d a i k : Nat} {l : List Nat} {D : Nat → Nat} {s : fm_S} (hF : FX s) (ha : a ∈ clL) (h : CL s a l D) (hi : l[i]? = some k) : ev g d mX1_stateAt 0 [some (.ref a), some (.int (Int32.ofNat i))] [] s = some (.inl (some (.int (Int32.ofNat k))), s) := by
  obtain ⟨a1, a2, a3, a4, a5⟩ := clS ha
  obtain ⟨r1, r2⟩ := clR hF ha
  have hl := h.len
  have hil := (List.getElem?_eq_some_iff.mp hi).1
  have e1 := h.1
  have e2 := h.2.2.2.1 i k hi
  have g1 : ¬ l.length ≤ i := by omega
  have g2 : ¬ 9100 ≤ i := by omega
  simp (disch := first | exact jm_lt0 | (apply jm_ltx; (repeat (first | exact jw_0 | apply jw_i | apply jw_r | apply jw_l)); omega) | omega | assumption | (refine n32_inA (by assumption) ?_ ?_ <;> omega) | exact bi01 | decide) only [sX1_stateAt_0, sX1_stateAt_1, sX1_stateAt_4, sX1_stateAt_5, sX1_stateAt_6, sX1_stateAt_9, sX1_stateAt_12, sX1_stateAt_13, sX1_stateAt_16, sX1_stateAt_19, sX1_stateAt_20, sX1_stateAt_23, sX1_stateAt_24, sX1_stateAt_25, kX1_stateAt_28_AI, sX1_stateAt_28, kX1_stateAt_29_AI, sX1_stateAt_29, evK_n, evK_v, evK_x, gI_pI, gJ_pI, gR_pI, gI_pJ, gJ_pJ, gR_pJ, gI_pR, gJ_pR, gR_pR, n32_le, n32_lt, n32_add, n32_mul, n32_cl, if_true, if_false, not_true_eq_false, not_false_eq_true, and_true, true_and, and_false, false_and, and_self, or_true, true_or, or_false, false_or, or_self, ne_eq, Decidable.not_not, Nat.reduceEqDiff, Nat.reduceEqDiff, n32_lt0, r1, e1, e2, g1, g2]
theorem c1_partsAt {g : fm_g} {d a i k : Nat} {l : List Nat} {D : Nat → Nat} {s : fm_S} (hF : FX s) (ha : a ∈ clL) (h : CL s a l D) (hi : l[i]? = some k) : ev g (d + 1) mX1_partsAt 0 [some (.ref a), some (.int (Int32.ofNat i)), none] [] s = some (.inl (some (.long (Int64.ofNat (D k)))), s) := by
  obtain ⟨a1, a2, a3, a4, a5⟩ := clS ha
  obtain ⟨r1, r2⟩ := clR hF ha
  have hk : k < NS := h.2.2.1 k (List.mem_of_getElem? hi)
  have e3 := (h.2.2.2.2 k hk).1
  have hk' : k < 9100 := hk
  have g3 : ¬ 9100 ≤ k := by omega
  simp (disch := first | exact jm_lt0 | (apply jm_ltx; (repeat (first | exact jw_0 | apply jw_i | apply jw_r | apply jw_l)); omega) | omega | assumption | (refine n32_inA (by assumption) ?_ ?_ <;> omega) | exact bi01 | decide) only [sX1_partsAt_0, sX1_partsAt_1, sX1_partsAt_2, sX1_partsAt_5, sX1_partsAt_6, sX1_partsAt_7, sX1_partsAt_10, sX1_partsAt_11, sX1_partsAt_14, sX1_partsAt_17, sX1_partsAt_18, sX1_partsAt_21, sX1_partsAt_22, sX1_partsAt_23, kX1_partsAt_26_AII, sX1_partsAt_26, kX1_partsAt_27_AII, sX1_partsAt_27, evK_n, evK_v, evK_x, gI_pI, gJ_pI, gR_pI, gI_pJ, gJ_pJ, gR_pJ, gI_pR, gJ_pR, gR_pR, n32_le, n32_lt, n32_add, n32_mul, n32_cl, if_true, if_false, not_true_eq_false, not_false_eq_true, and_true, true_and, and_false, false_and, and_self, or_true, true_or, or_false, false_or, or_self, ne_eq, Decidable.not_not, Nat.reduceEqDiff, Nat.reduceEqDiff, n32_lt0, g3, r2, c1_stateAt hF ha h hi, e3]
theorem c1_clearLoop {g : fm_g} {d a : Nat} {l : List Nat} {D : Nat → Nat} {s0 : fm_S} (hF : FX s0) (ha : a ∈ clL) (h : CL s0 a l D) : ∀ (m i : Nat) (s : fm_S), i + m = l.length → FM (fun _ _ => False) (qC a) s0 s → (∀ k, k < NS → gJ s (a + 2) k = Int64.ofNat (if k ∈ l.take i then 0 else D k)) → ∃ s', ev g d mX1_clear 2 [some (.ref a), some (.int (Int32.ofNat i)), none] [] s = some (.inl none, s') ∧ FM (pC a) (qC a) s0 s' ∧ CL s' a [] (fun _ => 0) := by
  obtain ⟨a1, a2, a3, a4, a5⟩ := clS ha
  intro m
  induction m with
  | zero =>
    intro i s hi hM hJ
    have hil : i = l.length := by omega
    subst hil
    have hFs := hM.fx hF
    have e1 : gI s a 0 = Int32.ofNat l.length := by rw [hM.2.1 _ _ (fun h => h), h.1]
    have hl := h.len
    refine ⟨pI s a 0 (Int32.ofNat 0), ?_, (hM.mono (fun _ _ h => h.elim) (fun _ _ h => h)).tr (FM.pI (Or.inl ⟨rfl, rfl⟩)), ?_, List.nodup_nil, by simp, by simp, fun k hk => ⟨?_, (by decide : 0 < BIG), by simp⟩⟩
    · rw [sX1_clear_2]
      simp (disch := first | exact jm_lt0 | (apply jm_ltx; (repeat (first | exact jw_0 | apply jw_i | apply jw_r | apply jw_l)); omega) | omega | assumption | (refine n32_inA (by assumption) ?_ ?_ <;> omega) | exact bi01 | decide) only [sX1_clear_0, sX1_clear_1, sX1_clear_3, sX1_clear_4, sX1_clear_7, sX1_clear_10, sX1_clear_11, sX1_clear_14, sX1_clear_17, sX1_clear_18, sX1_clear_21, sX1_clear_22, sX1_clear_23, sX1_clear_24, sX1_clear_25, sX1_clear_28, sX1_clear_29, sX1_clear_32, sX1_clear_35, sX1_clear_36, sX1_clear_39, sX1_clear_40, sX1_clear_41, kX1_clear_42_AII, sX1_clear_42, sX1_clear_45, kX1_clear_48_AIN, sX1_clear_48, sX1_clear_49, sX1_clear_50, sX1_clear_53, evK_n, evK_v, evK_x, gI_pI, gJ_pI, gR_pI, gI_pJ, gJ_pJ, gR_pJ, gI_pR, gJ_pR, gR_pR, n32_le, n32_lt, n32_add, n32_mul, n32_cl, if_true, if_false, not_true_eq_false, not_false_eq_true, and_true, true_and, and_false, false_and, and_self, or_true, true_or, or_false, false_or, or_self, ne_eq, Decidable.not_not, Nat.reduceEqDiff, Nat.reduceEqDiff, e1]
      rw [if_pos (by omega)]
    · simp [gI_pI]
    · rw [gJ_pI, hJ k hk, List.take_length]
      by_cases c : k ∈ l
      · rw [if_pos c]
      · rw [if_neg c]
        have := (h.2.2.2.2 k hk).2.2
        have : D k = 0 := by
          rcases Nat.eq_zero_or_pos (D k) with h0 | h0
          · exact h0
          · exact absurd (this.mpr (by omega)) c
        rw [this]
  | succ m ih =>
    intro i s hi hM hJ
    have hFs := hM.fx hF
    obtain ⟨r1, r2⟩ := clR hFs ha
    have hil : i < l.length := by omega
    have hik : l[i]? = some l[i] := List.getElem?_eq_getElem hil
    have hk : l[i] < NS := h.2.2.1 _ (List.getElem_mem hil)
    have hk' : l[i] < 9100 := hk
    have e1 : gI s a 0 = Int32.ofNat l.length := by rw [hM.2.1 _ _ (fun h => h), h.1]
    have e2 : gI s (a + 1) i = Int32.ofNat l[i] := by rw [hM.2.1 _ _ (fun h => h), h.2.2.2.1 i _ hik]
    have hl := h.len
    have g1 : ¬ l.length ≤ i := by omega
    have g2 : ¬ 9100 ≤ i := by omega
    obtain ⟨s', f1, f2, f3⟩ := ih (i + 1) (pJ s (a + 2) l[i] (Int64.ofNat 0)) (by omega) (hM.tr (FM.pJ rfl)) (fun k hk2 => by
      rw [gJ_pJ, hJ k hk2]
      have hm : k ∈ l.take (i + 1) ↔ k ∈ l.take i ∨ k = l[i] := by
        rw [List.take_add_one, hik, List.mem_append]
        simp
      by_cases c : k = l[i]
      · rw [if_pos ⟨rfl, c⟩, if_pos (hm.mpr (Or.inr c))]
      · rw [if_neg (by rintro ⟨-, h⟩; exact c h)]
        by_cases c2 : k ∈ l.take i
        · rw [if_pos c2, if_pos (hm.mpr (Or.inl c2))]
        · rw [if_neg c2, if_neg (by rw [hm]; rintro (h | h); exact c2 h; exact c h)])
    refine ⟨s', ?_, f2, f3⟩
    rw [sX1_clear_2]
    have g3 : ¬ 9100 ≤ l[i] := by omega
    simp (disch := first | exact jm_lt0 | (apply jm_ltx; (repeat (first | exact jw_0 | apply jw_i | apply jw_r | apply jw_l)); omega) | omega | assumption | (refine n32_inA (by assumption) ?_ ?_ <;> omega) | exact bi01 | decide) only [sX1_clear_0, sX1_clear_1, sX1_clear_3, sX1_clear_4, sX1_clear_7, sX1_clear_10, sX1_clear_11, sX1_clear_14, sX1_clear_17, sX1_clear_18, sX1_clear_21, sX1_clear_22, sX1_clear_23, sX1_clear_24, sX1_clear_25, sX1_clear_28, sX1_clear_29, sX1_clear_32, sX1_clear_35, sX1_clear_36, sX1_clear_39, sX1_clear_40, sX1_clear_41, kX1_clear_42_AII, sX1_clear_42, sX1_clear_45, kX1_clear_48_AIN, sX1_clear_48, sX1_clear_49, sX1_clear_50, sX1_clear_53, evK_n, evK_v, evK_x, gI_pI, gJ_pI, gR_pI, gI_pJ, gJ_pJ, gR_pJ, gI_pR, gJ_pR, gR_pR, n32_le, n32_lt, n32_add, n32_mul, n32_cl, if_true, if_false, not_true_eq_false, not_false_eq_true, and_true, true_and, and_false, false_and, and_self, or_true, true_or, or_false, false_or, or_self, ne_eq, Decidable.not_not, Nat.reduceEqDiff, Nat.reduceEqDiff, n32_lt0, e1, e2, r1, r2, g1, g2, g3]
    exact f1
theorem c1_clear {g : fm_g} {d a : Nat} {l : List Nat} {D : Nat → Nat} {s : fm_S} (hF : FX s) (ha : a ∈ clL) (h : CL s a l D) : ∃ s', ev g d mX1_clear 0 [some (.ref a), none, none] [] s = some (.inl none, s') ∧ FM (pC a) (qC a) s s' ∧ CL s' a [] (fun _ => 0) := by
  obtain ⟨s', f1, f2, f3⟩ := c1_clearLoop (g := g) (d := d) hF ha h l.length 0 s (by omega) FM.rf (fun k hk => by simpa using (h.2.2.2.2 k hk).1)
  refine ⟨s', ?_, f2, f3⟩
  rw [sX1_clear_0, sX1_clear_1]
  exact f1
theorem n64_eq0 {a : Nat} (ha : a < BIG) : (Int64.ofNat a = 0) = (a = 0) := n64_eq (b := 0) (by unfold BIG at ha; omega) (by decide)
theorem n64_le0 {a : Nat} (ha : a < BIG) : (Int64.ofNat a ≤ 0) = (a = 0) := by
  have h := n64_le (a := a) (b := 0) (by unfold BIG at ha; omega) (by decide)
  refine h.trans (propext ⟨fun h => by omega, fun h => by omega⟩)
theorem c1_add {g : fm_g} {d a k m : Nat} {l : List Nat} {D : Nat → Nat} {s : fm_S} (hF : FX s) (ha : a ∈ clL) (h : CL s a l D) (hk : k < NS) (hm : D k + m < BIG) : ∃ s' l', ev g d mX1_add 0 [some (.ref a), some (.int (Int32.ofNat k)), some (.long (Int64.ofNat m)), none] [] s = some (.inl none, s') ∧ FM (pC a) (qC a) s s' ∧ CL s' a l' (updD D k m) := by
  obtain ⟨a1, a2, a3, a4, a5⟩ := clS ha
  obtain ⟨r1, r2⟩ := clR hF ha
  have hk' : k < 9100 := hk
  have hb : BIG = 4611686018427387904 := rfl
  have g2 : ¬ 9100 ≤ k := by omega
  by_cases m0 : m = 0
  · subst m0
    refine ⟨s, l, ?_, FM.rf, by rw [updD_0]; exact h⟩
    simp (disch := first | exact jm_lt0 | (apply jm_ltx; (repeat (first | exact jw_0 | apply jw_i | apply jw_r | apply jw_l)); omega) | omega | assumption | (refine n32_inA (by assumption) ?_ ?_ <;> omega) | exact bi01 | decide) only [sX1_add_0, sX1_add_1, sX1_add_2, sX1_add_3, sX1_add_6, sX1_add_7, sX1_add_10, sX1_add_11, sX1_add_14, kX1_add_17_AIJN, sX1_add_17, sX1_add_18, sX1_add_19, sX1_add_22, sX1_add_23, sX1_add_24, sX1_add_25, sX1_add_26, sX1_add_29, sX1_add_30, sX1_add_33, sX1_add_36, sX1_add_37, sX1_add_40, sX1_add_43, sX1_add_46, sX1_add_47, sX1_add_50, sX1_add_51, sX1_add_54, sX1_add_55, sX1_add_56, sX1_add_57, sX1_add_58, sX1_add_61, sX1_add_62, sX1_add_63, sX1_add_66, sX1_add_67, sX1_add_70, sX1_add_71, sX1_add_72, sX1_add_73, sX1_add_74, sX1_add_75, sX1_add_76, evK_n, evK_v, evK_x, gI_pI, gJ_pI, gR_pI, gI_pJ, gJ_pJ, gR_pJ, gI_pR, gJ_pR, gR_pR, n32_le, n32_lt, n32_add, n32_mul, n32_cl, if_true, if_false, not_true_eq_false, not_false_eq_true, and_true, true_and, and_false, false_and, and_self, or_true, true_or, or_false, false_or, or_self, ne_eq, Decidable.not_not, Nat.reduceEqDiff, Nat.reduceEqDiff, n64_cle, show (Int64.ofNat 0 ≤ Int64.ofNat 0) = True from eq_true (by decide)]
  · have hle : (Int64.ofNat m ≤ Int64.ofNat 0) = False := by
      rw [n64_le (by omega) (by decide)]
      exact eq_false (by omega)
    obtain ⟨c1, c2, c3, c4, c5⟩ := id h
    obtain ⟨e1, e2, e3⟩ := c5 k hk
    have hz : (Int64.ofNat (D k) = Int64.ofNat 0) = (D k = 0) := n64_eq (by omega) (by decide)
    have hl := h.len
    by_cases d0 : D k = 0
    · have hnk : k ∉ l := fun hm => e3.mp hm d0
      have hlen : l.length < 9100 := by
        have := nodup_len (l := k :: l) (n := NS) (List.nodup_cons.mpr ⟨hnk, c2⟩) (fun x hx => by
          rcases List.mem_cons.mp hx with rfl | hx
          · exact hk
          · exact c3 x hx)
        exact this
      have g3 : ¬ 9100 ≤ l.length := by omega
      have n1 : ¬ a = a + 1 := by omega
      refine ⟨pJ (pI (pI s (a + 1) l.length (Int32.ofNat k)) a 0 (Int32.ofNat (l.length + 1))) (a + 2) k (Int64.ofNat (D k + m)), l ++ [k], ?_, ((FM.pI (Or.inr rfl)).tr (FM.pI (Or.inl ⟨rfl, rfl⟩))).tr (FM.pJ rfl), ?_, ?_, ?_, ?_, ?_⟩
      · simp (disch := first | exact jm_lt0 | (apply jm_ltx; (repeat (first | exact jw_0 | apply jw_i | apply jw_r | apply jw_l)); omega) | omega | assumption | (refine n32_inA (by assumption) ?_ ?_ <;> omega) | exact bi01 | decide) only [sX1_add_0, sX1_add_1, sX1_add_2, sX1_add_3, sX1_add_6, sX1_add_7, sX1_add_10, sX1_add_11, sX1_add_14, kX1_add_17_AIJN, sX1_add_17, sX1_add_18, sX1_add_19, sX1_add_22, sX1_add_23, sX1_add_24, sX1_add_25, sX1_add_26, sX1_add_29, sX1_add_30, sX1_add_33, sX1_add_36, sX1_add_37, sX1_add_40, sX1_add_43, sX1_add_46, sX1_add_47, sX1_add_50, sX1_add_51, sX1_add_54, sX1_add_55, sX1_add_56, sX1_add_57, sX1_add_58, sX1_add_61, sX1_add_62, sX1_add_63, sX1_add_66, sX1_add_67, sX1_add_70, sX1_add_71, sX1_add_72, sX1_add_73, sX1_add_74, sX1_add_75, sX1_add_76, evK_n, evK_v, evK_x, gI_pI, gJ_pI, gR_pI, gI_pJ, gJ_pJ, gR_pJ, gI_pR, gJ_pR, gR_pR, n32_le, n32_lt, n32_add, n32_mul, n32_cl, if_true, if_false, not_true_eq_false, not_false_eq_true, and_true, true_and, and_false, false_and, and_self, or_true, true_or, or_false, false_or, or_self, ne_eq, Decidable.not_not, Nat.reduceEqDiff, Nat.reduceEqDiff, n64_cle, n64_ceq, hle, n32_lt0, g2, hk', r2, r1, e1, hz, d0, c1, g3, n1, n64_add, gJ_pI]
      · simp [gJ_pJ, gI_pJ, gI_pI]
      · rw [List.nodup_append]
        exact ⟨c2, by simp, fun x hx y hy => by rw [List.mem_singleton] at hy; rintro rfl; exact hnk (hy ▸ hx)⟩
      · intro x hx
        rcases List.mem_append.mp hx with hx | hx
        · exact c3 x hx
        · rw [List.mem_singleton] at hx; omega
      · intro i x hx
        rw [gI_pJ, gI_pI, if_neg (by omega), gI_pI]
        by_cases ci : i = l.length
        · subst ci
          rw [if_pos ⟨rfl, rfl⟩]
          have : x = k := by simpa using hx.symm
          rw [this]
        · rw [if_neg (by rintro ⟨-, h⟩; exact ci h)]
          refine c4 i x ?_
          have : i < (l ++ [k]).length := (List.getElem?_eq_some_iff.mp hx).1
          rw [List.length_append, List.length_singleton] at this
          rwa [List.getElem?_append_left (by omega)] at hx
      · intro x hx
        obtain ⟨y1, y2, y3⟩ := c5 x hx
        rw [gJ_pJ, gJ_pI, gJ_pI]
        unfold updD
        by_cases cx : x = k
        · subst cx
          rw [if_pos ⟨rfl, rfl⟩, if_pos rfl]
          exact ⟨rfl, hm, by simp; omega⟩
        · rw [if_neg (by rintro ⟨-, h⟩; exact cx h), if_neg cx]
          exact ⟨y1, y2, by rw [List.mem_append, List.mem_singleton, ← y3]; exact ⟨fun h => h.resolve_right cx, Or.inl⟩⟩
    · refine ⟨pJ s (a + 2) k (Int64.ofNat (D k + m)), l, ?_, FM.pJ rfl, by rw [gI_pJ, c1], c2, c3, fun i x hx => by rw [gI_pJ, c4 i x hx], fun x hx => ?_⟩
      · simp (disch := first | exact jm_lt0 | (apply jm_ltx; (repeat (first | exact jw_0 | apply jw_i | apply jw_r | apply jw_l)); omega) | omega | assumption | (refine n32_inA (by assumption) ?_ ?_ <;> omega) | exact bi01 | decide) only [sX1_add_0, sX1_add_1, sX1_add_2, sX1_add_3, sX1_add_6, sX1_add_7, sX1_add_10, sX1_add_11, sX1_add_14, kX1_add_17_AIJN, sX1_add_17, sX1_add_18, sX1_add_19, sX1_add_22, sX1_add_23, sX1_add_24, sX1_add_25, sX1_add_26, sX1_add_29, sX1_add_30, sX1_add_33, sX1_add_36, sX1_add_37, sX1_add_40, sX1_add_43, sX1_add_46, sX1_add_47, sX1_add_50, sX1_add_51, sX1_add_54, sX1_add_55, sX1_add_56, sX1_add_57, sX1_add_58, sX1_add_61, sX1_add_62, sX1_add_63, sX1_add_66, sX1_add_67, sX1_add_70, sX1_add_71, sX1_add_72, sX1_add_73, sX1_add_74, sX1_add_75, sX1_add_76, evK_n, evK_v, evK_x, gI_pI, gJ_pI, gR_pI, gI_pJ, gJ_pJ, gR_pJ, gI_pR, gJ_pR, gR_pR, n32_le, n32_lt, n32_add, n32_mul, n32_cl, if_true, if_false, not_true_eq_false, not_false_eq_true, and_true, true_and, and_false, false_and, and_self, or_true, true_or, or_false, false_or, or_self, ne_eq, Decidable.not_not, Nat.reduceEqDiff, Nat.reduceEqDiff, n64_cle, n64_ceq, hle, n32_lt0, g2, hk', r2, r1, e1, hz, d0, n64_add]
      · obtain ⟨y1, y2, y3⟩ := c5 x hx
        rw [gJ_pJ]
        unfold updD
        by_cases cx : x = k
        · subst cx
          rw [if_pos ⟨rfl, rfl⟩, if_pos rfl]
          exact ⟨rfl, hm, by rw [y3]; omega⟩
        · rw [if_neg (by rintro ⟨-, h⟩; exact cx h), if_neg cx]
          exact ⟨y1, y2, y3⟩
/-- the hand, piece by piece -/
def HN5 (s : fm_S) (c cl di ca se st : Nat) : Prop := gI s c 0 = Int32.ofNat cl ∧ gI s c 1 = Int32.ofNat di ∧ gI s c 2 = Int32.ofNat ca ∧ gI s c 3 = Int32.ofNat se ∧ gI s c 4 = stI st
theorem HN5.k {s : fm_S} {c cl di ca se st : Nat} (h : HN5 s c cl di ca se st) (h1 : cl + di ≤ 12) (h2 : ca < 2) (h3 : se < 2) : HN s c (nm cl di ca se st) := by
  obtain ⟨e1, e2, e3, e4, e5⟩ := k_nm (st := st) h1 h2 h3
  unfold HN
  rw [e1, e2, e3, e4, e5]
  exact h
theorem c1_pno {c d : Nat} (h : c + d ≤ 12) : Int32.ofNat ((c + d) * (c + d + 1)) / Int32.ofNat 2 + Int32.ofNat d = Int32.ofNat (pno c d) := by
  have : (c + d) * (c + d + 1) ≤ 12 * 13 := Nat.mul_le_mul h (by omega)
  rw [n32_div (by omega) (by decide), n32_add]
  rfl
theorem c1_numberOf {g : fm_g} {d c cl di ca se st : Nat} {s : fm_S} (hc : c ∈ cuL) (h : HN5 s c cl di ca se st) (h1 : cl + di ≤ 12) : ev g d mX1_numberOf 0 [some (.ref c), none, none] [] s = some (.inl (some (.int (Int32.ofNat (nm cl di ca se st)))), s) := by
  obtain ⟨a1, -⟩ := cuS hc
  obtain ⟨e1, e2, e3, e4, e5⟩ := h
  have e6 := c1_pno h1
  simp (disch := first | exact jm_lt0 | (apply jm_ltx; (repeat (first | exact jw_0 | apply jw_i | apply jw_r | apply jw_l)); omega) | omega | assumption | (refine n32_inA (by assumption) ?_ ?_ <;> omega) | exact bi01 | decide) only [sX1_numberOf_0, sX1_numberOf_1, sX1_numberOf_4, sX1_numberOf_5, sX1_numberOf_8, sX1_numberOf_9, sX1_numberOf_10, sX1_numberOf_11, sX1_numberOf_12, sX1_numberOf_13, sX1_numberOf_14, sX1_numberOf_15, sX1_numberOf_16, sX1_numberOf_17, sX1_numberOf_18, sX1_numberOf_21, sX1_numberOf_22, sX1_numberOf_23, sX1_numberOf_24, sX1_numberOf_27, sX1_numberOf_28, sX1_numberOf_29, sX1_numberOf_30, sX1_numberOf_31, sX1_numberOf_32, sX1_numberOf_35, sX1_numberOf_36, sX1_numberOf_37, sX1_numberOf_38, sX1_numberOf_39, sX1_numberOf_42, sX1_numberOf_43, sX1_numberOf_45, sX1_numberOf_46, sX1_numberOf_47, sX1_numberOf_48, evK_n, evK_v, evK_x, gI_pI, gJ_pI, gR_pI, gI_pJ, gJ_pJ, gR_pJ, gI_pR, gJ_pR, gR_pR, n32_add, n32_mul, if_true, if_false, not_true_eq_false, not_false_eq_true, and_true, true_and, and_false, false_and, and_self, or_true, true_or, or_false, false_or, or_self, ne_eq, Decidable.not_not, Nat.reduceEqDiff, Nat.reduceEqDiff, e1, e2, e3, e4, e5, stI_add, e6, show ¬ (Int32.ofNat 2 = 0) by decide, ne_eq, not_false_eq_true]
  rfl
theorem c1_pairOf {g : fm_g} {d c di : Nat} {s : fm_S} (h : c + di ≤ 12) : ev g d mX1_pairOf 0 [some (.int (Int32.ofNat c)), some (.int (Int32.ofNat di)), none] [] s = some (.inl (some (.int (Int32.ofNat (pno c di)))), s) := by
  have e6 := c1_pno h
  simp (disch := first | exact jm_lt0 | (apply jm_ltx; (repeat (first | exact jw_0 | apply jw_i | apply jw_r | apply jw_l)); omega) | omega | assumption | (refine n32_inA (by assumption) ?_ ?_ <;> omega) | exact bi01 | decide) only [sX1_pairOf_0, sX1_pairOf_1, sX1_pairOf_2, sX1_pairOf_3, sX1_pairOf_4, sX1_pairOf_5, sX1_pairOf_6, sX1_pairOf_7, sX1_pairOf_8, sX1_pairOf_9, sX1_pairOf_10, sX1_pairOf_11, sX1_pairOf_12, sX1_pairOf_13, n32_add, n32_mul, e6, show ¬ (Int32.ofNat 2 = 0) by decide, ne_eq, not_false_eq_true]
