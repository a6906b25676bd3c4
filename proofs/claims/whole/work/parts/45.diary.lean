/-! a Diary: its page in force -/
def diL : List Nat := [5, 108, 168, 214, 260]
/-- the shapes of a Diary's cells -/
def diS (a : Nat) : Prop := (shp a).1 = 4 ∧ (shp (a + 1)).1 = 60 ∧ (shp (a + 1)).2 = 21 ∧ (shp (a + 2)).1 = 64 ∧ (shp (a + 2)).2 = 21 ∧ (shp (a + 24)).1 = 64 ∧ (shp (a + 24)).2 = 21 ∧ (∀ k, k < 21 → (shp (a + 3 + k)).1 = 60) ∧ (∀ k, k < 21 → (shp (a + 3 + k)).2 = 24) ∧ (∀ k, k < 21 → (shp (a + 25 + k)).1 = 60) ∧ (∀ k, k < 21 → (shp (a + 25 + k)).2 = 24)
theorem diS_of {a : Nat} (h : a ∈ diL) : diS a := by
  have h1 : ∀ a ∈ diL, (shp a).1 = 4 ∧ (shp (a + 1)).1 = 60 ∧ (shp (a + 1)).2 = 21 ∧ (shp (a + 2)).1 = 64 ∧ (shp (a + 2)).2 = 21 ∧ (shp (a + 24)).1 = 64 ∧ (shp (a + 24)).2 = 21 := by decide +kernel
  have h2 : ∀ a ∈ diL, ∀ k, k < 21 → (shp (a + 3 + k)).1 = 60 ∧ (shp (a + 3 + k)).2 = 24 ∧ (shp (a + 25 + k)).1 = 60 ∧ (shp (a + 25 + k)).2 = 24 := by decide +kernel
  obtain ⟨q1, q2, q3, q4, q5, q6, q7⟩ := h1 a h
  exact ⟨q1, q2, q3, q4, q5, q6, q7, fun k hk => (h2 a h k hk).1, fun k hk => (h2 a h k hk).2.1, fun k hk => (h2 a h k hk).2.2.1, fun k hk => (h2 a h k hk).2.2.2⟩
def diR (s : fm_S) (a : Nat) : Prop := gR s a 1 = a + 1 ∧ gR s a 2 = a + 2 ∧ gR s a 3 = a + 24 ∧ (∀ k, k < 21 → gR s (a + 2) k = a + 3 + k) ∧ ∀ k, k < 21 → gR s (a + 24) k = a + 25 + k
theorem diR_of {s : fm_S} {a : Nat} (hF : FX s) (h : a ∈ diL) : diR s a := by
  have h1 : ∀ a ∈ diL, (a, 1, a + 1) ∈ fxL ∧ (a, 2, a + 2) ∈ fxL ∧ (a, 3, a + 24) ∈ fxL := by decide +kernel
  have h2 : ∀ a ∈ diL, ∀ k, k < 21 → (a + 2, k, a + 3 + k) ∈ fxL ∧ (a + 24, k, a + 25 + k) ∈ fxL := by decide +kernel
  exact ⟨hF _ (h1 a h).1, hF _ (h1 a h).2.1, hF _ (h1 a h).2.2, fun k hk => hF _ (h2 a h k hk).1, fun k hk => hF _ (h2 a h k hk).2⟩
/-- the Diary at the cell a: c changes; its page tells n VISITS, of whom and when -/
def DI (s : fm_S) (a c n : Nat) (W M : Nat → Nat) : Prop := gI s a 0 = Int32.ofNat c ∧ c ≤ 20 ∧ gI s (a + 1) c = Int32.ofNat n ∧ n ≤ 24 ∧ ∀ v, v < n → (gI s (a + 3 + c) v = Int32.ofNat (W v) ∧ W v < 6) ∧ gI s (a + 25 + c) v = Int32.ofNat (M v) ∧ M v ≤ 480
theorem d_total {g : fm_g} {d a c n : Nat} {W M : Nat → Nat} {s : fm_S} (hF : FX s) (ha : a ∈ diL) (hD : DI s a c n W M) : ev g d mX4_total 0 [some (.ref a)] [] s = some (.inl (some (.int (Int32.ofNat n))), s) := by
  obtain ⟨s0, s1, s2, s3, s4, s5, s6, s7, s8, s9, s10⟩ := diS_of ha
  obtain ⟨r1, r2, r3, r4, r5⟩ := diR_of hF ha
  obtain ⟨h1, h2, h3, h4, h5⟩ := hD
  simp (disch := first | exact jm_lt0 | exact jm_lti | exact jm_ltr | exact jm_ltl | exact jm_lti2 | exact jm_ltri | exact jm_ltir | exact jm_ltrr | exact jm_ltl2 | exact jm_ltrl | exact jm_ltlr | omega | assumption | (refine n32_inA (by assumption) ?_ ?_ <;> omega) | exact bi01 | decide) only [sX4_total_0, sX4_total_1, sX4_total_4, sX4_total_7, sX4_total_8, sX4_total_11, sX4_total_13, sX4_total_16, sX4_total_17, sX4_total_20, sX4_total_21, sX4_total_24, sX4_total_25, kX4_total_28_A, sX4_total_28, kX4_total_29_A, sX4_total_29, n32_le, n32_lt, n32_add, n32_mul, n32_cl, n32_lt0, r1, h1, h3, if_false]
  rw [if_neg (by omega)]
theorem d_page {g : fm_g} {d a c n : Nat} {W M : Nat → Nat} {s : fm_S} (hF : FX s) (ha : a ∈ diL) (hD : DI s a c n W M) : ev g d mX4_page 0 [some (.ref a)] [] s = some (.inl (some (.int (Int32.ofNat c))), s) := by
  obtain ⟨s0, s1, s2, s3, s4, s5, s6, s7, s8, s9, s10⟩ := diS_of ha
  obtain ⟨h1, h2, h3, h4, h5⟩ := hD
  simp (disch := first | exact jm_lt0 | exact jm_lti | exact jm_ltr | exact jm_ltl | exact jm_lti2 | exact jm_ltri | exact jm_ltir | exact jm_ltrr | exact jm_ltl2 | exact jm_ltrl | exact jm_ltlr | omega | assumption | (refine n32_inA (by assumption) ?_ ?_ <;> omega) | exact bi01 | decide) only [sX4_page_0, sX4_page_1, sX4_page_4, sX4_page_7, sX4_page_8, sX4_page_11, sX4_page_13, sX4_page_16, sX4_page_17, sX4_page_20, kX4_page_23_A, sX4_page_23, kX4_page_24_A, sX4_page_24, n32_le, n32_lt, n32_add, n32_mul, n32_cl, n32_lt0, h1, if_false]
  rw [if_neg (by omega)]
theorem d_personOf {g : fm_g} {d a c n v : Nat} {W M : Nat → Nat} {s : fm_S} (hF : FX s) (ha : a ∈ diL) (hD : DI s a c n W M) (hv : v < n) : ev g (d + 1) mX4_personOf 0 [some (.ref a), some (.int (Int32.ofNat v))] [] s = some (.inl (some (.int (Int32.ofNat (W v)))), s) := by
  obtain ⟨s0, s1, s2, s3, s4, s5, s6, s7, s8, s9, s10⟩ := diS_of ha
  obtain ⟨r1, r2, r3, r4, r5⟩ := diR_of hF ha
  obtain ⟨h1, h2, h3, h4, h5⟩ := id hD
  have r6 := r4 c (by omega)
  have t1 := s7 c (by omega)
  have t2 := s8 c (by omega)
  have n1 : a + 3 + c ≠ 0 := by omega
  have s3' : 64 ≤ (shp (a + 2)).1 := by omega
  have h6 := (h5 v hv).1.1
  have q0 : gR s (a + 2) (Int32.ofNat c).toNatClampNeg ≠ 0 := by rw [n32_cl (by omega), r6]; exact n1
  simp (disch := first | exact jm_lt0 | exact jm_lti | exact jm_ltr | exact jm_ltl | exact jm_lti2 | exact jm_ltri | exact jm_ltir | exact jm_ltrr | exact jm_ltl2 | exact jm_ltrl | exact jm_ltlr | omega | assumption | (refine n32_inA (by assumption) ?_ ?_ <;> omega) | exact bi01 | decide) only [sX4_personOf_0, sX4_personOf_1, sX4_personOf_4, sX4_personOf_5, sX4_personOf_7, sX4_personOf_10, sX4_personOf_11, sX4_personOf_12, sX4_personOf_15, sX4_personOf_18, sX4_personOf_19, sX4_personOf_22, sX4_personOf_23, sX4_personOf_26, sX4_personOf_27, sX4_personOf_28, sX4_personOf_29, kX4_personOf_32_AI, sX4_personOf_32, kX4_personOf_33_AI, sX4_personOf_33, evK_n, evK_v, evK_x, gI_pI, gJ_pI, gR_pI, gI_pJ, gJ_pJ, gR_pJ, gI_pR, gJ_pR, gR_pR, n32_le, n32_lt, n32_add, n32_mul, n32_cl, jm_lt0, jm_lti, jm_ltr, jm_ltl, jm_lti2, jm_ltri, jm_ltir, jm_ltrr, n32_lt0, d_total hF ha hD, d_page hF ha hD, r2, r6, h6, if_false]
  rw [if_neg (by omega), if_neg (by omega)]
theorem d_minuteOf {g : fm_g} {d a c n v : Nat} {W M : Nat → Nat} {s : fm_S} (hF : FX s) (ha : a ∈ diL) (hD : DI s a c n W M) (hv : v < n) : ev g (d + 1) mX4_minuteOf 0 [some (.ref a), some (.int (Int32.ofNat v))] [] s = some (.inl (some (.int (Int32.ofNat (M v)))), s) := by
  obtain ⟨s0, s1, s2, s3, s4, s5, s6, s7, s8, s9, s10⟩ := diS_of ha
  obtain ⟨r1, r2, r3, r4, r5⟩ := diR_of hF ha
  obtain ⟨h1, h2, h3, h4, h5⟩ := id hD
  have r6 := r5 c (by omega)
  have t1 := s9 c (by omega)
  have t2 := s10 c (by omega)
  have n1 : a + 25 + c ≠ 0 := by omega
  have s3' : 64 ≤ (shp (a + 24)).1 := by omega
  have h6 := (h5 v hv).2.1
  have q0 : gR s (a + 24) (Int32.ofNat c).toNatClampNeg ≠ 0 := by rw [n32_cl (by omega), r6]; exact n1
  simp (disch := first | exact jm_lt0 | exact jm_lti | exact jm_ltr | exact jm_ltl | exact jm_lti2 | exact jm_ltri | exact jm_ltir | exact jm_ltrr | exact jm_ltl2 | exact jm_ltrl | exact jm_ltlr | omega | assumption | (refine n32_inA (by assumption) ?_ ?_ <;> omega) | exact bi01 | decide) only [sX4_minuteOf_0, sX4_minuteOf_1, sX4_minuteOf_4, sX4_minuteOf_5, sX4_minuteOf_7, sX4_minuteOf_10, sX4_minuteOf_11, sX4_minuteOf_12, sX4_minuteOf_15, sX4_minuteOf_18, sX4_minuteOf_19, sX4_minuteOf_22, sX4_minuteOf_23, sX4_minuteOf_26, sX4_minuteOf_27, sX4_minuteOf_28, sX4_minuteOf_29, kX4_minuteOf_32_AI, sX4_minuteOf_32, kX4_minuteOf_33_AI, sX4_minuteOf_33, evK_n, evK_v, evK_x, gI_pI, gJ_pI, gR_pI, gI_pJ, gJ_pJ, gR_pJ, gI_pR, gJ_pR, gR_pR, n32_le, n32_lt, n32_add, n32_mul, n32_cl, jm_lt0, jm_lti, jm_ltr, jm_ltl, jm_lti2, jm_ltri, jm_ltir, jm_ltrr, n32_lt0, d_total hF ha hD, d_page hF ha hD, r3, r6, h6, if_false]
  rw [if_neg (by omega), if_neg (by omega)]
theorem d_personOf' {g : fm_g} {d a c n : Nat} {v : Int32} {W M : Nat → Nat} {s : fm_S} (hF : FX s) (ha : a ∈ diL) (hD : DI s a c n W M) (hv : v.toInt < 0 ∨ (n : Int) ≤ v.toInt) : ev g (d + 1) mX4_personOf 0 [some (.ref a), some (.int v)] [] s = some (.inl (some (.int (-1))), s) := by
  obtain ⟨s0, s1, s2, s3, s4, s5, s6, s7, s8, s9, s10⟩ := diS_of ha
  have h4 := hD.2.2.2.1
  simp (disch := first | exact jm_lt0 | exact jm_lti | exact jm_ltr | exact jm_ltl | exact jm_lti2 | exact jm_ltri | exact jm_ltir | exact jm_ltrr | exact jm_ltl2 | exact jm_ltrl | exact jm_ltlr | omega | assumption | (refine n32_inA (by assumption) ?_ ?_ <;> omega) | exact bi01 | decide) only [sX4_personOf_0, sX4_personOf_1, sX4_personOf_4, sX4_personOf_5, sX4_personOf_7, sX4_personOf_10, sX4_personOf_11, sX4_personOf_12, sX4_personOf_15, sX4_personOf_19, sX4_personOf_22, sX4_personOf_23, sX4_personOf_26, sX4_personOf_27, sX4_personOf_28, sX4_personOf_29, kX4_personOf_32_AI, sX4_personOf_32, kX4_personOf_33_AI, sX4_personOf_33, evK_n, evK_v, evK_x, gI_pI, gJ_pI, gR_pI, gI_pJ, gJ_pJ, gR_pJ, gI_pR, gJ_pR, gR_pR, n32_le, n32_lt, n32_add, n32_mul, n32_cl, jm_lt0, jm_lti, jm_ltr, jm_ltl, jm_lti2, jm_ltri, jm_ltir, jm_ltrr, d_total hF ha hD]
  by_cases c1 : v < 0
  · rw [if_pos c1]
  · rw [if_neg c1]
    by_cases c2 : Int32.ofNat 24 ≤ v
    · rw [if_pos c2]
    · have c3 : Int32.ofNat n ≤ v := by
        rw [n32_leI (by omega)]
        have c4 : ¬ v.toInt < 0 := fun h => c1 (by rw [Int32.lt_iff_toInt_lt]; exact h)
        omega
      rw [if_neg c2, if_pos c3]
/-- how many of p's VISITS are ahead of the place m -/
def cntW (W : Nat → Nat) (p : Nat) : Nat → Nat
  | 0 => 0
  | m + 1 => cntW W p m + (if W m = p then 1 else 0)
theorem cntW_le (W : Nat → Nat) (p : Nat) : ∀ m, cntW W p m ≤ m
  | 0 => Nat.le_refl _
  | m + 1 => by
    have := cntW_le W p m
    simp only [cntW]
    split <;> omega
/-- MINUTES since his VISIT ahead -/
def sncW (W M : Nat → Nat) (v : Nat) : Nat → Int32
  | 0 => Int32.ofNat 999
  | k + 1 => if W k = W v then Int32.ofNat (M v) - Int32.ofNat (M k) else sncW W M v k
theorem d_whichLoop {g : fm_g} {d a c n v : Nat} {W M : Nat → Nat} {s : fm_S} (hF : FX s) (ha : a ∈ diL) (hD : DI s a c n W M) (hv : v < n) : ∀ k, k ≤ v + 1 → ev g (d + 2) mX4_whichOfHis 11 [some (.ref a), some (.int (Int32.ofNat v)), some (.int (Int32.ofNat (W v))), some (.int (Int32.ofNat (cntW W (W v) k))), some (.int (Int32.ofNat k))] [] s = some (.inl (some (.int (Int32.ofNat (cntW W (W v) (v + 1))))), s) := by
  intro k hk
  obtain ⟨s0, -⟩ := diS_of ha
  have h4 := hD.2.2.2.1
  rw [sX4_whichOfHis_11]
  by_cases c1 : k ≤ v
  · have hw := (hD.2.2.2.2 k (by omega)).1.2
    have hw2 := (hD.2.2.2.2 v hv).1.2
    have hrec := d_whichLoop (g := g) (d := d) hF ha hD hv (k + 1) (by omega)
    simp (disch := first | exact jm_lt0 | exact jm_lti | exact jm_ltr | exact jm_ltl | exact jm_lti2 | exact jm_ltri | exact jm_ltir | exact jm_ltrr | exact jm_ltl2 | exact jm_ltrl | exact jm_ltlr | omega | assumption | (refine n32_inA (by assumption) ?_ ?_ <;> omega) | exact bi01 | decide) only [sX4_whichOfHis_0, sX4_whichOfHis_1, sX4_whichOfHis_2, sX4_whichOfHis_5, sX4_whichOfHis_6, sX4_whichOfHis_7, sX4_whichOfHis_8, sX4_whichOfHis_9, sX4_whichOfHis_13, sX4_whichOfHis_14, sX4_whichOfHis_17, sX4_whichOfHis_19, sX4_whichOfHis_21, sX4_whichOfHis_24, sX4_whichOfHis_25, sX4_whichOfHis_26, sX4_whichOfHis_28, sX4_whichOfHis_31, sX4_whichOfHis_32, sX4_whichOfHis_35, sX4_whichOfHis_36, kX4_whichOfHis_39_AIIII, sX4_whichOfHis_39, kX4_whichOfHis_40_AIIII, sX4_whichOfHis_40, sX4_whichOfHis_41, sX4_whichOfHis_42, sX4_whichOfHis_45, kX4_whichOfHis_48_AIIII, sX4_whichOfHis_48, sX4_whichOfHis_49, evK_n, evK_v, evK_x, gI_pI, gJ_pI, gR_pI, gI_pJ, gJ_pJ, gR_pJ, gI_pR, gJ_pR, gR_pR, n32_le, n32_lt, n32_add, n32_mul, n32_cl, jm_lt0, jm_lti, jm_ltr, jm_ltl, jm_lti2, jm_ltri, jm_ltir, jm_ltrr, d_personOf hF ha hD (show k < n by omega), n32_eq, ne_eq]
    rw [if_neg (by omega), if_neg (by omega)]
    rw [cntW] at hrec
    by_cases c2 : W k = W v
    · rw [if_neg (by simpa using c2)]
      rw [if_pos c2] at hrec
      exact hrec
    · rw [if_pos c2]
      rw [if_neg c2] at hrec
      exact hrec
  · have e1 : k = v + 1 := by omega
    simp (disch := first | exact jm_lt0 | exact jm_lti | exact jm_ltr | exact jm_ltl | exact jm_lti2 | exact jm_ltri | exact jm_ltir | exact jm_ltrr | exact jm_ltl2 | exact jm_ltrl | exact jm_ltlr | omega | assumption | (refine n32_inA (by assumption) ?_ ?_ <;> omega) | exact bi01 | decide) only [sX4_whichOfHis_0, sX4_whichOfHis_1, sX4_whichOfHis_2, sX4_whichOfHis_5, sX4_whichOfHis_6, sX4_whichOfHis_7, sX4_whichOfHis_8, sX4_whichOfHis_9, sX4_whichOfHis_13, sX4_whichOfHis_14, sX4_whichOfHis_17, sX4_whichOfHis_19, sX4_whichOfHis_21, sX4_whichOfHis_24, sX4_whichOfHis_25, sX4_whichOfHis_26, sX4_whichOfHis_28, sX4_whichOfHis_31, sX4_whichOfHis_32, sX4_whichOfHis_35, sX4_whichOfHis_36, kX4_whichOfHis_39_AIIII, sX4_whichOfHis_39, kX4_whichOfHis_40_AIIII, sX4_whichOfHis_40, sX4_whichOfHis_41, sX4_whichOfHis_42, sX4_whichOfHis_45, kX4_whichOfHis_48_AIIII, sX4_whichOfHis_48, sX4_whichOfHis_49, evK_n, evK_v, evK_x, gI_pI, gJ_pI, gR_pI, gI_pJ, gJ_pJ, gR_pJ, gI_pR, gJ_pR, gR_pR, n32_le, n32_lt, n32_add, n32_mul, n32_cl, jm_lt0, jm_lti, jm_ltr, jm_ltl, jm_lti2, jm_ltri, jm_ltir, jm_ltrr]
    rw [if_pos (by omega), e1]
termination_by k => v + 1 - k
theorem d_whichOfHis {g : fm_g} {d a c n v : Nat} {W M : Nat → Nat} {s : fm_S} (hF : FX s) (ha : a ∈ diL) (hD : DI s a c n W M) (hv : v < n) : ev g (d + 2) mX4_whichOfHis 0 [some (.ref a), some (.int (Int32.ofNat v)), none, none, none] [] s = some (.inl (some (.int (Int32.ofNat (cntW W (W v) (v + 1))))), s) := by
  obtain ⟨s0, -⟩ := diS_of ha
  have h := d_whichLoop (g := g) (d := d) hF ha hD hv 0 (by omega)
  simp (disch := first | exact jm_lt0 | exact jm_lti | exact jm_ltr | exact jm_ltl | exact jm_lti2 | exact jm_ltri | exact jm_ltir | exact jm_ltrr | exact jm_ltl2 | exact jm_ltrl | exact jm_ltlr | omega | assumption | (refine n32_inA (by assumption) ?_ ?_ <;> omega) | exact bi01 | decide) only [sX4_whichOfHis_0, sX4_whichOfHis_1, sX4_whichOfHis_2, sX4_whichOfHis_5, sX4_whichOfHis_6, sX4_whichOfHis_7, sX4_whichOfHis_8, sX4_whichOfHis_9, sX4_whichOfHis_13, sX4_whichOfHis_14, sX4_whichOfHis_17, sX4_whichOfHis_19, sX4_whichOfHis_21, sX4_whichOfHis_24, sX4_whichOfHis_25, sX4_whichOfHis_26, sX4_whichOfHis_28, sX4_whichOfHis_31, sX4_whichOfHis_32, sX4_whichOfHis_35, sX4_whichOfHis_36, kX4_whichOfHis_39_AIIII, sX4_whichOfHis_39, kX4_whichOfHis_40_AIIII, sX4_whichOfHis_40, sX4_whichOfHis_41, sX4_whichOfHis_42, sX4_whichOfHis_45, kX4_whichOfHis_48_AIIII, sX4_whichOfHis_48, sX4_whichOfHis_49, evK_n, evK_v, evK_x, gI_pI, gJ_pI, gR_pI, gI_pJ, gJ_pJ, gR_pJ, gI_pR, gJ_pR, gR_pR, jm_lt0, jm_lti, jm_ltr, jm_ltl, jm_lti2, jm_ltri, jm_ltir, jm_ltrr, d_personOf hF ha hD hv]
  exact h
