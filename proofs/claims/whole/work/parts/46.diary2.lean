/-! a Diary: what is asked of it, and how it changes -/
theorem n32_dec {a : Nat} (h : 1 ≤ a) : Int32.ofNat a + (-1) = Int32.ofNat (a - 1) := by
  rw [← n32_sub h, Int32.sub_eq_add_neg]
  congr 1
theorem n32_subone (x : Int32) : x - Int32.ofNat 1 = x + (-1) := by
  rw [Int32.sub_eq_add_neg]
  congr 1
theorem d_sinceLoop {g : fm_g} {d a c n v : Nat} {W M : Nat → Nat} {s : fm_S} (hF : FX s) (ha : a ∈ diL) (hD : DI s a c n W M) (hv : v < n) : ∀ k, k ≤ v → ev g (d + 2) mX4_minutesSinceHis 15 [some (.ref a), some (.int (Int32.ofNat v)), some (.int (Int32.ofNat (W v))), some (.int (Int32.ofNat k + (-1)))] [] s = some (.inl (some (.int (sncW W M v k))), s) := by
  intro k hk
  obtain ⟨s0, -⟩ := diS_of ha
  have h4 := hD.2.2.2.1
  have hw2 := (hD.2.2.2.2 v hv).1.2
  rw [sX4_minutesSinceHis_15]
  cases k with
  | zero =>
    have e0 : Int32.ofNat 0 + (-1) < 0 := by decide
    simp (disch := first | exact jm_lt0 | exact jm_lti | exact jm_ltr | exact jm_ltl | exact jm_lti2 | exact jm_ltri | exact jm_ltir | exact jm_ltrr | exact jm_ltl2 | exact jm_ltrl | exact jm_ltlr | omega | assumption | (refine n32_inA (by assumption) ?_ ?_ <;> omega) | exact bi01 | decide) only [sX4_minutesSinceHis_0, sX4_minutesSinceHis_1, sX4_minutesSinceHis_2, sX4_minutesSinceHis_5, sX4_minutesSinceHis_6, sX4_minutesSinceHis_7, sX4_minutesSinceHis_9, sX4_minutesSinceHis_12, sX4_minutesSinceHis_13, sX4_minutesSinceHis_14, sX4_minutesSinceHis_16, sX4_minutesSinceHis_19, sX4_minutesSinceHis_20, sX4_minutesSinceHis_21, sX4_minutesSinceHis_24, sX4_minutesSinceHis_25, sX4_minutesSinceHis_28, sX4_minutesSinceHis_29, sX4_minutesSinceHis_30, sX4_minutesSinceHis_33, sX4_minutesSinceHis_34, sX4_minutesSinceHis_35, sX4_minutesSinceHis_38, sX4_minutesSinceHis_39, sX4_minutesSinceHis_40, sX4_minutesSinceHis_43, kX4_minutesSinceHis_46_AIII, sX4_minutesSinceHis_46, sX4_minutesSinceHis_49, e0, if_true]
    rfl
  | succ k =>
    have hw := (hD.2.2.2.2 k (by omega)).1.2
    have e1 : Int32.ofNat (k + 1) + (-1) = Int32.ofNat k := n32_dec (by omega)
    have hrec := d_sinceLoop (g := g) (d := d) hF ha hD hv k (by omega)
    rw [e1]
    simp (disch := first | exact jm_lt0 | exact jm_lti | exact jm_ltr | exact jm_ltl | exact jm_lti2 | exact jm_ltri | exact jm_ltir | exact jm_ltrr | exact jm_ltl2 | exact jm_ltrl | exact jm_ltlr | omega | assumption | (refine n32_inA (by assumption) ?_ ?_ <;> omega) | exact bi01 | decide) only [sX4_minutesSinceHis_0, sX4_minutesSinceHis_1, sX4_minutesSinceHis_2, sX4_minutesSinceHis_5, sX4_minutesSinceHis_6, sX4_minutesSinceHis_7, sX4_minutesSinceHis_9, sX4_minutesSinceHis_12, sX4_minutesSinceHis_13, sX4_minutesSinceHis_14, sX4_minutesSinceHis_16, sX4_minutesSinceHis_19, sX4_minutesSinceHis_20, sX4_minutesSinceHis_21, sX4_minutesSinceHis_24, sX4_minutesSinceHis_25, sX4_minutesSinceHis_28, sX4_minutesSinceHis_29, sX4_minutesSinceHis_30, sX4_minutesSinceHis_33, sX4_minutesSinceHis_34, sX4_minutesSinceHis_35, sX4_minutesSinceHis_38, sX4_minutesSinceHis_39, sX4_minutesSinceHis_40, sX4_minutesSinceHis_43, kX4_minutesSinceHis_46_AIII, sX4_minutesSinceHis_46, sX4_minutesSinceHis_49, evK_n, evK_v, evK_x, gI_pI, gJ_pI, gR_pI, gI_pJ, gJ_pJ, gR_pJ, gI_pR, gJ_pR, gR_pR, n32_le, n32_lt, n32_add, n32_mul, n32_cl, jm_lt0, jm_lti, jm_ltr, jm_ltl, jm_lti2, jm_ltri, jm_ltir, jm_ltrr, n32_lt0, d_personOf hF ha hD (show k < n by omega), d_minuteOf hF ha hD (show k < n by omega), d_minuteOf hF ha hD hv, n32_eq, ne_eq, if_false]
    rw [sncW]
    by_cases c2 : W k = W v
    · rw [if_neg (by simpa using c2), if_pos c2]
    · rw [if_pos c2, if_neg c2]
      exact hrec
theorem d_minutesSinceHis {g : fm_g} {d a c n v : Nat} {W M : Nat → Nat} {s : fm_S} (hF : FX s) (ha : a ∈ diL) (hD : DI s a c n W M) (hv : v < n) : ev g (d + 2) mX4_minutesSinceHis 0 [some (.ref a), some (.int (Int32.ofNat v)), none, none] [] s = some (.inl (some (.int (sncW W M v v))), s) := by
  obtain ⟨s0, -⟩ := diS_of ha
  have h4 := hD.2.2.2.1
  have h := d_sinceLoop (g := g) (d := d) hF ha hD hv v (Nat.le_refl _)
  have e1 : ¬ (24 < v) := by omega
  simp (disch := first | exact jm_lt0 | exact jm_lti | exact jm_ltr | exact jm_ltl | exact jm_lti2 | exact jm_ltri | exact jm_ltir | exact jm_ltrr | exact jm_ltl2 | exact jm_ltrl | exact jm_ltlr | omega | assumption | (refine n32_inA (by assumption) ?_ ?_ <;> omega) | exact bi01 | decide) only [sX4_minutesSinceHis_0, sX4_minutesSinceHis_1, sX4_minutesSinceHis_2, sX4_minutesSinceHis_5, sX4_minutesSinceHis_6, sX4_minutesSinceHis_7, sX4_minutesSinceHis_9, sX4_minutesSinceHis_12, sX4_minutesSinceHis_13, sX4_minutesSinceHis_14, sX4_minutesSinceHis_16, sX4_minutesSinceHis_19, sX4_minutesSinceHis_20, sX4_minutesSinceHis_21, sX4_minutesSinceHis_24, sX4_minutesSinceHis_25, sX4_minutesSinceHis_28, sX4_minutesSinceHis_29, sX4_minutesSinceHis_30, sX4_minutesSinceHis_33, sX4_minutesSinceHis_34, sX4_minutesSinceHis_35, sX4_minutesSinceHis_38, sX4_minutesSinceHis_39, sX4_minutesSinceHis_40, sX4_minutesSinceHis_43, kX4_minutesSinceHis_46_AIII, sX4_minutesSinceHis_46, sX4_minutesSinceHis_49, evK_n, evK_v, evK_x, gI_pI, gJ_pI, gR_pI, gI_pJ, gJ_pJ, gR_pJ, gI_pR, gJ_pR, gR_pR, jm_lt0, jm_lti, jm_ltr, jm_ltl, jm_lti2, jm_ltri, jm_ltir, jm_ltrr, d_personOf hF ha hD hv, n32_lt, e1, if_false, n32_subone]
  exact h
theorem d_visitsLoop {g : fm_g} {d a c n p : Nat} {W M : Nat → Nat} {s : fm_S} (hF : FX s) (ha : a ∈ diL) (hD : DI s a c n W M) (hp : p < 1000) : ∀ k, k ≤ n → ev g (d + 2) mX4_visitsOf 4 [some (.ref a), some (.int (Int32.ofNat p)), some (.int (Int32.ofNat (cntW W p k))), some (.int (Int32.ofNat k))] [] s = some (.inl (some (.int (Int32.ofNat (cntW W p n)))), s) := by
  intro k hk
  obtain ⟨s0, -⟩ := diS_of ha
  have h4 := hD.2.2.2.1
  rw [sX4_visitsOf_4]
  by_cases c1 : k < n
  · have hw := (hD.2.2.2.2 k c1).1.2
    have hrec := d_visitsLoop (g := g) (d := d) hF ha hD hp (k + 1) (by omega)
    simp (disch := first | exact jm_lt0 | exact jm_lti | exact jm_ltr | exact jm_ltl | exact jm_lti2 | exact jm_ltri | exact jm_ltir | exact jm_ltrr | exact jm_ltl2 | exact jm_ltrl | exact jm_ltlr | omega | assumption | (refine n32_inA (by assumption) ?_ ?_ <;> omega) | exact bi01 | decide) only [sX4_visitsOf_0, sX4_visitsOf_1, sX4_visitsOf_2, sX4_visitsOf_3, sX4_visitsOf_5, sX4_visitsOf_6, sX4_visitsOf_9, sX4_visitsOf_12, sX4_visitsOf_13, sX4_visitsOf_14, sX4_visitsOf_15, sX4_visitsOf_18, sX4_visitsOf_19, sX4_visitsOf_22, sX4_visitsOf_23, kX4_visitsOf_26_AIII, sX4_visitsOf_26, kX4_visitsOf_27_AIII, sX4_visitsOf_27, sX4_visitsOf_28, sX4_visitsOf_29, sX4_visitsOf_32, kX4_visitsOf_35_AIII, sX4_visitsOf_35, sX4_visitsOf_36, evK_n, evK_v, evK_x, gI_pI, gJ_pI, gR_pI, gI_pJ, gJ_pJ, gR_pJ, gI_pR, gJ_pR, gR_pR, n32_le, n32_lt, n32_add, n32_mul, n32_cl, jm_lt0, jm_lti, jm_ltr, jm_ltl, jm_lti2, jm_ltri, jm_ltir, jm_ltrr, d_total hF ha hD, d_personOf hF ha hD c1, n32_eq, ne_eq]
    rw [if_neg (by omega)]
    rw [cntW] at hrec
    by_cases c2 : W k = p
    · rw [if_neg (by simpa using c2)]
      rw [if_pos c2] at hrec
      exact hrec
    · rw [if_pos c2]
      rw [if_neg c2] at hrec
      exact hrec
  · have e1 : k = n := by omega
    simp (disch := first | exact jm_lt0 | exact jm_lti | exact jm_ltr | exact jm_ltl | exact jm_lti2 | exact jm_ltri | exact jm_ltir | exact jm_ltrr | exact jm_ltl2 | exact jm_ltrl | exact jm_ltlr | omega | assumption | (refine n32_inA (by assumption) ?_ ?_ <;> omega) | exact bi01 | decide) only [sX4_visitsOf_0, sX4_visitsOf_1, sX4_visitsOf_2, sX4_visitsOf_3, sX4_visitsOf_5, sX4_visitsOf_6, sX4_visitsOf_9, sX4_visitsOf_12, sX4_visitsOf_13, sX4_visitsOf_14, sX4_visitsOf_15, sX4_visitsOf_18, sX4_visitsOf_19, sX4_visitsOf_22, sX4_visitsOf_23, kX4_visitsOf_26_AIII, sX4_visitsOf_26, kX4_visitsOf_27_AIII, sX4_visitsOf_27, sX4_visitsOf_28, sX4_visitsOf_29, sX4_visitsOf_32, kX4_visitsOf_35_AIII, sX4_visitsOf_35, sX4_visitsOf_36, evK_n, evK_v, evK_x, gI_pI, gJ_pI, gR_pI, gI_pJ, gJ_pJ, gR_pJ, gI_pR, gJ_pR, gR_pR, n32_le, n32_lt, n32_add, n32_mul, n32_cl, jm_lt0, jm_lti, jm_ltr, jm_ltl, jm_lti2, jm_ltri, jm_ltir, jm_ltrr, d_total hF ha hD]
    rw [if_pos (by omega), e1]
termination_by k => n - k
theorem d_visitsOf {g : fm_g} {d a c n p : Nat} {W M : Nat → Nat} {s : fm_S} (hF : FX s) (ha : a ∈ diL) (hD : DI s a c n W M) (hp : p < 1000) : ev g (d + 2) mX4_visitsOf 0 [some (.ref a), some (.int (Int32.ofNat p)), none, none] [] s = some (.inl (some (.int (Int32.ofNat (cntW W p n)))), s) := by
  have h := d_visitsLoop (g := g) (d := d) hF ha hD hp 0 (by omega)
  simp (disch := first | exact jm_lt0 | exact jm_lti | exact jm_ltr | exact jm_ltl | exact jm_lti2 | exact jm_ltri | exact jm_ltir | exact jm_ltrr | exact jm_ltl2 | exact jm_ltrl | exact jm_ltlr | omega | assumption | (refine n32_inA (by assumption) ?_ ?_ <;> omega) | exact bi01 | decide) only [sX4_visitsOf_0, sX4_visitsOf_1, sX4_visitsOf_2, sX4_visitsOf_3, sX4_visitsOf_5, sX4_visitsOf_6, sX4_visitsOf_9, sX4_visitsOf_12, sX4_visitsOf_13, sX4_visitsOf_14, sX4_visitsOf_15, sX4_visitsOf_18, sX4_visitsOf_19, sX4_visitsOf_22, sX4_visitsOf_23, kX4_visitsOf_26_AIII, sX4_visitsOf_26, kX4_visitsOf_27_AIII, sX4_visitsOf_27, sX4_visitsOf_28, sX4_visitsOf_29, sX4_visitsOf_32, kX4_visitsOf_35_AIII, sX4_visitsOf_35, sX4_visitsOf_36]
  exact h
/-- his first VISIT from k on, of n -/
def fstW (W : Nat → Nat) (p n k : Nat) : Int32 := if h : k < n then (if W k = p then Int32.ofNat k else fstW W p n (k + 1)) else -1
termination_by n - k
theorem d_firstLoop {g : fm_g} {d a c n p : Nat} {W M : Nat → Nat} {s : fm_S} (hF : FX s) (ha : a ∈ diL) (hD : DI s a c n W M) (hp : p < 1000) : ∀ k, k ≤ n → ev g (d + 2) mX4_firstOf 2 [some (.ref a), some (.int (Int32.ofNat p)), some (.int (Int32.ofNat k))] [] s = some (.inl (some (.int (fstW W p n k))), s) := by
  intro k hk
  obtain ⟨s0, -⟩ := diS_of ha
  have h4 := hD.2.2.2.1
  rw [sX4_firstOf_2, fstW]
  by_cases c1 : k < n
  · have hw := (hD.2.2.2.2 k c1).1.2
    have hrec := d_firstLoop (g := g) (d := d) hF ha hD hp (k + 1) (by omega)
    simp (disch := first | exact jm_lt0 | exact jm_lti | exact jm_ltr | exact jm_ltl | exact jm_lti2 | exact jm_ltri | exact jm_ltir | exact jm_ltrr | exact jm_ltl2 | exact jm_ltrl | exact jm_ltlr | omega | assumption | (refine n32_inA (by assumption) ?_ ?_ <;> omega) | exact bi01 | decide) only [sX4_firstOf_0, sX4_firstOf_1, sX4_firstOf_3, sX4_firstOf_4, sX4_firstOf_7, sX4_firstOf_10, sX4_firstOf_11, sX4_firstOf_12, sX4_firstOf_15, sX4_firstOf_16, sX4_firstOf_19, sX4_firstOf_20, sX4_firstOf_21, sX4_firstOf_24, kX4_firstOf_27_AII, sX4_firstOf_27, sX4_firstOf_28, evK_n, evK_v, evK_x, gI_pI, gJ_pI, gR_pI, gI_pJ, gJ_pJ, gR_pJ, gI_pR, gJ_pR, gR_pR, n32_le, n32_lt, n32_add, n32_mul, n32_cl, jm_lt0, jm_lti, jm_ltr, jm_ltl, jm_lti2, jm_ltri, jm_ltir, jm_ltrr, d_total hF ha hD, d_personOf hF ha hD c1, n32_eq, ne_eq]
    rw [if_neg (by omega), dif_pos c1]
    by_cases c2 : W k = p
    · rw [if_neg (by simpa using c2), if_pos c2]
    · rw [if_pos c2, if_neg c2]
      exact hrec
  · simp (disch := first | exact jm_lt0 | exact jm_lti | exact jm_ltr | exact jm_ltl | exact jm_lti2 | exact jm_ltri | exact jm_ltir | exact jm_ltrr | exact jm_ltl2 | exact jm_ltrl | exact jm_ltlr | omega | assumption | (refine n32_inA (by assumption) ?_ ?_ <;> omega) | exact bi01 | decide) only [sX4_firstOf_0, sX4_firstOf_1, sX4_firstOf_3, sX4_firstOf_4, sX4_firstOf_7, sX4_firstOf_10, sX4_firstOf_11, sX4_firstOf_12, sX4_firstOf_15, sX4_firstOf_16, sX4_firstOf_19, sX4_firstOf_20, sX4_firstOf_21, sX4_firstOf_24, kX4_firstOf_27_AII, sX4_firstOf_27, sX4_firstOf_28, evK_n, evK_v, evK_x, gI_pI, gJ_pI, gR_pI, gI_pJ, gJ_pJ, gR_pJ, gI_pR, gJ_pR, gR_pR, n32_le, n32_lt, n32_add, n32_mul, n32_cl, jm_lt0, jm_lti, jm_ltr, jm_ltl, jm_lti2, jm_ltri, jm_ltir, jm_ltrr, d_total hF ha hD]
    rw [if_pos (by omega), dif_neg c1]
termination_by k => n - k
theorem d_firstOf {g : fm_g} {d a c n p : Nat} {W M : Nat → Nat} {s : fm_S} (hF : FX s) (ha : a ∈ diL) (hD : DI s a c n W M) (hp : p < 1000) : ev g (d + 2) mX4_firstOf 0 [some (.ref a), some (.int (Int32.ofNat p)), none] [] s = some (.inl (some (.int (fstW W p n 0))), s) := by
  have h := d_firstLoop (g := g) (d := d) hF ha hD hp 0 (by omega)
  simp (disch := first | exact jm_lt0 | exact jm_lti | exact jm_ltr | exact jm_ltl | exact jm_lti2 | exact jm_ltri | exact jm_ltir | exact jm_ltrr | exact jm_ltl2 | exact jm_ltrl | exact jm_ltlr | omega | assumption | (refine n32_inA (by assumption) ?_ ?_ <;> omega) | exact bi01 | decide) only [sX4_firstOf_0, sX4_firstOf_1, sX4_firstOf_3, sX4_firstOf_4, sX4_firstOf_7, sX4_firstOf_10, sX4_firstOf_11, sX4_firstOf_12, sX4_firstOf_15, sX4_firstOf_16, sX4_firstOf_19, sX4_firstOf_20, sX4_firstOf_21, sX4_firstOf_24, kX4_firstOf_27_AII, sX4_firstOf_27, sX4_firstOf_28]
  exact h
/-- two rows, what stands behind the place k (to n) moved up by one -/
def shU (s : fm_S) (r1 r2 k n : Nat) : fm_S := (fun b j => if (b = r1 ∨ b = r2) ∧ k < j ∧ j ≤ n then s.1 b (j - 1) else s.1 b j, s.2)
theorem shU_gI {s : fm_S} {r1 r2 k n b j : Nat} : gI (shU s r1 r2 k n) b j = if (b = r1 ∨ b = r2) ∧ k < j ∧ j ≤ n then gI s b (j - 1) else gI s b j := rfl
theorem shU_self {s : fm_S} {r1 r2 n : Nat} : shU s r1 r2 n n = s := by
  obtain ⟨I, J, R, n1, n2⟩ := s
  unfold shU
  congr 1
  funext b j
  rw [if_neg (by omega)]
theorem shU_step {s : fm_S} {r1 r2 k n : Nat} (hr : r1 ≠ r2) (hk : 0 < k) (hn : k ≤ n) : pI (pI (shU s r1 r2 k n) r2 k (gI s r2 (k - 1))) r1 k (gI s r1 (k - 1)) = shU s r1 r2 (k - 1) n := by
  obtain ⟨I, J, R, n1, n2⟩ := s
  unfold shU pI gI
  congr 1
  funext b j
  dsimp only
  by_cases h1 : b = r1 ∧ j = k
  · obtain ⟨rfl, rfl⟩ := h1
    rw [if_pos ⟨rfl, rfl⟩, if_pos ⟨Or.inl rfl, by omega, hn⟩]
  · rw [if_neg h1]
    by_cases h2 : b = r2 ∧ j = k
    · obtain ⟨rfl, rfl⟩ := h2
      rw [if_pos ⟨rfl, rfl⟩, if_pos ⟨Or.inr rfl, by omega, hn⟩]
    · rw [if_neg h2]
      by_cases h3 : (b = r1 ∨ b = r2) ∧ k < j ∧ j ≤ n
      · rw [if_pos h3, if_pos ⟨h3.1, by omega, h3.2.2⟩]
      · rw [if_neg h3]
        rw [if_neg]
        rintro ⟨h4, h5, h6⟩
        have h7 : j = k ∨ k < j := by omega
        rcases h7 with rfl | h7
        · rcases h4 with rfl | rfl
          · exact h1 ⟨rfl, rfl⟩
          · exact h2 ⟨rfl, rfl⟩
        · exact h3 ⟨h4, h7, h6⟩
/-- where a VISIT of the minute m comes, among the first k -/
def insP (M : Nat → Nat) (m : Nat) : Nat → Nat
  | 0 => 0
  | k + 1 => if m < M k then insP M m k else k + 1
theorem insP_le (M : Nat → Nat) (m : Nat) : ∀ k, insP M m k ≤ k
  | 0 => Nat.le_refl _
  | k + 1 => by
    have := insP_le M m k
    simp only [insP]
    split <;> omega
theorem d_insLoop {g : fm_g} {d a c n p m : Nat} {W M : Nat → Nat} {s : fm_S} (hF : FX s) (ha : a ∈ diL) (hD : DI s a c n W M) (hn : n < 24) (hm : m < 1000) (hp : p < 1000) : ∀ k, k ≤ n → ev g (d + 1) mX4_insert 42 [some (.ref a), some (.int (Int32.ofNat p)), some (.int (Int32.ofNat m)), some (.int (Int32.ofNat n)), some (.ref (a + 3 + c)), some (.ref (a + 25 + c)), some (.int (Int32.ofNat k))] [] (shU s (a + 3 + c) (a + 25 + c) k n) = ev g (d + 1) mX4_insert 95 [some (.ref a), some (.int (Int32.ofNat p)), some (.int (Int32.ofNat m)), some (.int (Int32.ofNat n)), some (.ref (a + 3 + c)), some (.ref (a + 25 + c)), some (.int (Int32.ofNat (insP M m k)))] [] (shU s (a + 3 + c) (a + 25 + c) (insP M m k) n) := by
  intro k
  obtain ⟨s0, s1, s2, s3, s4, s5, s6, s7, s8, s9, s10⟩ := diS_of ha
  obtain ⟨h1, h2, h3, h4, h5⟩ := id hD
  have t1 := s7 c (by omega)
  have t2 := s8 c (by omega)
  have t3 := s9 c (by omega)
  have t4 := s10 c (by omega)
  induction k with
  | zero =>
    intro hk
    rw [sX4_insert_42]
    simp (disch := first | exact jm_lt0 | exact jm_lti | exact jm_ltr | exact jm_ltl | exact jm_lti2 | exact jm_ltri | exact jm_ltir | exact jm_ltrr | exact jm_ltl2 | exact jm_ltrl | exact jm_ltlr | omega | assumption | (refine n32_inA (by assumption) ?_ ?_ <;> omega) | exact bi01 | decide) only [sX4_insert_0, sX4_insert_1, sX4_insert_4, sX4_insert_5, sX4_insert_6, sX4_insert_9, sX4_insert_10, sX4_insert_12, kX4_insert_15_AIIINNN, sX4_insert_15, sX4_insert_16, sX4_insert_17, sX4_insert_18, sX4_insert_21, sX4_insert_22, sX4_insert_25, sX4_insert_26, sX4_insert_28, sX4_insert_29, sX4_insert_32, sX4_insert_33, sX4_insert_36, sX4_insert_37, sX4_insert_39, sX4_insert_40, sX4_insert_44, sX4_insert_47, sX4_insert_49, sX4_insert_51, sX4_insert_54, sX4_insert_56, sX4_insert_58, sX4_insert_59, sX4_insert_60, sX4_insert_61, sX4_insert_62, sX4_insert_65, sX4_insert_67, sX4_insert_69, sX4_insert_71, sX4_insert_73, sX4_insert_74, sX4_insert_75, sX4_insert_76, sX4_insert_77, sX4_insert_79, sX4_insert_81, sX4_insert_83, sX4_insert_85, sX4_insert_86, sX4_insert_87, sX4_insert_88, sX4_insert_89, sX4_insert_92, sX4_insert_97, sX4_insert_99, sX4_insert_100, sX4_insert_101, sX4_insert_103, sX4_insert_105, sX4_insert_106, sX4_insert_107, sX4_insert_108, sX4_insert_111, sX4_insert_112, sX4_insert_115, sX4_insert_116, sX4_insert_117, sX4_insert_118, sX4_insert_119, sX4_insert_121, n32_le0, if_true]
    rfl
  | succ k ih =>
    intro hk
    have hMk := (h5 k (by omega)).2
    have e1 : k + 1 - 1 = k := by omega
    have g1 : gI (shU s (a + 3 + c) (a + 25 + c) (k + 1) n) (a + 25 + c) k = gI s (a + 25 + c) k := by rw [shU_gI, if_neg (by omega)]
    have g2 : gI (shU s (a + 3 + c) (a + 25 + c) (k + 1) n) (a + 3 + c) k = gI s (a + 3 + c) k := by rw [shU_gI, if_neg (by omega)]
    have g3 : ∀ v, gI (pI (shU s (a + 3 + c) (a + 25 + c) (k + 1) n) (a + 25 + c) (k + 1) v) (a + 3 + c) k = gI s (a + 3 + c) k := fun v => by rw [gI_pI, if_neg (by omega), g2]
    have hst := shU_step (s := s) (r1 := a + 3 + c) (r2 := a + 25 + c) (k := k + 1) (n := n) (by omega) (by omega) hk
    rw [e1] at hst
    rw [sX4_insert_42]
    simp (disch := first | exact jm_lt0 | exact jm_lti | exact jm_ltr | exact jm_ltl | exact jm_lti2 | exact jm_ltri | exact jm_ltir | exact jm_ltrr | exact jm_ltl2 | exact jm_ltrl | exact jm_ltlr | omega | assumption | (refine n32_inA (by assumption) ?_ ?_ <;> omega) | exact bi01 | decide) only [sX4_insert_0, sX4_insert_1, sX4_insert_4, sX4_insert_5, sX4_insert_6, sX4_insert_9, sX4_insert_10, sX4_insert_12, kX4_insert_15_AIIINNN, sX4_insert_15, sX4_insert_16, sX4_insert_17, sX4_insert_18, sX4_insert_21, sX4_insert_22, sX4_insert_25, sX4_insert_26, sX4_insert_28, sX4_insert_29, sX4_insert_32, sX4_insert_33, sX4_insert_36, sX4_insert_37, sX4_insert_39, sX4_insert_40, sX4_insert_44, sX4_insert_47, sX4_insert_49, sX4_insert_51, sX4_insert_54, sX4_insert_56, sX4_insert_58, sX4_insert_59, sX4_insert_60, sX4_insert_61, sX4_insert_62, sX4_insert_65, sX4_insert_67, sX4_insert_69, sX4_insert_71, sX4_insert_73, sX4_insert_74, sX4_insert_75, sX4_insert_76, sX4_insert_77, sX4_insert_79, sX4_insert_81, sX4_insert_83, sX4_insert_85, sX4_insert_86, sX4_insert_87, sX4_insert_88, sX4_insert_89, sX4_insert_92, sX4_insert_97, sX4_insert_99, sX4_insert_100, sX4_insert_101, sX4_insert_103, sX4_insert_105, sX4_insert_106, sX4_insert_107, sX4_insert_108, sX4_insert_111, sX4_insert_112, sX4_insert_115, sX4_insert_116, sX4_insert_117, sX4_insert_118, sX4_insert_119, sX4_insert_121, n32_le, n32_lt, n32_add, n32_mul, n32_cl, n32_le0, n32_sub, n32_dec, e1, g1, g3, hMk.1, Nat.add_one_ne_zero, show ¬ 24 ≤ k + 1 by omega, if_false]
    rw [insP]
    by_cases c2 : m < M k
    · rw [if_neg (by omega), if_pos c2, ← hMk.1, hst]
      exact ih (by omega)
    · rw [if_pos (by omega), if_neg c2]
