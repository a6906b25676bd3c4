/-! a Diary: pages copied, turned; all of one copied -/
theorem d_copyPage {g : fm_g} {d a b f t : Nat} {s : fm_S} (hF : FX s) (ha : a ∈ diL) (hb : b ∈ diL) (hf : f < 21) (ht : t < 21) (hne : a ≠ b ∨ f ≠ t) : ev g d mX4_copyPage 0 [some (.ref b), some (.int (Int32.ofNat f)), some (.ref a), some (.int (Int32.ofNat t)), none] [] s = some (.inl none, cpS (pI s (b + 1) t (gI s (a + 1) f)) (a + 3 + f) (b + 3 + t) (a + 25 + f) (b + 25 + t) 24) := by
  obtain ⟨s0, s1, s2, s3, s4, s5, s6, s7, s8, s9, s10⟩ := diS_of ha
  obtain ⟨u0, u1, u2, u3, u4, u5, u6, u7, u8, u9, u10⟩ := diS_of hb
  obtain ⟨r1, r2, r3, r4, r5⟩ := diR_of hF ha
  obtain ⟨v1, v2, v3, v4, v5⟩ := diR_of hF hb
  have h := d_copyLoop (g := g) (d := d) (s := pI s (b + 1) t (gI s (a + 1) f)) hF.pI ha hb hf ht hne 0 (by omega)
  rw [cpS_0] at h
  simp (disch := first | exact jm_lt0 | exact jm_lti | exact jm_ltr | exact jm_ltl | exact jm_lti2 | exact jm_ltri | exact jm_ltir | exact jm_ltrr | exact jm_ltl2 | exact jm_ltrl | exact jm_ltlr | omega | assumption | (refine n32_inA (by assumption) ?_ ?_ <;> omega) | exact bi01 | decide) only [sX4_copyPage_0, sX4_copyPage_1, sX4_copyPage_4, sX4_copyPage_5, sX4_copyPage_7, sX4_copyPage_10, sX4_copyPage_11, sX4_copyPage_14, sX4_copyPage_15, sX4_copyPage_17, kX4_copyPage_20_AIAIN, sX4_copyPage_20, sX4_copyPage_21, sX4_copyPage_22, sX4_copyPage_25, sX4_copyPage_26, sX4_copyPage_27, sX4_copyPage_30, sX4_copyPage_31, sX4_copyPage_32, sX4_copyPage_33, sX4_copyPage_34, sX4_copyPage_38, sX4_copyPage_40, sX4_copyPage_43, sX4_copyPage_44, sX4_copyPage_47, sX4_copyPage_48, sX4_copyPage_49, sX4_copyPage_51, sX4_copyPage_52, sX4_copyPage_55, sX4_copyPage_56, sX4_copyPage_57, sX4_copyPage_59, sX4_copyPage_60, sX4_copyPage_61, sX4_copyPage_62, sX4_copyPage_65, sX4_copyPage_66, sX4_copyPage_67, sX4_copyPage_69, sX4_copyPage_70, sX4_copyPage_73, sX4_copyPage_74, sX4_copyPage_75, sX4_copyPage_77, sX4_copyPage_78, sX4_copyPage_79, sX4_copyPage_82, kX4_copyPage_85_AIAII, sX4_copyPage_85, n32_le, n32_lt, n32_add, n32_mul, n32_cl, n32_lt0, r1, v1, if_false]
  rw [if_neg (by omega), if_pos ht]
  exact h
theorem d_turnPage {g : fm_g} {d a c : Nat} {s : fm_S} (hF : FX s) (ha : a ∈ diL) (h1 : gI s a 0 = Int32.ofNat c) (hc : c ≤ 20) : ev g (d + 1) mX4_turnPage 0 [some (.ref a)] [] s = if c < 20 then some (.inl (some (.int (Int32.ofNat 1))), pI (cpS (pI s (a + 1) (c + 1) (gI s (a + 1) c)) (a + 3 + c) (a + 3 + (c + 1)) (a + 25 + c) (a + 25 + (c + 1)) 24) a 0 (Int32.ofNat (c + 1))) else some (.inl (some (.int (Int32.ofNat 0))), s) := by
  obtain ⟨s0, s1, s2, s3, s4, s5, s6, s7, s8, s9, s10⟩ := diS_of ha
  by_cases c1 : c < 20
  · have h2 : gI (cpS (pI s (a + 1) (c + 1) (gI s (a + 1) c)) (a + 3 + c) (a + 3 + (c + 1)) (a + 25 + c) (a + 25 + (c + 1)) 24) a 0 = Int32.ofNat c := by
      rw [cpS_gI, if_neg (by omega), if_neg (by omega), gI_pI, if_neg (by omega), h1]
    have h3 := d_copyPage (g := g) (d := d) hF ha ha (show c < 21 by omega) (show c + 1 < 21 by omega) (Or.inr (by omega))
    simp (disch := first | exact jm_lt0 | exact jm_lti | exact jm_ltr | exact jm_ltl | exact jm_lti2 | exact jm_ltri | exact jm_ltir | exact jm_ltrr | exact jm_ltl2 | exact jm_ltrl | exact jm_ltlr | omega | assumption | (refine n32_inA (by assumption) ?_ ?_ <;> omega) | exact bi01 | decide) only [sX4_turnPage_0, sX4_turnPage_1, sX4_turnPage_4, sX4_turnPage_7, sX4_turnPage_8, sX4_turnPage_11, sX4_turnPage_13, kX4_turnPage_16_A, sX4_turnPage_16, sX4_turnPage_17, sX4_turnPage_18, sX4_turnPage_19, sX4_turnPage_20, sX4_turnPage_23, sX4_turnPage_24, sX4_turnPage_25, sX4_turnPage_28, sX4_turnPage_29, sX4_turnPage_30, sX4_turnPage_33, sX4_turnPage_34, sX4_turnPage_35, sX4_turnPage_38, sX4_turnPage_39, sX4_turnPage_40, sX4_turnPage_43, sX4_turnPage_44, evK_n, n32_le, n32_lt, n32_add, n32_mul, n32_cl, jm_lt0, jm_lti, jm_ltr, jm_ltl, jm_lti2, jm_ltri, jm_ltir, jm_ltrr, n32_lt0, h1, c1, if_false, if_true, h3, h2]
  · simp (disch := first | exact jm_lt0 | exact jm_lti | exact jm_ltr | exact jm_ltl | exact jm_lti2 | exact jm_ltri | exact jm_ltir | exact jm_ltrr | exact jm_ltl2 | exact jm_ltrl | exact jm_ltlr | omega | assumption | (refine n32_inA (by assumption) ?_ ?_ <;> omega) | exact bi01 | decide) only [sX4_turnPage_0, sX4_turnPage_1, sX4_turnPage_4, sX4_turnPage_7, sX4_turnPage_8, sX4_turnPage_11, sX4_turnPage_13, kX4_turnPage_16_A, sX4_turnPage_16, sX4_turnPage_17, sX4_turnPage_18, sX4_turnPage_19, sX4_turnPage_20, sX4_turnPage_23, sX4_turnPage_24, sX4_turnPage_25, sX4_turnPage_28, sX4_turnPage_29, sX4_turnPage_30, sX4_turnPage_33, sX4_turnPage_34, sX4_turnPage_35, sX4_turnPage_38, sX4_turnPage_39, sX4_turnPage_40, sX4_turnPage_43, sX4_turnPage_44, n32_le, n32_lt, n32_add, n32_mul, n32_cl, n32_lt0, h1, c1, if_false]
/-- the cells of the Diary b apart, nothing but it has changed; the pages ahead of k are those of a -/
def diC (s s' : fm_S) (a b k : Nat) : Prop := s'.2 = s.2 ∧ (∀ x j, x < b ∨ b + 46 ≤ x → gI s' x j = gI s x j) ∧ ∀ i, i < k → gI s' (b + 1) i = gI s (a + 1) i ∧ ∀ j, j < 24 → gI s' (b + 3 + i) j = gI s (a + 3 + i) j ∧ gI s' (b + 25 + i) j = gI s (a + 25 + i) j
theorem di_far : ∀ a ∈ diL, ∀ b ∈ diL, a ≠ b → a + 46 ≤ b ∨ b + 46 ≤ a := by decide
theorem d_copyAll {g : fm_g} {d a b c : Nat} {s : fm_S} (hF : FX s) (ha : a ∈ diL) (hb : b ∈ diL) (hab : a ≠ b) (hc : c ≤ 20) : ∀ (m k : Nat) (X : fm_S), m + k = c + 1 → diC s X a b k → gI X b 0 = Int32.ofNat c → ∃ s', ev g (d + 1) mX4_copy 10 [some (.ref b), some (.ref a), some (.int (Int32.ofNat k))] [] X = some (.inl none, s') ∧ diC s s' a b (c + 1) ∧ gI s' b 0 = Int32.ofNat c := by
  intro m
  obtain ⟨u0, u1, u2, u3, u4, u5, u6, u7, u8, u9, u10⟩ := diS_of hb
  have hfar := di_far a ha b hb hab
  induction m with
  | zero =>
    intro k X hk hX hX0
    have e1 : k = c + 1 := by omega
    rw [sX4_copy_10]
    simp (disch := first | exact jm_lt0 | exact jm_lti | exact jm_ltr | exact jm_ltl | exact jm_lti2 | exact jm_ltri | exact jm_ltir | exact jm_ltrr | exact jm_ltl2 | exact jm_ltrl | exact jm_ltlr | omega | assumption | (refine n32_inA (by assumption) ?_ ?_ <;> omega) | exact bi01 | decide) only [sX4_copy_0, sX4_copy_1, sX4_copy_2, sX4_copy_5, sX4_copy_8, sX4_copy_9, sX4_copy_11, sX4_copy_12, sX4_copy_15, sX4_copy_18, sX4_copy_19, sX4_copy_21, sX4_copy_24, sX4_copy_25, sX4_copy_26, sX4_copy_27, sX4_copy_28, sX4_copy_31, sX4_copy_34, kX4_copy_37_AAI, sX4_copy_37, n32_le, n32_lt, n32_add, n32_mul, n32_cl, hX0]
    rw [if_pos (by omega)]
    exact ⟨X, rfl, by rw [← e1]; exact hX, hX0⟩
  | succ m ih =>
    intro k X hk hX hX0
    obtain ⟨x1, x2, x3⟩ := id hX
    have hFX : FX X := hF.of (by rw [x1])
    have h3 := d_copyPage (g := g) (d := d) hFX ha hb (show k < 21 by omega) (show k < 21 by omega) (Or.inl hab)
    have hY : diC s (cpS (pI X (b + 1) k (gI X (a + 1) k)) (a + 3 + k) (b + 3 + k) (a + 25 + k) (b + 25 + k) 24) a b (k + 1) := by
      refine ⟨x1, fun x j hx => ?_, fun i hi => ⟨?_, fun j hj => ⟨?_, ?_⟩⟩⟩
      · rw [cpS_gI, if_neg (by omega), if_neg (by omega), gI_pI, if_neg (by omega)]
        exact x2 x j hx
      · rw [cpS_gI, if_neg (by omega), if_neg (by omega), gI_pI]
        by_cases e1 : i = k
        · rw [if_pos ⟨rfl, e1⟩, e1]
          exact x2 _ _ (by omega)
        · rw [if_neg (by omega)]
          exact (x3 i (by omega)).1
      · rw [cpS_gI]
        by_cases e1 : i = k
        · rw [if_pos ⟨by rw [e1], hj⟩, gI_pI, if_neg (by omega), e1]
          exact x2 _ _ (by omega)
        · rw [if_neg (by omega), if_neg (by omega), gI_pI, if_neg (by omega)]
          exact ((x3 i (by omega)).2 j hj).1
      · rw [cpS_gI, if_neg (by omega)]
        by_cases e1 : i = k
        · rw [if_pos ⟨by rw [e1], hj⟩, gI_pI, if_neg (by omega), e1]
          exact x2 _ _ (by omega)
        · rw [if_neg (by omega), gI_pI, if_neg (by omega)]
          exact ((x3 i (by omega)).2 j hj).2
    have hY0 : gI (cpS (pI X (b + 1) k (gI X (a + 1) k)) (a + 3 + k) (b + 3 + k) (a + 25 + k) (b + 25 + k) 24) b 0 = Int32.ofNat c := by
      rw [cpS_gI, if_neg (by omega), if_neg (by omega), gI_pI, if_neg (by omega), hX0]
    obtain ⟨s', e1, e2, e3⟩ := ih (k + 1) _ (by omega) hY hY0
    refine ⟨s', ?_, e2, e3⟩
    rw [sX4_copy_10]
    simp (disch := first | exact jm_lt0 | exact jm_lti | exact jm_ltr | exact jm_ltl | exact jm_lti2 | exact jm_ltri | exact jm_ltir | exact jm_ltrr | exact jm_ltl2 | exact jm_ltrl | exact jm_ltlr | omega | assumption | (refine n32_inA (by assumption) ?_ ?_ <;> omega) | exact bi01 | decide) only [sX4_copy_0, sX4_copy_1, sX4_copy_2, sX4_copy_5, sX4_copy_8, sX4_copy_9, sX4_copy_11, sX4_copy_12, sX4_copy_15, sX4_copy_18, sX4_copy_19, sX4_copy_21, sX4_copy_24, sX4_copy_25, sX4_copy_26, sX4_copy_27, sX4_copy_28, sX4_copy_31, sX4_copy_34, kX4_copy_37_AAI, sX4_copy_37, evK_n, n32_le, n32_lt, n32_add, n32_mul, n32_cl, jm_lt0, jm_lti, jm_ltr, jm_ltl, jm_lti2, jm_ltri, jm_ltir, jm_ltrr, hX0, h3]
    rw [if_neg (by omega), if_neg (by omega)]
    exact e1
theorem d_copy {g : fm_g} {d a b c : Nat} {s : fm_S} (hF : FX s) (ha : a ∈ diL) (hb : b ∈ diL) (hab : a ≠ b) (h1 : gI s a 0 = Int32.ofNat c) (hc : c ≤ 20) : ∃ s', ev g (d + 1) mX4_copy 0 [some (.ref b), some (.ref a), none] [] s = some (.inl none, s') ∧ diC s s' a b (c + 1) ∧ gI s' b 0 = Int32.ofNat c := by
  obtain ⟨s0, s1, s2, s3, s4, s5, s6, s7, s8, s9, s10⟩ := diS_of ha
  obtain ⟨u0, u1, u2, u3, u4, u5, u6, u7, u8, u9, u10⟩ := diS_of hb
  have h0 : diC s (pI s b 0 (Int32.ofNat c)) a b 0 := ⟨rfl, fun x j hx => by rw [gI_pI, if_neg (by omega)], fun i hi => by omega⟩
  obtain ⟨s', e1, e2, e3⟩ := d_copyAll (g := g) (d := d) hF ha hb hab hc (c + 1) 0 _ (by omega) h0 (by rw [gI_pI, if_pos ⟨rfl, rfl⟩])
  refine ⟨s', ?_, e2, e3⟩
  simp (disch := first | exact jm_lt0 | exact jm_lti | exact jm_ltr | exact jm_ltl | exact jm_lti2 | exact jm_ltri | exact jm_ltir | exact jm_ltrr | exact jm_ltl2 | exact jm_ltrl | exact jm_ltlr | omega | assumption | (refine n32_inA (by assumption) ?_ ?_ <;> omega) | exact bi01 | decide) only [sX4_copy_0, sX4_copy_1, sX4_copy_2, sX4_copy_5, sX4_copy_8, sX4_copy_9, sX4_copy_11, sX4_copy_12, sX4_copy_15, sX4_copy_18, sX4_copy_19, sX4_copy_21, sX4_copy_24, sX4_copy_25, sX4_copy_26, sX4_copy_27, sX4_copy_28, sX4_copy_31, sX4_copy_34, kX4_copy_37_AAI, sX4_copy_37, h1]
  exact e1
/-- a page of another state's Diary -/
theorem DI.copied {s s' : fm_S} {a b c n : Nat} {W M : Nat → Nat} (hD : DI s a c n W M) (h : diC s s' a b (c + 1)) (h0 : gI s' b 0 = Int32.ofNat c) : DI s' b c n W M := by
  obtain ⟨h1, h2, h3, h4, h5⟩ := hD
  obtain ⟨q1, q2⟩ := h.2.2 c (by omega)
  refine ⟨h0, h2, by rw [q1]; exact h3, h4, fun v hv => ?_⟩
  obtain ⟨⟨k1, k2⟩, k3, k4⟩ := h5 v hv
  obtain ⟨q3, q4⟩ := q2 v (by omega)
  exact ⟨⟨by rw [q3]; exact k1, k2⟩, by rw [q4]; exact k3, k4⟩
