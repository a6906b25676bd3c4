/-! a Diary: remove, turn back, clear, copies -/
def remF (F : Nat → Nat) (v : Nat) : Nat → Nat := fun j => if j < v then F j else F (j + 1)
theorem d_remove {g : fm_g} {d a c n v : Nat} {W M : Nat → Nat} {s : fm_S} (hF : FX s) (ha : a ∈ diL) (hD : DI s a c n W M) (hv : v < n) : ev g (d + 1) mX4_remove 0 [some (.ref a), some (.int (Int32.ofNat v)), none, none, none, none] [] s = some (.inl none, pI (shD s (a + 3 + c) (a + 25 + c) v (n - 1)) (a + 1) c (Int32.ofNat (n - 1))) := by
  obtain ⟨s0, s1, s2, s3, s4, s5, s6, s7, s8, s9, s10⟩ := diS_of ha
  obtain ⟨r1, r2, r3, r4, r5⟩ := diR_of hF ha
  obtain ⟨h1, h2, h3, h4, h5⟩ := id hD
  have t1 := s7 c (by omega)
  have t2 := s8 c (by omega)
  have t3 := s9 c (by omega)
  have t4 := s10 c (by omega)
  have r6 := r4 c (by omega)
  have r7 := r5 c (by omega)
  have s3' : 64 ≤ (shp (a + 2)).1 := by omega
  have s5' : 64 ≤ (shp (a + 24)).1 := by omega
  have q0 : gR s (a + 2) (Int32.ofNat c).toNatClampNeg ≠ 0 := by rw [n32_cl (by omega), r6]; omega
  have q1 : gR s (a + 24) (Int32.ofNat c).toNatClampNeg ≠ 0 := by rw [n32_cl (by omega), r7]; omega
  have hloop := d_remLoop (g := g) (d := d) hF ha hD hv v (Nat.le_refl _) hv
  rw [shD_self] at hloop
  simp (disch := first | exact jm_lt0 | exact jm_lti | exact jm_ltr | exact jm_ltl | exact jm_lti2 | exact jm_ltri | exact jm_ltir | exact jm_ltrr | exact jm_ltl2 | exact jm_ltrl | exact jm_ltlr | omega | assumption | (refine n32_inA (by assumption) ?_ ?_ <;> omega) | exact bi01 | decide) only [sX4_remove_0, sX4_remove_1, sX4_remove_4, sX4_remove_5, sX4_remove_6, sX4_remove_9, sX4_remove_10, sX4_remove_11, sX4_remove_14, sX4_remove_15, sX4_remove_17, kX4_remove_20_AIINNN, sX4_remove_20, sX4_remove_21, sX4_remove_22, sX4_remove_25, sX4_remove_26, sX4_remove_29, sX4_remove_30, sX4_remove_31, sX4_remove_32, sX4_remove_35, sX4_remove_36, sX4_remove_39, sX4_remove_40, sX4_remove_42, sX4_remove_43, kX4_remove_45_AIIAAI, sX4_remove_47, sX4_remove_48, sX4_remove_49, sX4_remove_50, sX4_remove_53, sX4_remove_54, sX4_remove_56, sX4_remove_57, sX4_remove_59, sX4_remove_60, sX4_remove_61, sX4_remove_62, sX4_remove_63, sX4_remove_65, sX4_remove_67, sX4_remove_69, sX4_remove_71, sX4_remove_72, sX4_remove_73, sX4_remove_74, sX4_remove_75, sX4_remove_78, kX4_remove_81_ANIAAI, sX4_remove_81, sX4_remove_82, sX4_remove_85, sX4_remove_86, sX4_remove_89, sX4_remove_90, sX4_remove_91, sX4_remove_92, sX4_remove_93, evK_n, evK_v, evK_x, gI_pI, gJ_pI, gR_pI, gI_pJ, gJ_pJ, gR_pJ, gI_pR, gJ_pR, gR_pR, n32_le, n32_lt, n32_add, n32_mul, n32_cl, jm_lt0, jm_lti, jm_ltr, jm_ltl, jm_lti2, jm_ltri, jm_ltir, jm_ltrr, n32_lt0, d_total hF ha hD, d_page hF ha hD, r2, r3, r6, r7, if_false]
  rw [if_neg (by omega), if_pos (by omega), hloop]
  have hc' : gI (shD s (a + 3 + c) (a + 25 + c) v (n - 1)) a 0 = Int32.ofNat c := by rw [shD_gI, if_neg (by omega), h1]
  have hr1 : gR (shD s (a + 3 + c) (a + 25 + c) v (n - 1)) a 1 = a + 1 := r1
  have hpg : ∀ d, ev g d mX4_page 0 [some (.ref a)] [] (shD s (a + 3 + c) (a + 25 + c) v (n - 1)) = some (.inl (some (.int (Int32.ofNat c))), shD s (a + 3 + c) (a + 25 + c) v (n - 1)) := fun d => by
    simp (disch := first | exact jm_lt0 | exact jm_lti | exact jm_ltr | exact jm_ltl | exact jm_lti2 | exact jm_ltri | exact jm_ltir | exact jm_ltrr | exact jm_ltl2 | exact jm_ltrl | exact jm_ltlr | omega | assumption | (refine n32_inA (by assumption) ?_ ?_ <;> omega) | exact bi01 | decide) only [sX4_page_0, sX4_page_1, sX4_page_4, sX4_page_7, sX4_page_8, sX4_page_11, sX4_page_13, sX4_page_16, sX4_page_17, sX4_page_20, kX4_page_23_A, sX4_page_23, kX4_page_24_A, sX4_page_24, n32_le, n32_lt, n32_add, n32_mul, n32_cl, n32_lt0, hc', if_false]
    rw [if_neg (by omega)]
  simp (disch := first | exact jm_lt0 | exact jm_lti | exact jm_ltr | exact jm_ltl | exact jm_lti2 | exact jm_ltri | exact jm_ltir | exact jm_ltrr | exact jm_ltl2 | exact jm_ltrl | exact jm_ltlr | omega | assumption | (refine n32_inA (by assumption) ?_ ?_ <;> omega) | exact bi01 | decide) only [sX4_remove_81, sX4_remove_82, sX4_remove_85, sX4_remove_86, sX4_remove_89, sX4_remove_90, sX4_remove_91, sX4_remove_92, sX4_remove_93, evK_v, n32_le, n32_lt, n32_add, n32_mul, n32_cl, jm_lt0, jm_lti, jm_ltr, jm_ltl, jm_lti2, jm_ltri, jm_ltir, jm_ltrr, n32_sub, hr1, hpg]
theorem DI_rem {a c n v : Nat} {W M : Nat → Nat} {s : fm_S} (hD : DI s a c n W M) (hv : v < n) : DI (pI (shD s (a + 3 + c) (a + 25 + c) v (n - 1)) (a + 1) c (Int32.ofNat (n - 1))) a c (n - 1) (remF W v) (remF M v) := by
  obtain ⟨h1, h2, h3, h4, h5⟩ := hD
  refine ⟨?_, h2, ?_, by omega, fun j hj => ⟨⟨?_, ?_⟩, ?_, ?_⟩⟩
  · rw [gI_pI, if_neg (by omega), shD_gI, if_neg (by omega), h1]
  · rw [gI_pI, if_pos ⟨rfl, rfl⟩]
  · rw [gI_pI, if_neg (by omega), shD_gI]
    unfold remF
    by_cases c1 : j < v
    · rw [if_neg (by omega), if_pos c1]; exact (h5 j (by omega)).1.1
    · rw [if_pos ⟨Or.inl rfl, by omega, by omega⟩, if_neg c1]; exact (h5 (j + 1) (by omega)).1.1
  · unfold remF
    split
    · exact (h5 j (by omega)).1.2
    · exact (h5 (j + 1) (by omega)).1.2
  · rw [gI_pI, if_neg (by omega), shD_gI]
    unfold remF
    by_cases c1 : j < v
    · rw [if_neg (by omega), if_pos c1]; exact (h5 j (by omega)).2.1
    · rw [if_pos ⟨Or.inr rfl, by omega, by omega⟩, if_neg c1]; exact (h5 (j + 1) (by omega)).2.1
  · unfold remF
    split
    · exact (h5 j (by omega)).2.2
    · exact (h5 (j + 1) (by omega)).2.2
theorem d_turnBack {g : fm_g} {d a c : Nat} {s : fm_S} (ha : a ∈ diL) (h1 : gI s a 0 = Int32.ofNat c) (hc : c ≤ 20) : ev g d mX4_turnBack 0 [some (.ref a)] [] s = if 0 < c then some (.inl (some (.int (Int32.ofNat 1))), pI s a 0 (Int32.ofNat (c - 1))) else some (.inl (some (.int (Int32.ofNat 0))), s) := by
  obtain ⟨s0, s1, s2, s3, s4, s5, s6, s7, s8, s9, s10⟩ := diS_of ha
  by_cases c1 : 0 < c
  · simp (disch := first | exact jm_lt0 | exact jm_lti | exact jm_ltr | exact jm_ltl | exact jm_lti2 | exact jm_ltri | exact jm_ltir | exact jm_ltrr | exact jm_ltl2 | exact jm_ltrl | exact jm_ltlr | omega | assumption | (refine n32_inA (by assumption) ?_ ?_ <;> omega) | exact bi01 | decide) only [sX4_turnBack_0, sX4_turnBack_1, sX4_turnBack_4, sX4_turnBack_7, sX4_turnBack_8, sX4_turnBack_9, sX4_turnBack_10, sX4_turnBack_11, sX4_turnBack_14, sX4_turnBack_15, sX4_turnBack_16, sX4_turnBack_19, sX4_turnBack_20, n32_le, n32_lt, n32_add, n32_mul, n32_cl, h1, n32_0lt, n32_sub, c1, if_true]
  · simp (disch := first | exact jm_lt0 | exact jm_lti | exact jm_ltr | exact jm_ltl | exact jm_lti2 | exact jm_ltri | exact jm_ltir | exact jm_ltrr | exact jm_ltl2 | exact jm_ltrl | exact jm_ltlr | omega | assumption | (refine n32_inA (by assumption) ?_ ?_ <;> omega) | exact bi01 | decide) only [sX4_turnBack_0, sX4_turnBack_1, sX4_turnBack_4, sX4_turnBack_7, sX4_turnBack_8, sX4_turnBack_9, sX4_turnBack_10, sX4_turnBack_11, sX4_turnBack_14, sX4_turnBack_15, sX4_turnBack_16, sX4_turnBack_19, sX4_turnBack_20, n32_le, n32_lt, n32_add, n32_mul, n32_cl, h1, n32_0lt, c1, if_false]
theorem d_clear {g : fm_g} {d a : Nat} {s : fm_S} (hF : FX s) (ha : a ∈ diL) : ev g d mX4_clear 0 [some (.ref a)] [] s = some (.inl none, pI (pI s a 0 (Int32.ofNat 0)) (a + 1) 0 (Int32.ofNat 0)) := by
  obtain ⟨s0, s1, s2, s3, s4, s5, s6, s7, s8, s9, s10⟩ := diS_of ha
  obtain ⟨r1, r2, r3, r4, r5⟩ := diR_of hF ha
  simp (disch := first | exact jm_lt0 | exact jm_lti | exact jm_ltr | exact jm_ltl | exact jm_lti2 | exact jm_ltri | exact jm_ltir | exact jm_ltrr | exact jm_ltl2 | exact jm_ltrl | exact jm_ltlr | omega | assumption | (refine n32_inA (by assumption) ?_ ?_ <;> omega) | exact bi01 | decide) only [sX4_clear_0, sX4_clear_1, sX4_clear_2, sX4_clear_5, sX4_clear_6, sX4_clear_9, sX4_clear_10, sX4_clear_11, sX4_clear_12, evK_n, evK_v, evK_x, gI_pI, gJ_pI, gR_pI, gI_pJ, gJ_pJ, gR_pJ, gI_pR, gJ_pR, gR_pR, n32_le, n32_lt, n32_add, n32_mul, n32_cl, r1]
/-- two rows copied as far as k -/
def cpS (s : fm_S) (fw tw fm tm k : Nat) : fm_S := (fun b j => if b = tw ∧ j < k then s.1 fw j else if b = tm ∧ j < k then s.1 fm j else s.1 b j, s.2)
theorem cpS_gI {s : fm_S} {fw tw fm tm k b j : Nat} : gI (cpS s fw tw fm tm k) b j = if b = tw ∧ j < k then gI s fw j else if b = tm ∧ j < k then gI s fm j else gI s b j := rfl
theorem cpS_0 {s : fm_S} {fw tw fm tm : Nat} : cpS s fw tw fm tm 0 = s := by
  obtain ⟨I, J, R, n1, n2⟩ := s
  unfold cpS
  congr 1
  funext b j
  rw [if_neg (by omega), if_neg (by omega)]
theorem cpS_step {s : fm_S} {fw tw fm tm k : Nat} (h : tw ≠ tm) : pI (pI (cpS s fw tw fm tm k) tw k (gI s fw k)) tm k (gI s fm k) = cpS s fw tw fm tm (k + 1) := by
  obtain ⟨I, J, R, n1, n2⟩ := s
  unfold cpS pI gI
  congr 1
  funext b j
  dsimp only
  by_cases h1 : b = tm ∧ j = k
  · obtain ⟨rfl, rfl⟩ := h1
    rw [if_pos ⟨rfl, rfl⟩, if_neg (fun q => h q.1.symm), if_pos ⟨rfl, by omega⟩]
  · rw [if_neg h1]
    by_cases h2 : b = tw ∧ j = k
    · obtain ⟨rfl, rfl⟩ := h2
      rw [if_pos ⟨rfl, rfl⟩, if_pos ⟨rfl, by omega⟩]
    · rw [if_neg h2]
      by_cases h3 : b = tw ∧ j < k
      · rw [if_pos h3, if_pos ⟨h3.1, by omega⟩]
      · rw [if_neg h3]
        by_cases h4 : b = tm ∧ j < k
        · rw [if_pos h4, if_neg (fun q => h (q.1.symm.trans h4.1)), if_pos ⟨h4.1, by omega⟩]
        · rw [if_neg h4, if_neg, if_neg]
          · rintro ⟨q1, q2⟩
            have : j = k ∨ j < k := by omega
            rcases this with q3 | q3
            · exact h1 ⟨q1, q3⟩
            · exact h4 ⟨q1, q3⟩
          · rintro ⟨q1, q2⟩
            have : j = k ∨ j < k := by omega
            rcases this with q3 | q3
            · exact h2 ⟨q1, q3⟩
            · exact h3 ⟨q1, q3⟩
/-- rows of Diaries are apart -/
theorem di_apart : ∀ a ∈ diL, ∀ b ∈ diL, ∀ f, f < 21 → ∀ t, t < 21 → (a ≠ b ∨ f ≠ t) → a + 3 + f ≠ b + 3 + t ∧ a + 3 + f ≠ b + 25 + t ∧ a + 25 + f ≠ b + 3 + t ∧ a + 25 + f ≠ b + 25 + t := by decide +kernel
theorem d_copyLoop {g : fm_g} {d a b f t : Nat} {s : fm_S} (hF : FX s) (ha : a ∈ diL) (hb : b ∈ diL) (hf : f < 21) (ht : t < 21) (hne : a ≠ b ∨ f ≠ t) : ∀ k, k ≤ 24 → ev g d mX4_copyPage 36 [some (.ref b), some (.int (Int32.ofNat f)), some (.ref a), some (.int (Int32.ofNat t)), some (.int (Int32.ofNat k))] [] (cpS s (a + 3 + f) (b + 3 + t) (a + 25 + f) (b + 25 + t) k) = some (.inl none, cpS s (a + 3 + f) (b + 3 + t) (a + 25 + f) (b + 25 + t) 24) := by
  intro k hk
  obtain ⟨s0, s1, s2, s3, s4, s5, s6, s7, s8, s9, s10⟩ := diS_of ha
  obtain ⟨u0, u1, u2, u3, u4, u5, u6, u7, u8, u9, u10⟩ := diS_of hb
  obtain ⟨r1, r2, r3, r4, r5⟩ := diR_of hF ha
  obtain ⟨v1, v2, v3, v4, v5⟩ := diR_of hF hb
  obtain ⟨p1, p2, p3, p4⟩ := di_apart a ha b hb f hf t ht hne
  have t1 := s7 f hf
  have t2 := s8 f hf
  have t3 := s9 f hf
  have t4 := s10 f hf
  have w1 := u7 t ht
  have w2 := u8 t ht
  have w3 := u9 t ht
  have w4 := u10 t ht
  have r6 := r4 f hf
  have r7 := r5 f hf
  have v6 := v4 t ht
  have v7 := v5 t ht
  rw [sX4_copyPage_36]
  by_cases c1 : k < 24
  · have hrec := d_copyLoop (g := g) (d := d) hF ha hb hf ht hne (k + 1) (by omega)
    have hst := cpS_step (s := s) (fw := a + 3 + f) (tw := b + 3 + t) (fm := a + 25 + f) (tm := b + 25 + t) (k := k) (by omega)
    generalize hX : cpS s (a + 3 + f) (b + 3 + t) (a + 25 + f) (b + 25 + t) k = X at hst ⊢
    have x1 : gR X b 2 = b + 2 := by rw [← hX]; exact v2
    have x2 : gR X b 3 = b + 24 := by rw [← hX]; exact v3
    have x3 : gR X a 2 = a + 2 := by rw [← hX]; exact r2
    have x4 : gR X a 3 = a + 24 := by rw [← hX]; exact r3
    have x5 : gR X (b + 2) t = b + 3 + t := by rw [← hX]; exact v6
    have x6 : gR X (b + 24) t = b + 25 + t := by rw [← hX]; exact v7
    have x7 : gR X (a + 2) f = a + 3 + f := by rw [← hX]; exact r6
    have x8 : gR X (a + 24) f = a + 25 + f := by rw [← hX]; exact r7
    have y1 : gR X (b + 2) (Int32.ofNat t).toNatClampNeg ≠ 0 := by rw [n32_cl (by omega), x5]; omega
    have y2 : gR X (a + 2) (Int32.ofNat f).toNatClampNeg ≠ 0 := by rw [n32_cl (by omega), x7]; omega
    have y3 : ∀ x, gR (pI X (b + 3 + t) k x) (b + 24) (Int32.ofNat t).toNatClampNeg ≠ 0 := fun x => by rw [n32_cl (by omega), gR_pI, x6]; omega
    have y4 : ∀ x, gR (pI X (b + 3 + t) k x) (a + 24) (Int32.ofNat f).toNatClampNeg ≠ 0 := fun x => by rw [n32_cl (by omega), gR_pI, x8]; omega
    have z1 : gI X (a + 3 + f) k = gI s (a + 3 + f) k := by rw [← hX, cpS_gI, if_neg (by omega), if_neg (by omega)]
    have z2 : ∀ x, gI (pI X (b + 3 + t) k x) (a + 25 + f) k = gI s (a + 25 + f) k := fun x => by rw [gI_pI, if_neg (by omega), ← hX, cpS_gI, if_neg (by omega), if_neg (by omega)]
    have k64a : 64 ≤ (shp (a + 2)).1 := by omega
    have k64b : 64 ≤ (shp (b + 2)).1 := by omega
    have k64c : 64 ≤ (shp (a + 24)).1 := by omega
    have k64d : 64 ≤ (shp (b + 24)).1 := by omega
    have y3' := y3 (gI s (a + 3 + f) k)
    have y4' := y4 (gI s (a + 3 + f) k)
    simp (disch := first | exact jm_lt0 | exact jm_lti | exact jm_ltr | exact jm_ltl | exact jm_lti2 | exact jm_ltri | exact jm_ltir | exact jm_ltrr | exact jm_ltl2 | exact jm_ltrl | exact jm_ltlr | omega | assumption | (refine n32_inA (by assumption) ?_ ?_ <;> omega) | exact bi01 | decide) only [sX4_copyPage_0, sX4_copyPage_1, sX4_copyPage_4, sX4_copyPage_5, sX4_copyPage_7, sX4_copyPage_10, sX4_copyPage_11, sX4_copyPage_14, sX4_copyPage_15, sX4_copyPage_17, kX4_copyPage_20_AIAIN, sX4_copyPage_20, sX4_copyPage_21, sX4_copyPage_22, sX4_copyPage_25, sX4_copyPage_26, sX4_copyPage_27, sX4_copyPage_30, sX4_copyPage_31, sX4_copyPage_32, sX4_copyPage_33, sX4_copyPage_34, sX4_copyPage_38, sX4_copyPage_40, sX4_copyPage_43, sX4_copyPage_44, sX4_copyPage_47, sX4_copyPage_48, sX4_copyPage_49, sX4_copyPage_51, sX4_copyPage_52, sX4_copyPage_55, sX4_copyPage_56, sX4_copyPage_57, sX4_copyPage_59, sX4_copyPage_60, sX4_copyPage_61, sX4_copyPage_62, sX4_copyPage_65, sX4_copyPage_66, sX4_copyPage_67, sX4_copyPage_69, sX4_copyPage_70, sX4_copyPage_73, sX4_copyPage_74, sX4_copyPage_75, sX4_copyPage_77, sX4_copyPage_78, sX4_copyPage_79, sX4_copyPage_82, kX4_copyPage_85_AIAII, sX4_copyPage_85, n32_le, n32_lt, n32_add, n32_mul, n32_cl, gR_pI, x1, x2, x3, x4, x5, x6, x7, x8, z1, z2, hst]
    rw [if_neg (by omega)]
    exact hrec
  · have e1 : k = 24 := by omega
    simp (disch := first | exact jm_lt0 | exact jm_lti | exact jm_ltr | exact jm_ltl | exact jm_lti2 | exact jm_ltri | exact jm_ltir | exact jm_ltrr | exact jm_ltl2 | exact jm_ltrl | exact jm_ltlr | omega | assumption | (refine n32_inA (by assumption) ?_ ?_ <;> omega) | exact bi01 | decide) only [sX4_copyPage_0, sX4_copyPage_1, sX4_copyPage_4, sX4_copyPage_5, sX4_copyPage_7, sX4_copyPage_10, sX4_copyPage_11, sX4_copyPage_14, sX4_copyPage_15, sX4_copyPage_17, kX4_copyPage_20_AIAIN, sX4_copyPage_20, sX4_copyPage_21, sX4_copyPage_22, sX4_copyPage_25, sX4_copyPage_26, sX4_copyPage_27, sX4_copyPage_30, sX4_copyPage_31, sX4_copyPage_32, sX4_copyPage_33, sX4_copyPage_34, sX4_copyPage_38, sX4_copyPage_40, sX4_copyPage_43, sX4_copyPage_44, sX4_copyPage_47, sX4_copyPage_48, sX4_copyPage_49, sX4_copyPage_51, sX4_copyPage_52, sX4_copyPage_55, sX4_copyPage_56, sX4_copyPage_57, sX4_copyPage_59, sX4_copyPage_60, sX4_copyPage_61, sX4_copyPage_62, sX4_copyPage_65, sX4_copyPage_66, sX4_copyPage_67, sX4_copyPage_69, sX4_copyPage_70, sX4_copyPage_73, sX4_copyPage_74, sX4_copyPage_75, sX4_copyPage_77, sX4_copyPage_78, sX4_copyPage_79, sX4_copyPage_82, kX4_copyPage_85_AIAII, sX4_copyPage_85, n32_le, n32_lt, n32_add, n32_mul, n32_cl]
    rw [if_pos (by omega), e1]
termination_by k => 24 - k
