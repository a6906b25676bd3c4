/-! a Diary: insert, remove, turn back, clear -/
def insF (F : Nat → Nat) (q x : Nat) : Nat → Nat := fun v => if v < q then F v else if v = q then x else F (v - 1)
def insS (s : fm_S) (r1 r2 q n p m : Nat) : fm_S := pI (pI (shU s r1 r2 q n) r2 q (Int32.ofNat m)) r1 q (Int32.ofNat p)
theorem insS_gI {s : fm_S} {r1 r2 q n p m b j : Nat} (hr : r1 ≠ r2) : gI (insS s r1 r2 q n p m) b j = if b = r1 ∧ j = q then Int32.ofNat p else if b = r2 ∧ j = q then Int32.ofNat m else if (b = r1 ∨ b = r2) ∧ q < j ∧ j ≤ n then gI s b (j - 1) else gI s b j := by
  unfold insS
  rw [gI_pI, gI_pI, shU_gI]
theorem d_insert {g : fm_g} {d a c n p m : Nat} {W M : Nat → Nat} {s : fm_S} (hF : FX s) (ha : a ∈ diL) (hD : DI s a c n W M) (hn : n < 24) (hm : m < 1000) (hp : p < 1000) : ev g (d + 1) mX4_insert 0 [some (.ref a), some (.int (Int32.ofNat p)), some (.int (Int32.ofNat m)), none, none, none, none] [] s = some (.inl (some (.int (Int32.ofNat (insP M m n)))), pI (insS s (a + 3 + c) (a + 25 + c) (insP M m n) n p m) (a + 1) c (Int32.ofNat (n + 1))) := by
  obtain ⟨s0, s1, s2, s3, s4, s5, s6, s7, s8, s9, s10⟩ := diS_of ha
  obtain ⟨r1, r2, r3, r4, r5⟩ := diR_of hF ha
  obtain ⟨h1, h2, h3, h4, h5⟩ := id hD
  have t1 := s7 c (by omega)
  have t2 := s8 c (by omega)
  have t3 := s9 c (by omega)
  have t4 := s10 c (by omega)
  have r6 := r4 c (by omega)
  have r7 := r5 c (by omega)
  have s3' : 64 ≤ (shp (a + 2)).1 := by omega
  have s5' : 64 ≤ (shp (a + 24)).1 := by omega
  have q0 : gR s (a + 2) (Int32.ofNat c).toNatClampNeg ≠ 0 := by rw [n32_cl (by omega), r6]; omega
  have q1 : gR s (a + 24) (Int32.ofNat c).toNatClampNeg ≠ 0 := by rw [n32_cl (by omega), r7]; omega
  have hloop := d_insLoop (g := g) (d := d) hF ha hD hn hm hp n (Nat.le_refl _)
  rw [shU_self] at hloop
  have hq := insP_le M m n
  simp (disch := first | exact jm_lt0 | exact jm_lti | exact jm_ltr | exact jm_ltl | exact jm_lti2 | exact jm_ltri | exact jm_ltir | exact jm_ltrr | exact jm_ltl2 | exact jm_ltrl | exact jm_ltlr | omega | assumption | (refine n32_inA (by assumption) ?_ ?_ <;> omega) | exact bi01 | decide) only [sX4_insert_0, sX4_insert_1, sX4_insert_4, sX4_insert_5, sX4_insert_6, sX4_insert_9, sX4_insert_10, sX4_insert_12, kX4_insert_15_AIIINNN, sX4_insert_15, sX4_insert_16, sX4_insert_17, sX4_insert_18, sX4_insert_21, sX4_insert_22, sX4_insert_25, sX4_insert_26, sX4_insert_28, sX4_insert_29, sX4_insert_32, sX4_insert_33, sX4_insert_36, sX4_insert_37, sX4_insert_39, sX4_insert_40, sX4_insert_44, sX4_insert_47, sX4_insert_49, sX4_insert_51, sX4_insert_54, sX4_insert_56, sX4_insert_58, sX4_insert_59, sX4_insert_60, sX4_insert_61, sX4_insert_62, sX4_insert_65, sX4_insert_67, sX4_insert_69, sX4_insert_71, sX4_insert_73, sX4_insert_74, sX4_insert_75, sX4_insert_76, sX4_insert_77, sX4_insert_79, sX4_insert_81, sX4_insert_83, sX4_insert_85, sX4_insert_86, sX4_insert_87, sX4_insert_88, sX4_insert_89, sX4_insert_92, sX4_insert_95, sX4_insert_97, sX4_insert_99, sX4_insert_100, sX4_insert_101, sX4_insert_103, sX4_insert_105, sX4_insert_106, sX4_insert_107, sX4_insert_108, sX4_insert_111, sX4_insert_112, sX4_insert_115, sX4_insert_116, sX4_insert_117, sX4_insert_118, sX4_insert_119, sX4_insert_121, evK_n, evK_v, evK_x, gI_pI, gJ_pI, gR_pI, gI_pJ, gJ_pJ, gR_pJ, gI_pR, gJ_pR, gR_pR, n32_le, n32_lt, n32_add, n32_mul, n32_cl, jm_lt0, jm_lti, jm_ltr, jm_ltl, jm_lti2, jm_ltri, jm_ltir, jm_ltrr, n32_lt0, d_total hF ha hD, d_page hF ha hD, r2, r3, r6, r7, if_false]
  rw [if_pos hn, hloop]
  have hF' : FX (insS s (a + 3 + c) (a + 25 + c) (insP M m n) n p m) := hF.of rfl
  have hc' : gI (insS s (a + 3 + c) (a + 25 + c) (insP M m n) n p m) a 0 = Int32.ofNat c := by
    rw [insS_gI (by omega), if_neg (by omega), if_neg (by omega), if_neg (by omega), h1]
  have hr1 : gR (insS s (a + 3 + c) (a + 25 + c) (insP M m n) n p m) a 1 = a + 1 := r1
  have e1 : pI (pI (shU s (a + 3 + c) (a + 25 + c) (insP M m n) n) (a + 25 + c) (insP M m n) (Int32.ofNat m)) (a + 3 + c) (insP M m n) (Int32.ofNat p) = insS s (a + 3 + c) (a + 25 + c) (insP M m n) n p m := rfl
  generalize insP M m n = q at hq hF' hc' hr1 e1 ⊢
  have hpg : ∀ d, ev g d mX4_page 0 [some (.ref a)] [] (insS s (a + 3 + c) (a + 25 + c) q n p m) = some (.inl (some (.int (Int32.ofNat c))), insS s (a + 3 + c) (a + 25 + c) q n p m) := fun d => by
    simp (disch := first | exact jm_lt0 | exact jm_lti | exact jm_ltr | exact jm_ltl | exact jm_lti2 | exact jm_ltri | exact jm_ltir | exact jm_ltrr | exact jm_ltl2 | exact jm_ltrl | exact jm_ltlr | omega | assumption | (refine n32_inA (by assumption) ?_ ?_ <;> omega) | exact bi01 | decide) only [sX4_page_0, sX4_page_1, sX4_page_4, sX4_page_7, sX4_page_8, sX4_page_11, sX4_page_13, sX4_page_16, sX4_page_17, sX4_page_20, kX4_page_23_A, sX4_page_23, kX4_page_24_A, sX4_page_24, n32_le, n32_lt, n32_add, n32_mul, n32_cl, n32_lt0, hc', if_false]
    rw [if_neg (by omega)]
  simp (disch := first | exact jm_lt0 | exact jm_lti | exact jm_ltr | exact jm_ltl | exact jm_lti2 | exact jm_ltri | exact jm_ltir | exact jm_ltrr | exact jm_ltl2 | exact jm_ltrl | exact jm_ltlr | omega | assumption | (refine n32_inA (by assumption) ?_ ?_ <;> omega) | exact bi01 | decide) only [sX4_insert_95, sX4_insert_97, sX4_insert_99, sX4_insert_100, sX4_insert_101, sX4_insert_103, sX4_insert_105, sX4_insert_106, n32_le, n32_lt, n32_add, n32_mul, n32_cl, e1]
  simp (disch := first | exact jm_lt0 | exact jm_lti | exact jm_ltr | exact jm_ltl | exact jm_lti2 | exact jm_ltri | exact jm_ltir | exact jm_ltrr | exact jm_ltl2 | exact jm_ltrl | exact jm_ltlr | omega | assumption | (refine n32_inA (by assumption) ?_ ?_ <;> omega) | exact bi01 | decide) only [sX4_insert_107, sX4_insert_108, sX4_insert_111, sX4_insert_112, sX4_insert_115, sX4_insert_116, sX4_insert_117, sX4_insert_118, sX4_insert_119, sX4_insert_121, evK_v, n32_le, n32_lt, n32_add, n32_mul, n32_cl, jm_lt0, jm_lti, jm_ltr, jm_ltl, jm_lti2, jm_ltri, jm_ltir, jm_ltrr, hr1, hpg]
/-- the page then -/
theorem DI_ins {a c n p m : Nat} {W M : Nat → Nat} {s : fm_S} (hD : DI s a c n W M) (hn : n < 24) (hm : m ≤ 480) (hp : p < 6) : DI (pI (insS s (a + 3 + c) (a + 25 + c) (insP M m n) n p m) (a + 1) c (Int32.ofNat (n + 1))) a c (n + 1) (insF W (insP M m n) p) (insF M (insP M m n) m) := by
  obtain ⟨h1, h2, h3, h4, h5⟩ := hD
  have hq := insP_le M m n
  generalize insP M m n = q at hq ⊢
  refine ⟨?_, h2, ?_, by omega, fun v hv => ⟨⟨?_, ?_⟩, ?_, ?_⟩⟩
  · rw [gI_pI, if_neg (by omega), insS_gI (by omega), if_neg (by omega), if_neg (by omega), if_neg (by omega), h1]
  · rw [gI_pI, if_pos ⟨rfl, rfl⟩]
  · rw [gI_pI, if_neg (by omega), insS_gI (by omega)]
    unfold insF
    by_cases c1 : v < q
    · rw [if_neg (by omega), if_neg (by omega), if_neg (by omega), if_pos c1]
      exact (h5 v (by omega)).1.1
    · by_cases c2 : v = q
      · rw [if_pos ⟨rfl, c2⟩, if_neg c1, if_pos c2]
      · rw [if_neg (by omega), if_neg (by omega), if_pos ⟨Or.inl rfl, by omega, by omega⟩, if_neg c1, if_neg c2]
        exact (h5 (v - 1) (by omega)).1.1
  · unfold insF
    by_cases c1 : v < q
    · rw [if_pos c1]; exact (h5 v (by omega)).1.2
    · by_cases c2 : v = q
      · rw [if_neg c1, if_pos c2]; exact hp
      · rw [if_neg c1, if_neg c2]; exact (h5 (v - 1) (by omega)).1.2
  · rw [gI_pI, if_neg (by omega), insS_gI (by omega)]
    unfold insF
    by_cases c1 : v < q
    · rw [if_neg (by omega), if_neg (by omega), if_neg (by omega), if_pos c1]
      exact (h5 v (by omega)).2.1
    · by_cases c2 : v = q
      · rw [if_neg (by omega), if_pos ⟨rfl, c2⟩, if_neg c1, if_pos c2]
      · rw [if_neg (by omega), if_neg (by omega), if_pos ⟨Or.inr rfl, by omega, by omega⟩, if_neg c1, if_neg c2]
        exact (h5 (v - 1) (by omega)).2.1
  · unfold insF
    by_cases c1 : v < q
    · rw [if_pos c1]; exact (h5 v (by omega)).2.2
    · by_cases c2 : v = q
      · rw [if_neg c1, if_pos c2]; exact hm
      · rw [if_neg c1, if_neg c2]; exact (h5 (v - 1) (by omega)).2.2
/-- two rows, what stands from the place v on (to k) moved down by one -/
def shD (s : fm_S) (r1 r2 v k : Nat) : fm_S := (fun b j => if (b = r1 ∨ b = r2) ∧ v ≤ j ∧ j < k then s.1 b (j + 1) else s.1 b j, s.2)
theorem shD_gI {s : fm_S} {r1 r2 v k b j : Nat} : gI (shD s r1 r2 v k) b j = if (b = r1 ∨ b = r2) ∧ v ≤ j ∧ j < k then gI s b (j + 1) else gI s b j := rfl
theorem shD_self {s : fm_S} {r1 r2 v : Nat} : shD s r1 r2 v v = s := by
  obtain ⟨I, J, R, n1, n2⟩ := s
  unfold shD
  congr 1
  funext b j
  rw [if_neg (by omega)]
theorem shD_step {s : fm_S} {r1 r2 v k : Nat} (hk : v ≤ k) : pI (pI (shD s r1 r2 v k) r1 k (gI s r1 (k + 1))) r2 k (gI s r2 (k + 1)) = shD s r1 r2 v (k + 1) := by
  obtain ⟨I, J, R, n1, n2⟩ := s
  unfold shD pI gI
  congr 1
  funext b j
  dsimp only
  by_cases h1 : b = r2 ∧ j = k
  · obtain ⟨rfl, rfl⟩ := h1
    rw [if_pos ⟨rfl, rfl⟩, if_pos ⟨Or.inr rfl, by omega, by omega⟩]
  · rw [if_neg h1]
    by_cases h2 : b = r1 ∧ j = k
    · obtain ⟨rfl, rfl⟩ := h2
      rw [if_pos ⟨rfl, rfl⟩, if_pos ⟨Or.inl rfl, by omega, by omega⟩]
    · rw [if_neg h2]
      by_cases h3 : (b = r1 ∨ b = r2) ∧ v ≤ j ∧ j < k
      · rw [if_pos h3, if_pos ⟨h3.1, h3.2.1, by omega⟩]
      · rw [if_neg h3, if_neg]
        rintro ⟨h4, h5, h6⟩
        have h7 : j = k ∨ j < k := by omega
        rcases h7 with rfl | h7
        · rcases h4 with rfl | rfl
          · exact h2 ⟨rfl, rfl⟩
          · exact h1 ⟨rfl, rfl⟩
        · exact h3 ⟨h4, h5, h7⟩
theorem d_remLoop {g : fm_g} {d a c n v : Nat} {W M : Nat → Nat} {s : fm_S} (hF : FX s) (ha : a ∈ diL) (hD : DI s a c n W M) (hv : v < n) : ∀ k, v ≤ k → k < n → ev g (d + 1) mX4_remove 45 [some (.ref a), none, some (.int (Int32.ofNat n)), some (.ref (a + 3 + c)), some (.ref (a + 25 + c)), some (.int (Int32.ofNat k))] [] (shD s (a + 3 + c) (a + 25 + c) v k) = ev g (d + 1) mX4_remove 81 [some (.ref a), none, some (.int (Int32.ofNat n)), none, none, none] [] (shD s (a + 3 + c) (a + 25 + c) v (n - 1)) := by
  intro k hvk hk
  obtain ⟨s0, s1, s2, s3, s4, s5, s6, s7, s8, s9, s10⟩ := diS_of ha
  obtain ⟨h1, h2, h3, h4, h5⟩ := id hD
  have t1 := s7 c (by omega)
  have t2 := s8 c (by omega)
  have t3 := s9 c (by omega)
  have t4 := s10 c (by omega)
  rw [sX4_remove_45]
  by_cases c1 : k + 1 < n
  · have g1 : gI (shD s (a + 3 + c) (a + 25 + c) v k) (a + 3 + c) (k + 1) = gI s (a + 3 + c) (k + 1) := by rw [shD_gI, if_neg (by omega)]
    have g2 : ∀ x, gI (pI (shD s (a + 3 + c) (a + 25 + c) v k) (a + 3 + c) k x) (a + 25 + c) (k + 1) = gI s (a + 25 + c) (k + 1) := fun x => by rw [gI_pI, if_neg (by omega), shD_gI, if_neg (by omega)]
    have hst := shD_step (s := s) (r1 := a + 3 + c) (r2 := a + 25 + c) hvk
    have hrec := d_remLoop (g := g) (d := d) hF ha hD hv (k + 1) (by omega) c1
    simp (disch := first | exact jm_lt0 | exact jm_lti | exact jm_ltr | exact jm_ltl | exact jm_lti2 | exact jm_ltri | exact jm_ltir | exact jm_ltrr | exact jm_ltl2 | exact jm_ltrl | exact jm_ltlr | omega | assumption | (refine n32_inA (by assumption) ?_ ?_ <;> omega) | exact bi01 | decide) only [sX4_remove_0, sX4_remove_1, sX4_remove_4, sX4_remove_5, sX4_remove_6, sX4_remove_9, sX4_remove_10, sX4_remove_11, sX4_remove_14, sX4_remove_15, sX4_remove_17, kX4_remove_20_AIINNN, sX4_remove_20, sX4_remove_21, sX4_remove_22, sX4_remove_25, sX4_remove_26, sX4_remove_29, sX4_remove_30, sX4_remove_31, sX4_remove_32, sX4_remove_35, sX4_remove_36, sX4_remove_39, sX4_remove_40, sX4_remove_42, sX4_remove_43, kX4_remove_45_AIIAAI, sX4_remove_47, sX4_remove_48, sX4_remove_49, sX4_remove_50, sX4_remove_53, sX4_remove_54, sX4_remove_56, sX4_remove_57, sX4_remove_59, sX4_remove_60, sX4_remove_61, sX4_remove_62, sX4_remove_63, sX4_remove_65, sX4_remove_67, sX4_remove_69, sX4_remove_71, sX4_remove_72, sX4_remove_73, sX4_remove_74, sX4_remove_75, sX4_remove_78, kX4_remove_81_ANIAAI, sX4_remove_82, sX4_remove_85, sX4_remove_86, sX4_remove_89, sX4_remove_90, sX4_remove_91, sX4_remove_92, sX4_remove_93, n32_le, n32_lt, n32_add, n32_mul, n32_cl, g1, g2, hst]
    rw [if_neg (by omega)]
    exact hrec
  · have e1 : k = n - 1 := by omega
    simp (disch := first | exact jm_lt0 | exact jm_lti | exact jm_ltr | exact jm_ltl | exact jm_lti2 | exact jm_ltri | exact jm_ltir | exact jm_ltrr | exact jm_ltl2 | exact jm_ltrl | exact jm_ltlr | omega | assumption | (refine n32_inA (by assumption) ?_ ?_ <;> omega) | exact bi01 | decide) only [sX4_remove_0, sX4_remove_1, sX4_remove_4, sX4_remove_5, sX4_remove_6, sX4_remove_9, sX4_remove_10, sX4_remove_11, sX4_remove_14, sX4_remove_15, sX4_remove_17, kX4_remove_20_AIINNN, sX4_remove_20, sX4_remove_21, sX4_remove_22, sX4_remove_25, sX4_remove_26, sX4_remove_29, sX4_remove_30, sX4_remove_31, sX4_remove_32, sX4_remove_35, sX4_remove_36, sX4_remove_39, sX4_remove_40, sX4_remove_42, sX4_remove_43, kX4_remove_45_AIIAAI, sX4_remove_47, sX4_remove_48, sX4_remove_49, sX4_remove_50, sX4_remove_53, sX4_remove_54, sX4_remove_56, sX4_remove_57, sX4_remove_59, sX4_remove_60, sX4_remove_61, sX4_remove_62, sX4_remove_63, sX4_remove_65, sX4_remove_67, sX4_remove_69, sX4_remove_71, sX4_remove_72, sX4_remove_73, sX4_remove_74, sX4_remove_75, sX4_remove_78, kX4_remove_81_ANIAAI, sX4_remove_82, sX4_remove_85, sX4_remove_86, sX4_remove_89, sX4_remove_90, sX4_remove_91, sX4_remove_92, sX4_remove_93, n32_le, n32_lt, n32_add, n32_mul, n32_cl]
    rw [if_pos (by omega), e1]
termination_by k => n - k
