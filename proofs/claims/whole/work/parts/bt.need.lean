/-! what a call needs, both -/
def win (x lo hi : Int32) : Prop := ¬ x < lo ∧ ¬ hi < x
theorem win_n {x : Int32} {a b : Nat} (ha : a < 1000) (hb : b < 1000) : win x (Int32.ofNat a) (Int32.ofNat b) ↔ ∃ n, a ≤ n ∧ n ≤ b ∧ x = Int32.ofNat n := by
  unfold win
  rw [Int32.lt_iff_toInt_lt, Int32.lt_iff_toInt_lt, n32_toInt (by omega), n32_toInt (by omega)]
  constructor
  · rintro ⟨h1, h2⟩
    refine ⟨x.toInt.toNat, by omega, by omega, ?_⟩
    apply Int32.toInt_inj.mp
    rw [n32_toInt (by omega)]
    omega
  · rintro ⟨n, h1, h2, rfl⟩
    rw [n32_toInt (by omega)]
    omega
theorem win_p {x : Int32} {n : Nat} (hn : n < 1000) : win x (Int32.ofNat 0) (Int32.ofNat n - Int32.ofNat 1) ↔ ∃ v, v < n ∧ x = Int32.ofNat v := by
  have hti : (Int32.ofNat n - Int32.ofNat 1).toInt = (n : Int) - 1 := by
    rw [Int32.toInt_sub, n32_toInt (by omega), n32_toInt (by decide), Int.bmod_eq_of_le] <;> omega
  unfold win
  rw [Int32.lt_iff_toInt_lt, Int32.lt_iff_toInt_lt, n32_toInt (by decide), hti]
  constructor
  · rintro ⟨h1, h2⟩
    refine ⟨x.toInt.toNat, by omega, ?_⟩
    apply Int32.toInt_inj.mp
    rw [n32_toInt (by omega)]
    omega
  · rintro ⟨v, h1, rfl⟩
    rw [n32_toInt (by omega)]
    omega
theorem win_01 {x : Int32} : win x (Int32.ofNat 0) (Int32.ofNat 1) ↔ (x = 0 ∨ x = Int32.ofNat 1) := by
  rw [win_n (by decide) (by decide)]
  constructor
  · rintro ⟨n, h1, h2, rfl⟩
    have : n = 0 ∨ n = 1 := by omega
    rcases this with rfl | rfl
    · exact Or.inl rfl
    · exact Or.inr rfl
  · rintro (rfl | rfl)
    · exact ⟨0, by decide, by decide, rfl⟩
    · exact ⟨1, by decide, by decide, rfl⟩
section ND
variable {g : fm_g} {d : Nat} {w : WD} {G : GS} {ver : Nat} {s t : fm_S}
/-- a call was refused: the place of the counter -/
def fl (s : fm_S) (j : Nat) : fm_S := pX (pI s 0 j (gI s 0 j + Int32.ofNat 1))
theorem fl_gI {s : fm_S} {j b k : Nat} : gI (fl s j) b k = if b = 0 ∧ k = j then gI s 0 j + Int32.ofNat 1 else gI s b k := rfl
theorem fl_gJ {s : fm_S} {j b k : Nat} : gJ (fl s j) b k = gJ s b k := rfl
theorem fl_gR {s : fm_S} {j b k : Nat} : gR (fl s j) b k = gR s b k := rfl
theorem evH_x {M : jm_M} {pc np hp E : Nat} {L : jm_L} {rest : List Value} {s' : fm_S} (h : jm_hnd M.2.2.2.2.1 pc E = some hp) : evH g d M pc np L rest (some (.inr E, s')) = ev g d M hp L [.float 1] s' := by
  show (match jm_hnd M.2.2.2.2.1 pc E with | some hp => ev g d M hp L [.float 1] s' | none => none) = _
  rw [h]
theorem c11_within {x lo hi : Int32} {P : Prop} (h : win x lo hi ↔ P) [Decidable P] : ev g d mX11_isWithin 0 [some (.int x), some (.int lo), some (.int hi)] [] s = some (.inl (some (.int (bi P))), s) := by
  by_cases c1 : x < lo
  · have hP : ¬ P := fun p => (h.mpr p).1 c1
    rw [bi_f hP]
    simp (disch := first | exact jm_lt0 | (apply jm_ltx; (repeat (first | exact jw_0 | apply jw_i | apply jw_r | apply jw_l)); omega) | omega | assumption | (refine n32_inA (by assumption) ?_ ?_ <;> omega) | exact bi01 | decide) only [sX11_isWithin_0, sX11_isWithin_1, sX11_isWithin_2, sX11_isWithin_5, sX11_isWithin_6, sX11_isWithin_7, sX11_isWithin_10, sX11_isWithin_11, kX11_isWithin_14_III, sX11_isWithin_14, kX11_isWithin_15_III, sX11_isWithin_15, if_true, if_false, not_true_eq_false, not_false_eq_true, and_true, true_and, and_false, false_and, and_self, or_true, true_or, or_false, false_or, or_self, ne_eq, Decidable.not_not, Nat.reduceEqDiff, Nat.reduceEqDiff, c1]
  · by_cases c2 : hi < x
    · have hP : ¬ P := fun p => (h.mpr p).2 c2
      rw [bi_f hP]
      simp (disch := first | exact jm_lt0 | (apply jm_ltx; (repeat (first | exact jw_0 | apply jw_i | apply jw_r | apply jw_l)); omega) | omega | assumption | (refine n32_inA (by assumption) ?_ ?_ <;> omega) | exact bi01 | decide) only [sX11_isWithin_0, sX11_isWithin_1, sX11_isWithin_2, sX11_isWithin_5, sX11_isWithin_6, sX11_isWithin_7, sX11_isWithin_10, sX11_isWithin_11, kX11_isWithin_14_III, sX11_isWithin_14, kX11_isWithin_15_III, sX11_isWithin_15, if_true, if_false, not_true_eq_false, not_false_eq_true, and_true, true_and, and_false, false_and, and_self, or_true, true_or, or_false, false_or, or_self, ne_eq, Decidable.not_not, Nat.reduceEqDiff, Nat.reduceEqDiff, c1, c2]
    · rw [bi_t (h.mp ⟨c1, c2⟩)]
      simp (disch := first | exact jm_lt0 | (apply jm_ltx; (repeat (first | exact jw_0 | apply jw_i | apply jw_r | apply jw_l)); omega) | omega | assumption | (refine n32_inA (by assumption) ?_ ?_ <;> omega) | exact bi01 | decide) only [sX11_isWithin_0, sX11_isWithin_1, sX11_isWithin_2, sX11_isWithin_5, sX11_isWithin_6, sX11_isWithin_7, sX11_isWithin_10, sX11_isWithin_11, kX11_isWithin_14_III, sX11_isWithin_14, kX11_isWithin_15_III, sX11_isWithin_15, if_true, if_false, not_true_eq_false, not_false_eq_true, and_true, true_and, and_false, false_and, and_self, or_true, true_or, or_false, false_or, or_self, ne_eq, Decidable.not_not, Nat.reduceEqDiff, Nat.reduceEqDiff, c1, c2]
theorem c11_wt {x lo hi : Int32} (h : win x lo hi) : ev g d mX11_isWithin 0 [some (.int x), some (.int lo), some (.int hi)] [] s = some (.inl (some (.int (Int32.ofNat 1))), s) := by
  have := c11_within (g := g) (d := d) (s := s) (P := True) (x := x) (lo := lo) (hi := hi) (iff_true_intro h)
  rwa [bi_t trivial] at this
theorem c11_wf {x lo hi : Int32} (h : ¬ win x lo hi) : ev g d mX11_isWithin 0 [some (.int x), some (.int lo), some (.int hi)] [] s = some (.inl (some (.int (Int32.ofNat 0))), s) := by
  have := c11_within (g := g) (d := d) (s := s) (P := False) (x := x) (lo := lo) (hi := hi) (iff_false_intro h)
  rwa [bi_f id] at this
theorem c11_pt {x : Int32} (h : win x (Int32.ofNat 0) (Int32.ofNat 1)) : ev g d mX11_isPart 0 [some (.int x)] [] s = some (.inl (some (.int (Int32.ofNat 1))), s) := by
  rcases win_01.mp h with rfl | rfl
  · simp (disch := first | exact jm_lt0 | (apply jm_ltx; (repeat (first | exact jw_0 | apply jw_i | apply jw_r | apply jw_l)); omega) | omega | assumption | (refine n32_inA (by assumption) ?_ ?_ <;> omega) | exact bi01 | decide) only [sX11_isPart_0, sX11_isPart_1, sX11_isPart_4, sX11_isPart_5, sX11_isPart_6, kX11_isPart_9_I, sX11_isPart_9, sX11_isPart_10, kX11_isPart_13_I, sX11_isPart_13, sX11_isPart_14, if_true, if_false, not_true_eq_false, not_false_eq_true, and_true, true_and, and_false, false_and, and_self, or_true, true_or, or_false, false_or, or_self, ne_eq, Decidable.not_not, Nat.reduceEqDiff, Nat.reduceEqDiff]
  · simp (disch := first | exact jm_lt0 | (apply jm_ltx; (repeat (first | exact jw_0 | apply jw_i | apply jw_r | apply jw_l)); omega) | omega | assumption | (refine n32_inA (by assumption) ?_ ?_ <;> omega) | exact bi01 | decide) only [sX11_isPart_0, sX11_isPart_1, sX11_isPart_4, sX11_isPart_5, sX11_isPart_6, kX11_isPart_9_I, sX11_isPart_9, sX11_isPart_10, kX11_isPart_13_I, sX11_isPart_13, sX11_isPart_14, if_true, if_false, not_true_eq_false, not_false_eq_true, and_true, true_and, and_false, false_and, and_self, or_true, true_or, or_false, false_or, or_self, ne_eq, Decidable.not_not, Nat.reduceEqDiff, Nat.reduceEqDiff, show ¬ (Int32.ofNat 1 = 0) by decide]
theorem c11_pf {x : Int32} (h : ¬ win x (Int32.ofNat 0) (Int32.ofNat 1)) : ev g d mX11_isPart 0 [some (.int x)] [] s = some (.inl (some (.int (Int32.ofNat 0))), s) := by
  rw [win_01] at h
  have h1 : ¬ x = 0 := fun q => h (Or.inl q)
  have h2 : ¬ x = Int32.ofNat 1 := fun q => h (Or.inr q)
  simp (disch := first | exact jm_lt0 | (apply jm_ltx; (repeat (first | exact jw_0 | apply jw_i | apply jw_r | apply jw_l)); omega) | omega | assumption | (refine n32_inA (by assumption) ?_ ?_ <;> omega) | exact bi01 | decide) only [sX11_isPart_0, sX11_isPart_1, sX11_isPart_4, sX11_isPart_5, sX11_isPart_6, kX11_isPart_9_I, sX11_isPart_9, sX11_isPart_10, kX11_isPart_13_I, sX11_isPart_13, sX11_isPart_14, if_true, if_false, not_true_eq_false, not_false_eq_true, and_true, true_and, and_false, false_and, and_self, or_true, true_or, or_false, false_or, or_self, ne_eq, Decidable.not_not, Nat.reduceEqDiff, Nat.reduceEqDiff, h1, h2]
theorem c11_need1 : ev g d mX11_need 0 [some (.ref (0 : Nat)), some (.int (Int32.ofNat 1))] [] s = some (.inl none, s) := by
  simp (disch := first | exact jm_lt0 | (apply jm_ltx; (repeat (first | exact jw_0 | apply jw_i | apply jw_r | apply jw_l)); omega) | omega | assumption | exact sa_0 | exact n32_inA sb_0 (by omega) (by omega) | (refine n32_inA (by assumption) ?_ ?_ <;> omega) | exact bi01 | (rw [sa_0]; omega) | decide) only [sX11_need_0, sX11_need_1, sX11_need_4, sX11_need_5, sX11_need_6, sX11_need_9, sX11_need_10, sX11_need_11, sX11_need_14, kX11_need_25_AI, sX11_need_25, if_true, if_false, not_true_eq_false, not_false_eq_true, and_true, true_and, and_false, false_and, and_self, or_true, true_or, or_false, false_or, or_self, ne_eq, Decidable.not_not, Nat.reduceEqDiff, Nat.reduceEqDiff, sa_0, sb_0, show ¬ (Int32.ofNat 1 = 0) by decide]
theorem c11_need0 : ev g d mX11_need 0 [some (.ref (0 : Nat)), some (.int (Int32.ofNat 0))] [] s = some (.inr 1, fl s 11) := by
  simp (disch := first | exact jm_lt0 | (apply jm_ltx; (repeat (first | exact jw_0 | apply jw_i | apply jw_r | apply jw_l)); omega) | omega | assumption | exact sa_0 | exact n32_inA sb_0 (by omega) (by omega) | (refine n32_inA (by assumption) ?_ ?_ <;> omega) | exact bi01 | (rw [sa_0]; omega) | decide) only [sX11_need_0, sX11_need_1, sX11_need_4, sX11_need_5, sX11_need_6, sX11_need_9, sX11_need_10, sX11_need_11, sX11_need_14, kX11_need_25_AI, sX11_need_25, if_true, if_false, not_true_eq_false, not_false_eq_true, and_true, true_and, and_false, false_and, and_self, or_true, true_or, or_false, false_or, or_self, ne_eq, Decidable.not_not, Nat.reduceEqDiff, Nat.reduceEqDiff, sa_0, sb_0, z32]
  rfl
theorem c11_found1 : ev g d mX11_needFound 0 [some (.ref (0 : Nat)), some (.int (Int32.ofNat 1))] [] s = some (.inl none, s) := by
  simp (disch := first | exact jm_lt0 | (apply jm_ltx; (repeat (first | exact jw_0 | apply jw_i | apply jw_r | apply jw_l)); omega) | omega | assumption | exact sa_0 | exact n32_inA sb_0 (by omega) (by omega) | (refine n32_inA (by assumption) ?_ ?_ <;> omega) | exact bi01 | (rw [sa_0]; omega) | decide) only [sX11_needFound_0, sX11_needFound_1, sX11_needFound_4, sX11_needFound_5, sX11_needFound_6, sX11_needFound_9, sX11_needFound_10, sX11_needFound_11, sX11_needFound_14, kX11_needFound_25_AI, sX11_needFound_25, if_true, if_false, not_true_eq_false, not_false_eq_true, and_true, true_and, and_false, false_and, and_self, or_true, true_or, or_false, false_or, or_self, ne_eq, Decidable.not_not, Nat.reduceEqDiff, Nat.reduceEqDiff, sa_0, sb_0, show ¬ (Int32.ofNat 1 = 0) by decide]
theorem c11_found0 : ev g d mX11_needFound 0 [some (.ref (0 : Nat)), some (.int (Int32.ofNat 0))] [] s = some (.inr 0, fl s 10) := by
  simp (disch := first | exact jm_lt0 | (apply jm_ltx; (repeat (first | exact jw_0 | apply jw_i | apply jw_r | apply jw_l)); omega) | omega | assumption | exact sa_0 | exact n32_inA sb_0 (by omega) (by omega) | (refine n32_inA (by assumption) ?_ ?_ <;> omega) | exact bi01 | (rw [sa_0]; omega) | decide) only [sX11_needFound_0, sX11_needFound_1, sX11_needFound_4, sX11_needFound_5, sX11_needFound_6, sX11_needFound_9, sX11_needFound_10, sX11_needFound_11, sX11_needFound_14, kX11_needFound_25_AI, sX11_needFound_25, if_true, if_false, not_true_eq_false, not_false_eq_true, and_true, true_and, and_false, false_and, and_self, or_true, true_or, or_false, false_or, or_self, ne_eq, Decidable.not_not, Nat.reduceEqDiff, Nat.reduceEqDiff, sa_0, sb_0, z32]
  rfl
theorem c11_diary (hF : FX s) : ev g d mX11_diary 0 [some (.ref (0 : Nat))] [] s = some (.inl (some (.ref (5 : Nat))), s) := by
  have r1 := hF.u 0 1 3 (by decide +kernel)
  have r2 := hF.u 3 0 4 (by decide +kernel)
  have r3 := hF.u 4 0 5 (by decide +kernel)
  simp (disch := first | exact jm_lt0 | (apply jm_ltx; (repeat (first | exact jw_0 | apply jw_i | apply jw_r | apply jw_l)); omega) | omega | assumption | exact sa_0 | exact sa_3 | exact sa_4 | exact n32_inA sb_0 (by omega) (by omega) | exact n32_inA sb_3 (by omega) (by omega) | exact n32_inA sb_4 (by omega) (by omega) | (refine n32_inA (by assumption) ?_ ?_ <;> omega) | exact bi01 | (rw [sa_0]; omega) | (rw [sa_3]; omega) | (rw [sa_4]; omega) | decide) only [sX11_diary_0, sX11_diary_1, sX11_diary_4, sX11_diary_7, sX11_diary_10, if_true, if_false, not_true_eq_false, not_false_eq_true, and_true, true_and, and_false, false_and, and_self, or_true, true_or, or_false, false_or, or_self, ne_eq, Decidable.not_not, Nat.reduceEqDiff, Nat.reduceEqDiff, sa_0, sb_0, sa_3, sb_3, sa_4, sb_4, r1, r2, r3]
theorem c11_people (hF : FX s) (hC : CW s w) (hw : wOK w) : ev g (d + 1) mX11_people 0 [some (.ref (0 : Nat))] [] s = some (.inl (some (.int (Int32.ofNat (wT w 7)))), s) := by
  have r1 := hF.u 0 1 3 (by decide +kernel)
  have r2 := hF.u 3 0 4 (by decide +kernel)
  have k1 := w_told (g := g) (d := d) (i := 7) hF hC (by decide)
  have h7 := hw.1.2.2.2.2.2.2.2.2
  simp (disch := first | exact jm_lt0 | (apply jm_ltx; (repeat (first | exact jw_0 | apply jw_i | apply jw_r | apply jw_l)); omega) | omega | assumption | exact sa_0 | exact sa_3 | exact sa_4 | exact n32_inA sb_0 (by omega) (by omega) | exact n32_inA sb_3 (by omega) (by omega) | exact n32_inA sb_4 (by omega) (by omega) | (refine n32_inA (by assumption) ?_ ?_ <;> omega) | exact bi01 | (rw [sa_0]; omega) | (rw [sa_3]; omega) | (rw [sa_4]; omega) | decide) only [sX11_people_0, sX11_people_2, sX11_people_3, sX11_people_6, sX11_people_9, sX11_people_11, sX11_people_14, sX11_people_17, evK_n, evK_v, evK_x, gI_pI, gJ_pI, gR_pI, gI_pJ, gJ_pJ, gR_pJ, gI_pR, gJ_pR, gR_pR, if_true, if_false, not_true_eq_false, not_false_eq_true, and_true, true_and, and_false, false_and, and_self, or_true, true_or, or_false, false_or, or_self, ne_eq, Decidable.not_not, Nat.reduceEqDiff, Nat.reduceEqDiff, n32_le, n32_lt, n32_add, n32_mul, n32_cl, sa_0, sb_0, sa_3, sb_3, sa_4, sb_4, r1, r2, k1]
  by_cases c : 6 < wT w 7
  · omega
  · first | rw [if_neg c] | (have : wT w 7 < 6 ∨ wT w 7 = 6 := by omega
                             rcases this with q | q
                             · first | rw [if_pos q] | rw [if_neg (by omega)] | rw [if_pos (by omega)]
                             · rw [q]; rfl)
theorem c11_total (h : CI s w G ver) (hG : GOK w G) : ev g d mX4_total 0 [some (.ref (5 : Nat))] [] s = some (.inl (some (.int (Int32.ofNat (wn w)))), s) := by
  obtain ⟨c, hD⟩ := h.1.2.2.1.2.2.1
  exact d_total h.1.1 (by decide) hD
theorem c11_nv1 {x : Int32} (h : CI s w G ver) (hG : GOK w G) (hx : win x (Int32.ofNat 0) (Int32.ofNat (wn w) - Int32.ofNat 1)) : ev g (d + 1) mX11_needVisit 0 [some (.ref (0 : Nat)), some (.int x)] [] s = some (.inl none, s) := by
  simp (disch := first | exact jm_lt0 | (apply jm_ltx; (repeat (first | exact jw_0 | apply jw_i | apply jw_r | apply jw_l)); omega) | omega | assumption | exact sa_0 | exact sa_5 | exact n32_inA sb_0 (by omega) (by omega) | exact n32_inA sb_5 (by omega) (by omega) | (refine n32_inA (by assumption) ?_ ?_ <;> omega) | exact bi01 | (rw [sa_0]; omega) | (rw [sa_5]; omega) | decide) only [sX11_needVisit_0, sX11_needVisit_1, sX11_needVisit_2, sX11_needVisit_3, sX11_needVisit_4, sX11_needVisit_7, sX11_needVisit_10, sX11_needVisit_11, sX11_needVisit_12, sX11_needVisit_15, sX11_needVisit_18, evK_n, evK_v, evK_x, gI_pI, gJ_pI, gR_pI, gI_pJ, gJ_pJ, gR_pJ, gI_pR, gJ_pR, gR_pR, if_true, if_false, not_true_eq_false, not_false_eq_true, and_true, true_and, and_false, false_and, and_self, or_true, true_or, or_false, false_or, or_self, ne_eq, Decidable.not_not, Nat.reduceEqDiff, Nat.reduceEqDiff, sa_0, sb_0, sa_5, sb_5, c11_diary h.1.1, c11_total h hG, c11_wt hx, c11_found1]
theorem c11_nv0 {x : Int32} (h : CI s w G ver) (hG : GOK w G) (hx : ¬ win x (Int32.ofNat 0) (Int32.ofNat (wn w) - Int32.ofNat 1)) : ev g (d + 1) mX11_needVisit 0 [some (.ref (0 : Nat)), some (.int x)] [] s = some (.inr 0, fl s 10) := by
  simp (disch := first | exact jm_lt0 | (apply jm_ltx; (repeat (first | exact jw_0 | apply jw_i | apply jw_r | apply jw_l)); omega) | omega | assumption | exact sa_0 | exact sa_5 | exact n32_inA sb_0 (by omega) (by omega) | exact n32_inA sb_5 (by omega) (by omega) | (refine n32_inA (by assumption) ?_ ?_ <;> omega) | exact bi01 | (rw [sa_0]; omega) | (rw [sa_5]; omega) | decide) only [sX11_needVisit_0, sX11_needVisit_1, sX11_needVisit_2, sX11_needVisit_3, sX11_needVisit_4, sX11_needVisit_7, sX11_needVisit_10, sX11_needVisit_11, sX11_needVisit_12, sX11_needVisit_15, sX11_needVisit_18, evK_n, evK_v, evK_x, gI_pI, gJ_pI, gR_pI, gI_pJ, gJ_pJ, gR_pJ, gI_pR, gJ_pR, gR_pR, if_true, if_false, not_true_eq_false, not_false_eq_true, and_true, true_and, and_false, false_and, and_self, or_true, true_or, or_false, false_or, or_self, ne_eq, Decidable.not_not, Nat.reduceEqDiff, Nat.reduceEqDiff, sa_0, sb_0, sa_5, sb_5, c11_diary h.1.1, c11_total h hG, c11_wf hx, c11_found0]
theorem c11_np1 {x : Int32} (h : CI s w G ver) (hx : win x (Int32.ofNat 0) (Int32.ofNat (wT w 7) - Int32.ofNat 1)) : ev g (d + 2) mX11_needPerson 0 [some (.ref (0 : Nat)), some (.int x)] [] s = some (.inl none, s) := by
  simp (disch := first | exact jm_lt0 | (apply jm_ltx; (repeat (first | exact jw_0 | apply jw_i | apply jw_r | apply jw_l)); omega) | omega | assumption | exact sa_0 | exact sa_5 | exact n32_inA sb_0 (by omega) (by omega) | exact n32_inA sb_5 (by omega) (by omega) | (refine n32_inA (by assumption) ?_ ?_ <;> omega) | exact bi01 | (rw [sa_0]; omega) | (rw [sa_5]; omega) | decide) only [sX11_needPerson_0, sX11_needPerson_1, sX11_needPerson_2, sX11_needPerson_3, sX11_needPerson_4, sX11_needPerson_7, sX11_needPerson_8, sX11_needPerson_9, sX11_needPerson_12, sX11_needPerson_15, evK_n, evK_v, evK_x, gI_pI, gJ_pI, gR_pI, gI_pJ, gJ_pJ, gR_pJ, gI_pR, gJ_pR, gR_pR, if_true, if_false, not_true_eq_false, not_false_eq_true, and_true, true_and, and_false, false_and, and_self, or_true, true_or, or_false, false_or, or_self, ne_eq, Decidable.not_not, Nat.reduceEqDiff, Nat.reduceEqDiff, sa_0, sb_0, sa_5, sb_5, c11_people h.1.1 h.1.2.2.1 h.1.2.2.2.1, c11_wt hx, c11_found1]
theorem c11_np0 {x : Int32} (h : CI s w G ver) (hx : ¬ win x (Int32.ofNat 0) (Int32.ofNat (wT w 7) - Int32.ofNat 1)) : ev g (d + 2) mX11_needPerson 0 [some (.ref (0 : Nat)), some (.int x)] [] s = some (.inr 0, fl s 10) := by
  simp (disch := first | exact jm_lt0 | (apply jm_ltx; (repeat (first | exact jw_0 | apply jw_i | apply jw_r | apply jw_l)); omega) | omega | assumption | exact sa_0 | exact sa_5 | exact n32_inA sb_0 (by omega) (by omega) | exact n32_inA sb_5 (by omega) (by omega) | (refine n32_inA (by assumption) ?_ ?_ <;> omega) | exact bi01 | (rw [sa_0]; omega) | (rw [sa_5]; omega) | decide) only [sX11_needPerson_0, sX11_needPerson_1, sX11_needPerson_2, sX11_needPerson_3, sX11_needPerson_4, sX11_needPerson_7, sX11_needPerson_8, sX11_needPerson_9, sX11_needPerson_12, sX11_needPerson_15, evK_n, evK_v, evK_x, gI_pI, gJ_pI, gR_pI, gI_pJ, gJ_pJ, gR_pJ, gI_pR, gJ_pR, gR_pR, if_true, if_false, not_true_eq_false, not_false_eq_true, and_true, true_and, and_false, false_and, and_self, or_true, true_or, or_false, false_or, or_self, ne_eq, Decidable.not_not, Nat.reduceEqDiff, Nat.reduceEqDiff, sa_0, sb_0, sa_5, sb_5, c11_people h.1.1 h.1.2.2.1 h.1.2.2.2.1, c11_wf hx, c11_found0]
-- the model
theorem m_wt {x lo hi : Int32} (h : win x lo hi) : ev g d mX12_within 0 [some (.int x), some (.int lo), some (.int hi)] [] t = some (.inl (some (.int (Int32.ofNat 1))), t) := by
  rw [m_within, bi_t (show ¬ x < lo ∧ ¬ hi < x from h)]
theorem m_wf {x lo hi : Int32} (h : ¬ win x lo hi) : ev g d mX12_within 0 [some (.int x), some (.int lo), some (.int hi)] [] t = some (.inl (some (.int (Int32.ofNat 0))), t) := by
  rw [m_within, bi_f (show ¬ (¬ x < lo ∧ ¬ hi < x) from h)]
theorem m_may1 {code kind : Int32} (h0 : gI t 432 0 = 0) : ev g d mX12_may 0 [some (.ref (432 : Nat)), some (.int (Int32.ofNat 1)), some (.int code), some (.int kind)] [] t = some (.inl (some (.int (Int32.ofNat 1))), t) := by
  simp (disch := first | exact jm_lt0 | (apply jm_ltx; (repeat (first | exact jw_0 | apply jw_i | apply jw_r | apply jw_l)); omega) | omega | assumption | exact sa_432 | exact n32_inA sb_432 (by omega) (by omega) | (refine n32_inA (by assumption) ?_ ?_ <;> omega) | exact bi01 | (rw [sa_432]; omega) | decide) only [sX12_may_0, sX12_may_1, sX12_may_4, sX12_may_5, sX12_may_8, sX12_may_11, sX12_may_12, sX12_may_13, sX12_may_16, sX12_may_17, sX12_may_20, sX12_may_21, sX12_may_22, sX12_may_23, sX12_may_24, sX12_may_25, kX12_may_26_AIII, sX12_may_26, sX12_may_27, sX12_may_30, sX12_may_33, sX12_may_34, kX12_may_37_ANNN, sX12_may_37, kX12_may_38_ANNN, sX12_may_38, if_true, if_false, not_true_eq_false, not_false_eq_true, and_true, true_and, and_false, false_and, and_self, or_true, true_or, or_false, false_or, or_self, ne_eq, Decidable.not_not, Nat.reduceEqDiff, Nat.reduceEqDiff, sa_432, sb_432, h0, show ¬ (Int32.ofNat 1 = 0) by decide]
theorem m_may0 {code : Int32} {kind : Nat} (hF : FX t) (hk : kind < 2) (hc : ¬ code = 0) (h0 : gI t 432 0 = 0) : ev g d mX12_may 0 [some (.ref (432 : Nat)), some (.int (Int32.ofNat 0)), some (.int code), some (.int (Int32.ofNat kind))] [] t = some (.inl (some (.int (Int32.ofNat 0))), rfs t code kind) := by
  have := m_may (g := g) (d := d) (P := False) hF hk hc h0
  rw [bi_f id, if_neg id] at this
  exact this
theorem m_nv1 {x code : Int32} (hM : MW t w) (h0 : gI t 432 0 = 0) (hx : win x (Int32.ofNat 0) (Int32.ofNat (wn w) - Int32.ofNat 1)) : ev g (d + 1) mX12_isVisit 0 [some (.ref (432 : Nat)), some (.int x), some (.int code)] [] t = some (.inl (some (.int (Int32.ofNat 1))), t) := by
  have h19 := hM.2.2.2.1.1
  simp (disch := first | exact jm_lt0 | (apply jm_ltx; (repeat (first | exact jw_0 | apply jw_i | apply jw_r | apply jw_l)); omega) | omega | assumption | exact sa_432 | exact n32_inA sb_432 (by omega) (by omega) | (refine n32_inA (by assumption) ?_ ?_ <;> omega) | exact bi01 | (rw [sa_432]; omega) | decide) only [sX12_isVisit_0, sX12_isVisit_1, sX12_isVisit_2, sX12_isVisit_3, sX12_isVisit_4, sX12_isVisit_7, sX12_isVisit_8, sX12_isVisit_9, sX12_isVisit_12, sX12_isVisit_13, sX12_isVisit_14, sX12_isVisit_17, evK_n, evK_v, evK_x, gI_pI, gJ_pI, gR_pI, gI_pJ, gJ_pJ, gR_pJ, gI_pR, gJ_pR, gR_pR, if_true, if_false, not_true_eq_false, not_false_eq_true, and_true, true_and, and_false, false_and, and_self, or_true, true_or, or_false, false_or, or_self, ne_eq, Decidable.not_not, Nat.reduceEqDiff, Nat.reduceEqDiff, sa_432, sb_432, h19, m_wt hx, m_may1 h0]
theorem m_nv0 {x code : Int32} (hF : FX t) (hM : MW t w) (hc : ¬ code = 0) (h0 : gI t 432 0 = 0) (hx : ¬ win x (Int32.ofNat 0) (Int32.ofNat (wn w) - Int32.ofNat 1)) : ev g (d + 1) mX12_isVisit 0 [some (.ref (432 : Nat)), some (.int x), some (.int code)] [] t = some (.inl (some (.int (Int32.ofNat 0))), rfs t code 0) := by
  have h19 := hM.2.2.2.1.1
  simp (disch := first | exact jm_lt0 | (apply jm_ltx; (repeat (first | exact jw_0 | apply jw_i | apply jw_r | apply jw_l)); omega) | omega | assumption | exact sa_432 | exact n32_inA sb_432 (by omega) (by omega) | (refine n32_inA (by assumption) ?_ ?_ <;> omega) | exact bi01 | (rw [sa_432]; omega) | decide) only [sX12_isVisit_0, sX12_isVisit_1, sX12_isVisit_2, sX12_isVisit_3, sX12_isVisit_4, sX12_isVisit_7, sX12_isVisit_8, sX12_isVisit_9, sX12_isVisit_12, sX12_isVisit_13, sX12_isVisit_14, sX12_isVisit_17, evK_n, evK_v, evK_x, gI_pI, gJ_pI, gR_pI, gI_pJ, gJ_pJ, gR_pJ, gI_pR, gJ_pR, gR_pR, if_true, if_false, not_true_eq_false, not_false_eq_true, and_true, true_and, and_false, false_and, and_self, or_true, true_or, or_false, false_or, or_self, ne_eq, Decidable.not_not, Nat.reduceEqDiff, Nat.reduceEqDiff, sa_432, sb_432, h19, m_wf hx, m_may0 hF (show 0 < 2 by decide) hc h0]
theorem m_np1 {x code : Int32} (hM : MW t w) (h0 : gI t 432 0 = 0) (hx : win x (Int32.ofNat 0) (Int32.ofNat (wT w 7) - Int32.ofNat 1)) : ev g (d + 1) mX12_isPerson 0 [some (.ref (432 : Nat)), some (.int x), some (.int code)] [] t = some (.inl (some (.int (Int32.ofNat 1))), t) := by
  have h18 := hM.2.2.1
  simp (disch := first | exact jm_lt0 | (apply jm_ltx; (repeat (first | exact jw_0 | apply jw_i | apply jw_r | apply jw_l)); omega) | omega | assumption | exact sa_432 | exact n32_inA sb_432 (by omega) (by omega) | (refine n32_inA (by assumption) ?_ ?_ <;> omega) | exact bi01 | (rw [sa_432]; omega) | decide) only [sX12_isPerson_0, sX12_isPerson_1, sX12_isPerson_2, sX12_isPerson_3, sX12_isPerson_4, sX12_isPerson_7, sX12_isPerson_8, sX12_isPerson_9, sX12_isPerson_12, sX12_isPerson_13, sX12_isPerson_14, sX12_isPerson_17, evK_n, evK_v, evK_x, gI_pI, gJ_pI, gR_pI, gI_pJ, gJ_pJ, gR_pJ, gI_pR, gJ_pR, gR_pR, if_true, if_false, not_true_eq_false, not_false_eq_true, and_true, true_and, and_false, false_and, and_self, or_true, true_or, or_false, false_or, or_self, ne_eq, Decidable.not_not, Nat.reduceEqDiff, Nat.reduceEqDiff, sa_432, sb_432, h18, m_wt hx, m_may1 h0]
theorem m_np0 {x code : Int32} (hF : FX t) (hM : MW t w) (hc : ¬ code = 0) (h0 : gI t 432 0 = 0) (hx : ¬ win x (Int32.ofNat 0) (Int32.ofNat (wT w 7) - Int32.ofNat 1)) : ev g (d + 1) mX12_isPerson 0 [some (.ref (432 : Nat)), some (.int x), some (.int code)] [] t = some (.inl (some (.int (Int32.ofNat 0))), rfs t code 0) := by
  have h18 := hM.2.2.1
  simp (disch := first | exact jm_lt0 | (apply jm_ltx; (repeat (first | exact jw_0 | apply jw_i | apply jw_r | apply jw_l)); omega) | omega | assumption | exact sa_432 | exact n32_inA sb_432 (by omega) (by omega) | (refine n32_inA (by assumption) ?_ ?_ <;> omega) | exact bi01 | (rw [sa_432]; omega) | decide) only [sX12_isPerson_0, sX12_isPerson_1, sX12_isPerson_2, sX12_isPerson_3, sX12_isPerson_4, sX12_isPerson_7, sX12_isPerson_8, sX12_isPerson_9, sX12_isPerson_12, sX12_isPerson_13, sX12_isPerson_14, sX12_isPerson_17, evK_n, evK_v, evK_x, gI_pI, gJ_pI, gR_pI, gI_pJ, gJ_pJ, gR_pJ, gI_pR, gJ_pR, gR_pR, if_true, if_false, not_true_eq_false, not_false_eq_true, and_true, true_and, and_false, false_and, and_self, or_true, true_or, or_false, false_or, or_self, ne_eq, Decidable.not_not, Nat.reduceEqDiff, Nat.reduceEqDiff, sa_432, sb_432, h18, m_wf hx, m_may0 hF (show 0 < 2 by decide) hc h0]
theorem m_pt1 {x : Int32} (h0 : gI t 432 0 = 0) (hx : win x (Int32.ofNat 0) (Int32.ofNat 1)) : ev g (d + 1) mX12_isPart 0 [some (.ref (432 : Nat)), some (.int x)] [] t = some (.inl (some (.int (Int32.ofNat 1))), t) := by
  simp (disch := first | exact jm_lt0 | (apply jm_ltx; (repeat (first | exact jw_0 | apply jw_i | apply jw_r | apply jw_l)); omega) | omega | assumption | exact sa_432 | exact n32_inA sb_432 (by omega) (by omega) | (refine n32_inA (by assumption) ?_ ?_ <;> omega) | exact bi01 | (rw [sa_432]; omega) | decide) only [sX12_isPart_0, sX12_isPart_1, sX12_isPart_2, sX12_isPart_3, sX12_isPart_4, sX12_isPart_7, sX12_isPart_8, sX12_isPart_9, sX12_isPart_12, evK_n, evK_v, evK_x, gI_pI, gJ_pI, gR_pI, gI_pJ, gJ_pJ, gR_pJ, gI_pR, gJ_pR, gR_pR, if_true, if_false, not_true_eq_false, not_false_eq_true, and_true, true_and, and_false, false_and, and_self, or_true, true_or, or_false, false_or, or_self, ne_eq, Decidable.not_not, Nat.reduceEqDiff, Nat.reduceEqDiff, sa_432, sb_432, m_wt hx, m_may1 h0]
theorem m_pt0 {x : Int32} (hF : FX t) (h0 : gI t 432 0 = 0) (hx : ¬ win x (Int32.ofNat 0) (Int32.ofNat 1)) : ev g (d + 1) mX12_isPart 0 [some (.ref (432 : Nat)), some (.int x)] [] t = some (.inl (some (.int (Int32.ofNat 0))), rfs t (Int32.ofNat 1) 1) := by
  simp (disch := first | exact jm_lt0 | (apply jm_ltx; (repeat (first | exact jw_0 | apply jw_i | apply jw_r | apply jw_l)); omega) | omega | assumption | exact sa_432 | exact n32_inA sb_432 (by omega) (by omega) | (refine n32_inA (by assumption) ?_ ?_ <;> omega) | exact bi01 | (rw [sa_432]; omega) | decide) only [sX12_isPart_0, sX12_isPart_1, sX12_isPart_2, sX12_isPart_3, sX12_isPart_4, sX12_isPart_7, sX12_isPart_8, sX12_isPart_9, sX12_isPart_12, evK_n, evK_v, evK_x, gI_pI, gJ_pI, gR_pI, gI_pJ, gJ_pJ, gR_pJ, gI_pR, gJ_pR, gR_pR, if_true, if_false, not_true_eq_false, not_false_eq_true, and_true, true_and, and_false, false_and, and_self, or_true, true_or, or_false, false_or, or_self, ne_eq, Decidable.not_not, Nat.reduceEqDiff, Nat.reduceEqDiff, sa_432, sb_432, m_wf hx, m_may0 hF (show 1 < 2 by decide) (show ¬ Int32.ofNat 1 = 0 by decide) h0]
/-- behind a refusal -/
def Gnf (G : GS) : GS := (yB G, yL G, yF G, yNf G + Int32.ofNat 1, yNa G, yD G, yik G, yIm G)
def Gna (G : GS) : GS := (yB G, yL G, yF G, yNf G, yNa G + Int32.ofNat 1, yD G, yik G, yIm G)
theorem CI.nf (h : CI s w G ver) (hG : GOK w G) : CI (fl s 10) w (Gnf G) ver := by
  obtain ⟨h1, h2⟩ := h
  refine ⟨h1.of (fun q hq => h1.1 q hq) (fun b j k1 k2 _ => by rw [fl_gI, if_neg (by omega)]) (fun b j hb => ⟨by rw [fl_gI, if_neg (by omega)], fl_gJ⟩) (fun j _ => fl_gR), ?_⟩
  have := h2.2.2.2.2.2.2.1
  have h3 : CG s G := h2
  obtain ⟨a1, a2, a3, a4, a5, a6, a7, a8⟩ := h2
  obtain ⟨g1, g2, g3, g4, g5, g6⟩ := hG
  exact ⟨by rw [fl_gI, if_neg (by omega)]; exact a1, fun i hi => by rw [fl_gI, if_neg (by omega)]; exact a2 i hi, a3.of g3 (fun b j q1 q2 => by rw [fl_gI, if_neg (by omega)]), by rw [fl_gI, if_neg (by omega)]; exact a4, fun i hi => (a5 i hi).of (g5 i hi) (fun b j q1 q2 => by rw [fl_gI, if_neg (by omega)]), by rw [fl_gI, if_neg (by omega)]; exact a6, by rw [fl_gI, if_pos ⟨rfl, rfl⟩, a7]; rfl, by rw [fl_gI, if_neg (by omega)]; exact a8⟩
theorem CI.na (h : CI s w G ver) (hG : GOK w G) : CI (fl s 11) w (Gna G) ver := by
  obtain ⟨h1, h2⟩ := h
  refine ⟨h1.of (fun q hq => h1.1 q hq) (fun b j k1 k2 _ => by rw [fl_gI, if_neg (by omega)]) (fun b j hb => ⟨by rw [fl_gI, if_neg (by omega)], fl_gJ⟩) (fun j _ => fl_gR), ?_⟩
  obtain ⟨a1, a2, a3, a4, a5, a6, a7, a8⟩ := h2
  obtain ⟨g1, g2, g3, g4, g5, g6⟩ := hG
  exact ⟨by rw [fl_gI, if_neg (by omega)]; exact a1, fun i hi => by rw [fl_gI, if_neg (by omega)]; exact a2 i hi, a3.of g3 (fun b j q1 q2 => by rw [fl_gI, if_neg (by omega)]), by rw [fl_gI, if_neg (by omega)]; exact a4, fun i hi => (a5 i hi).of (g5 i hi) (fun b j q1 q2 => by rw [fl_gI, if_neg (by omega)]), by rw [fl_gI, if_neg (by omega)]; exact a6, by rw [fl_gI, if_neg (by omega)]; exact a7, by rw [fl_gI, if_pos ⟨rfl, rfl⟩, a8]; rfl⟩
theorem fl_clk {j : Nat} : CLK s (fl s j) := ⟨fun b k h1 h2 => ⟨by rw [fl_gI, if_neg (by omega)], fl_gJ⟩, fun b k _ => fl_gR, Or.inr rfl⟩
theorem MG.nf {code : Int32} (h : MG t G) : MG (rfs t code 0) (Gnf G) := by
  obtain ⟨a1, a2, a3, a4, a5, a6, a7, a8⟩ := h
  have e : ∀ b j, ¬ (b = 432 ∧ j = 0) → ¬ (b = 433 ∧ j = 0) → gI (rfs t code 0) b j = gI t b j := fun b j h1 h2 => by
    unfold rfs
    rw [gI_pI, if_neg h2, gI_pI, if_neg h1]
  refine ⟨by rw [e _ _ (by omega) (by omega)]; exact a1, fun i hi => by rw [e _ _ (by omega) (by omega)]; exact a2 i hi, a3.of (e _ _ (by omega) (by omega)) (fun j => e _ _ (by omega) (by omega)), by rw [e _ _ (by omega) (by omega)]; exact a4, fun i hi => (a5 i hi).of (fun j => e _ _ (by omega) (by omega)), by rw [e _ _ (by omega) (by omega)]; exact a6, ?_, by rw [e _ _ (by omega) (by omega)]; exact a8⟩
  unfold rfs
  rw [gI_pI, if_pos ⟨rfl, rfl⟩, a7]
  rfl
theorem MG.na {code : Int32} (h : MG t G) : MG (rfs t code 1) (Gna G) := by
  obtain ⟨a1, a2, a3, a4, a5, a6, a7, a8⟩ := h
  have e : ∀ b j, ¬ (b = 432 ∧ j = 0) → ¬ (b = 433 ∧ j = 1) → gI (rfs t code 1) b j = gI t b j := fun b j h1 h2 => by
    unfold rfs
    rw [gI_pI, if_neg h2, gI_pI, if_neg h1]
  refine ⟨by rw [e _ _ (by omega) (by omega)]; exact a1, fun i hi => by rw [e _ _ (by omega) (by omega)]; exact a2 i hi, a3.of (e _ _ (by omega) (by omega)) (fun j => e _ _ (by omega) (by omega)), by rw [e _ _ (by omega) (by omega)]; exact a4, fun i hi => (a5 i hi).of (fun j => e _ _ (by omega) (by omega)), by rw [e _ _ (by omega) (by omega)]; exact a6, by rw [e _ _ (by omega) (by omega)]; exact a7, ?_⟩
  unfold rfs
  rw [gI_pI, if_pos ⟨rfl, rfl⟩, a8]
  rfl
theorem MI.rf {code : Int32} {k : Nat} {G' : GS} (h : MI t w G) (hk : k < 2) (hG : MG (rfs t code k) G') : MI (rfs t code k) w G' := by
  obtain ⟨h1, h2, h3, h4⟩ := h
  refine ⟨h1.of rfl, h2.of (fun b j hb => ?_) (fun b j hb => rfl), h3.x (fun b j hb => ?_), hG⟩
  · unfold rfs
    rw [gI_pI, if_neg (by omega), gI_pI, if_neg (by omega)]
  · unfold rfs
    rw [gI_pI, if_neg (fun q => hb (Or.inr q.1)), gI_pI, if_neg (fun q => hb (Or.inl (Or.inr q)))]
theorem rfs_mlk {code : Int32} {k : Nat} : MLK t (rfs t code k) := ⟨fun b j h => ⟨by unfold rfs; rw [gI_pI, if_neg (by omega), gI_pI, if_neg (by omega)], rfl⟩, fun b j => rfl, rfl⟩
theorem rfs_0 {code : Int32} {k : Nat} : gI (rfs t code k) 432 0 = code := by
  unfold rfs
  rw [gI_pI, if_neg (by omega), gI_pI, if_pos ⟨rfl, rfl⟩]
end ND
