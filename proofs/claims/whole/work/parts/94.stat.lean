/-! the class: sums by states -/
section SW
variable {s0 : fm_S} {A A' : Nat} {l : List Nat} {D : Nat → Nat}
/-- rows of longs that sums are written to -/
theorem c7_zero2 {g : fm_g} {d r n : Nat} (q1 : (shp r).1 = 62) (q2 : (shp r).2 = n) (hn : n < 1000) : ∀ (m i : Nat) (s : fm_S), i + m = n → FM pH (QR r) s0 s → (∀ j, j < i → gJ s r j = Int64.ofNat 0) → ∃ s', ev g d mX7_sumStates 2 [some (.ref (307 : Nat)), some (.ref r), some (.int (Int32.ofNat i)), none, none, none] [] s = ev g d mX7_sumStates 18 [some (.ref (307 : Nat)), some (.ref r), none, none, none, none] [] s' ∧ FM pH (QR r) s0 s' ∧ ∀ j, j < n → gJ s' r j = Int64.ofNat 0 := by
  intro m
  induction m with
  | zero =>
    intro i s hi hM hz
    refine ⟨s, ?_, hM, fun j hj => hz j (by omega)⟩
    rw [sX7_sumStates_2]
    simp (disch := first | exact jm_lt0 | (apply jm_ltx; (repeat (first | exact jw_0 | apply jw_i | apply jw_r | apply jw_l)); omega) | omega | assumption | (refine n32_inA (by assumption) ?_ ?_ <;> omega) | exact bi01 | decide) only [sX7_sumStates_0, sX7_sumStates_1, sX7_sumStates_3, sX7_sumStates_4, sX7_sumStates_5, sX7_sumStates_8, sX7_sumStates_9, sX7_sumStates_10, sX7_sumStates_11, sX7_sumStates_12, sX7_sumStates_15, kX7_sumStates_18_AAINNN, sX7_sumStates_19, sX7_sumStates_21, sX7_sumStates_22, sX7_sumStates_25, sX7_sumStates_28, sX7_sumStates_31, sX7_sumStates_32, sX7_sumStates_33, sX7_sumStates_36, sX7_sumStates_37, sX7_sumStates_38, sX7_sumStates_41, sX7_sumStates_44, sX7_sumStates_45, sX7_sumStates_48, sX7_sumStates_51, sX7_sumStates_54, sX7_sumStates_55, sX7_sumStates_56, sX7_sumStates_57, sX7_sumStates_60, sX7_sumStates_63, sX7_sumStates_64, sX7_sumStates_66, sX7_sumStates_68, sX7_sumStates_71, sX7_sumStates_73, sX7_sumStates_74, sX7_sumStates_75, sX7_sumStates_78, sX7_sumStates_79, sX7_sumStates_81, sX7_sumStates_82, sX7_sumStates_83, sX7_sumStates_84, sX7_sumStates_85, kX7_sumStates_86_AAIJNI, sX7_sumStates_86, sX7_sumStates_89, kX7_sumStates_92_AAINNN, sX7_sumStates_92, sX7_sumStates_93, sX7_sumStates_96, sX7_sumStates_99, n32_le, n32_lt, n32_add, n32_mul, n32_cl, q2]
    rw [if_pos (by omega)]
  | succ m ih =>
    intro i s hi hM hz
    obtain ⟨s', f1, f2, f3⟩ := ih (i + 1) (pJ s r i (Int64.ofNat 0)) (by omega) (hM.tr (FM.pJ rfl)) (fun j hj => by
      rw [gJ_pJ]
      by_cases c : j = i
      · rw [if_pos ⟨rfl, c⟩]
      · rw [if_neg (by rintro ⟨-, h⟩; exact c h)]; exact hz j (by omega))
    refine ⟨s', ?_, f2, f3⟩
    have g1 : ¬ n ≤ i := by omega
    rw [sX7_sumStates_2]
    simp (disch := first | exact jm_lt0 | (apply jm_ltx; (repeat (first | exact jw_0 | apply jw_i | apply jw_r | apply jw_l)); omega) | omega | assumption | (refine n32_inA (by assumption) ?_ ?_ <;> omega) | exact bi01 | decide) only [sX7_sumStates_0, sX7_sumStates_1, sX7_sumStates_3, sX7_sumStates_4, sX7_sumStates_5, sX7_sumStates_8, sX7_sumStates_9, sX7_sumStates_10, sX7_sumStates_11, sX7_sumStates_12, sX7_sumStates_15, kX7_sumStates_18_AAINNN, sX7_sumStates_19, sX7_sumStates_21, sX7_sumStates_22, sX7_sumStates_25, sX7_sumStates_28, sX7_sumStates_31, sX7_sumStates_32, sX7_sumStates_33, sX7_sumStates_36, sX7_sumStates_37, sX7_sumStates_38, sX7_sumStates_41, sX7_sumStates_44, sX7_sumStates_45, sX7_sumStates_48, sX7_sumStates_51, sX7_sumStates_54, sX7_sumStates_55, sX7_sumStates_56, sX7_sumStates_57, sX7_sumStates_60, sX7_sumStates_63, sX7_sumStates_64, sX7_sumStates_66, sX7_sumStates_68, sX7_sumStates_71, sX7_sumStates_73, sX7_sumStates_74, sX7_sumStates_75, sX7_sumStates_78, sX7_sumStates_79, sX7_sumStates_81, sX7_sumStates_82, sX7_sumStates_83, sX7_sumStates_84, sX7_sumStates_85, kX7_sumStates_86_AAIJNI, sX7_sumStates_86, sX7_sumStates_89, kX7_sumStates_92_AAINNN, sX7_sumStates_92, sX7_sumStates_93, sX7_sumStates_96, sX7_sumStates_99, evK_n, evK_v, evK_x, gI_pI, gJ_pI, gR_pI, gI_pJ, gJ_pJ, gR_pJ, gI_pR, gJ_pR, gR_pR, n32_le, n32_lt, n32_add, n32_mul, n32_cl, if_true, if_false, not_true_eq_false, not_false_eq_true, and_true, true_and, and_false, false_and, and_self, or_true, true_or, or_false, false_or, or_self, ne_eq, Decidable.not_not, Nat.reduceEqDiff, Nat.reduceEqDiff, q2, g1]
    exact f1
theorem cnt_len (hW : WB s0 A A' l D) : l.length = cntS D := by
  have h1 : sumL (fun k => if D k ≠ 0 then 1 else 0) l = l.length := by
    have hm : ∀ k ∈ l, D k ≠ 0 := fun k hk => (hW.2.2.2.1.2.2.2.2 k (hW.2.2.2.1.2.2.1 k hk)).2.2.mp hk
    have key : ∀ m : List Nat, (∀ k ∈ m, D k ≠ 0) → sumL (fun k => if D k ≠ 0 then 1 else 0) m = m.length := fun m => by
      induction m with
      | nil => intro _; rfl
      | cons a m ih =>
        intro h
        rw [sumL, if_pos (h a List.mem_cons_self), ih (fun k hk => h k (List.mem_cons_of_mem _ hk)), List.length_cons, Nat.add_comm]
    exact key l hm
  rw [← h1]
  exact sum_all hW (fun k hk => by simp [hk])
theorem pno_c {k : Nat} (hk : k < NS) : pno (kc k) (kd k) * 2 + kcard k < 182 := by
  have h1 := (pno_ok (k_cd k)).1
  have h2 := (k_lt hk).1
  omega
theorem c7_stLoop2 {g : fm_g} {d r : Nat} (hW : WB s0 A A' l D) (q1 : (shp r).1 = 62) (q2 : (shp r).2 = 182) (hr : r ≠ 318 ∧ r ≠ 321) : ∀ (m i : Nat) (s : fm_S), i + m = l.length → FM pH (QR r) s0 s → (∀ x, x < 182 → gJ s r x = Int64.ofNat (sumL (fun k => if pno (kc k) (kd k) * 2 + kcard k = x then D k else 0) (l.take i))) → ∃ s', ev g (d + 3) mX7_sumStates 20 [some (.ref (307 : Nat)), some (.ref r), some (.int (Int32.ofNat i)), none, none, none] [] s = some (.inl (some (.int (Int32.ofNat (cntS D)))), s') ∧ FM pH (QR r) s0 s' ∧ ∀ x, x < 182 → gJ s' r x = Int64.ofNat (behS D x) := by
  obtain ⟨-, hO0, -, hC0, -, -⟩ := id hW
  have sA : (shp A).1 = 1 := (clS hO0.2.2.1).1
  have hlen := hC0.len
  intro m
  induction m with
  | zero =>
    intro i s hi hM hx
    obtain ⟨hF, hO, hB, hC, hC'⟩ := hW.keep hM hr
    have hil : i = l.length := by omega
    subst hil
    refine ⟨s, ?_, hM, fun x h6 => ?_⟩
    · rw [sX7_sumStates_20]
      simp (disch := first | exact jm_lt0 | (apply jm_ltx; (repeat (first | exact jw_0 | apply jw_i | apply jw_r | apply jw_l)); omega) | omega | assumption | exact sa_307 | exact n32_inA sb_307 (by omega) (by omega) | (refine n32_inA (by assumption) ?_ ?_ <;> omega) | exact bi01 | (rw [sa_307]; omega) | decide) only [sX7_sumStates_0, sX7_sumStates_1, sX7_sumStates_3, sX7_sumStates_4, sX7_sumStates_5, sX7_sumStates_8, sX7_sumStates_9, sX7_sumStates_10, sX7_sumStates_11, sX7_sumStates_12, sX7_sumStates_15, kX7_sumStates_18_AAINNN, sX7_sumStates_18, sX7_sumStates_19, sX7_sumStates_21, sX7_sumStates_22, sX7_sumStates_25, sX7_sumStates_28, sX7_sumStates_31, sX7_sumStates_32, sX7_sumStates_33, sX7_sumStates_36, sX7_sumStates_37, sX7_sumStates_38, sX7_sumStates_41, sX7_sumStates_44, sX7_sumStates_45, sX7_sumStates_48, sX7_sumStates_51, sX7_sumStates_54, sX7_sumStates_55, sX7_sumStates_56, sX7_sumStates_57, sX7_sumStates_60, sX7_sumStates_63, sX7_sumStates_64, sX7_sumStates_66, sX7_sumStates_68, sX7_sumStates_71, sX7_sumStates_73, sX7_sumStates_74, sX7_sumStates_75, sX7_sumStates_78, sX7_sumStates_79, sX7_sumStates_81, sX7_sumStates_82, sX7_sumStates_83, sX7_sumStates_84, sX7_sumStates_85, kX7_sumStates_86_AAIJNI, sX7_sumStates_86, sX7_sumStates_89, kX7_sumStates_92_AAINNN, sX7_sumStates_92, sX7_sumStates_93, sX7_sumStates_96, sX7_sumStates_99, evK_n, evK_v, evK_x, gI_pI, gJ_pI, gR_pI, gI_pJ, gJ_pJ, gR_pJ, gI_pR, gJ_pR, gR_pR, n32_le, n32_lt, n32_add, n32_mul, n32_cl, if_true, if_false, not_true_eq_false, not_false_eq_true, and_true, true_and, and_false, false_and, and_self, or_true, true_or, or_false, false_or, or_self, ne_eq, Decidable.not_not, Nat.reduceEqDiff, Nat.reduceEqDiff, sa_307, sb_307, hO.1, hC.1]
      rw [if_pos (by omega), ← cnt_len hW]
    · rw [hx x h6, List.take_length, sum_all hW (fun k hk => by rw [hk]; simp)]
      rfl
  | succ m ih =>
    intro i s hi hM hx
    obtain ⟨hF, hO, hB, hC, hC'⟩ := hW.keep hM hr
    have hil : i < l.length := by omega
    have hik : l[i]? = some l[i] := List.getElem?_eq_getElem hil
    obtain ⟨hk, hDk⟩ := hW.it hik
    obtain ⟨s1, e1, hM1, hN1⟩ := c7_load (g := g) (d := d) hF hO hB hC hik
    have hM1' : FM pH (QR r) s0 s1 := hM.tr (hM1.mono (fun _ _ h => h) (fun _ _ h => h.elim))
    have r2 := (hM1'.fx hW.1).u 307 2 310 (by decide +kernel)
    obtain ⟨h1, h2, h3, -⟩ := id hN1
    have e2 := c1_pairOf (g := g) (d := d + 2) (s := s1) (k_cd l[i])
    have hp := pno_c hk
    have xj : gJ s1 r (pno (kc l[i]) (kd l[i]) * 2 + kcard l[i]) = Int64.ofNat (sumL (fun k => if pno (kc k) (kd k) * 2 + kcard k = pno (kc l[i]) (kd l[i]) * 2 + kcard l[i] then D k else 0) (l.take i)) := by rw [hM1.2.2 _ _ (fun h => h), hx _ hp]
    obtain ⟨s', f1, f2, f3⟩ := ih (i + 1) (pJ s1 r (pno (kc l[i]) (kd l[i]) * 2 + kcard l[i]) (Int64.ofNat (sumL (fun k => if pno (kc k) (kd k) * 2 + kcard k = pno (kc l[i]) (kd l[i]) * 2 + kcard l[i] then D k else 0) (l.take i) + D l[i]))) (by omega) (hM1'.tr (FM.pJ rfl)) (fun x h6 => by
      rw [gJ_pJ, sumL_tk hik]
      by_cases c : x = pno (kc l[i]) (kd l[i]) * 2 + kcard l[i]
      · rw [if_pos ⟨rfl, c⟩, c, if_pos rfl]
      · rw [if_neg (by rintro ⟨-, h⟩; exact c h), if_neg (fun h => c h.symm), Nat.add_zero, hM1.2.2 _ _ (fun h => h), hx x h6])
    refine ⟨s', ?_, f2, f3⟩
    rw [← n64_add] at f1
    have g1 : ¬ l.length ≤ i := by omega
    have g2 : ¬ 182 ≤ pno (kc l[i]) (kd l[i]) * 2 + kcard l[i] := by omega
    rw [sX7_sumStates_20]
    simp (disch := first | exact jm_lt0 | (apply jm_ltx; (repeat (first | exact jw_0 | apply jw_i | apply jw_r | apply jw_l)); omega) | omega | assumption | exact sa_307 | exact sa_310 | exact n32_inA sb_307 (by omega) (by omega) | exact n32_inA sb_310 (by omega) (by omega) | (refine n32_inA (by assumption) ?_ ?_ <;> omega) | exact bi01 | (rw [sa_307]; omega) | (rw [sa_310]; omega) | decide) only [sX7_sumStates_0, sX7_sumStates_1, sX7_sumStates_3, sX7_sumStates_4, sX7_sumStates_5, sX7_sumStates_8, sX7_sumStates_9, sX7_sumStates_10, sX7_sumStates_11, sX7_sumStates_12, sX7_sumStates_15, kX7_sumStates_18_AAINNN, sX7_sumStates_18, sX7_sumStates_19, sX7_sumStates_21, sX7_sumStates_22, sX7_sumStates_25, sX7_sumStates_28, sX7_sumStates_31, sX7_sumStates_32, sX7_sumStates_33, sX7_sumStates_36, sX7_sumStates_37, sX7_sumStates_38, sX7_sumStates_41, sX7_sumStates_44, sX7_sumStates_45, sX7_sumStates_48, sX7_sumStates_51, sX7_sumStates_54, sX7_sumStates_55, sX7_sumStates_56, sX7_sumStates_57, sX7_sumStates_60, sX7_sumStates_63, sX7_sumStates_64, sX7_sumStates_66, sX7_sumStates_68, sX7_sumStates_71, sX7_sumStates_73, sX7_sumStates_74, sX7_sumStates_75, sX7_sumStates_78, sX7_sumStates_79, sX7_sumStates_81, sX7_sumStates_82, sX7_sumStates_83, sX7_sumStates_84, sX7_sumStates_85, kX7_sumStates_86_AAIJNI, sX7_sumStates_86, sX7_sumStates_89, kX7_sumStates_92_AAINNN, sX7_sumStates_92, sX7_sumStates_93, sX7_sumStates_96, sX7_sumStates_99, evK_n, evK_v, evK_x, gI_pI, gJ_pI, gR_pI, gI_pJ, gJ_pJ, gR_pJ, gI_pR, gJ_pR, gR_pR, n32_le, n32_lt, n32_add, n32_mul, n32_cl, if_true, if_false, not_true_eq_false, not_false_eq_true, and_true, true_and, and_false, false_and, and_self, or_true, true_or, or_false, false_or, or_self, ne_eq, Decidable.not_not, Nat.reduceEqDiff, Nat.reduceEqDiff, sa_307, sb_307, sa_310, sb_310, hO.1, hC.1, g1, e1, r2, h1, h2, h3, e2, n32_lt0, q2, g2, xj]
    exact f1
theorem c7_sumStates {g : fm_g} {d r : Nat} {s : fm_S} (hF : FX s) (hB : TB s) (hO : OS s D) (hD : sumN D NS ≤ ONE) (q1 : (shp r).1 = 62) (q2 : (shp r).2 = 182) (hr : r ≠ 318 ∧ r ≠ 321) : ∃ s', ev g (d + 3) mX7_sumStates 0 [some (.ref (307 : Nat)), some (.ref r), none, none, none, none] [] s = some (.inl (some (.int (Int32.ofNat (cntS D)))), s') ∧ FM pH (QR r) s s' ∧ ∀ x, x < 182 → gJ s' r x = Int64.ofNat (behS D x) := by
  obtain ⟨A, A', l, o1, o2, o3⟩ := hO
  have hW : WB s A A' l D := ⟨hF, o1, hB, o2, o3, hD⟩
  obtain ⟨s1, e1, hM1, hz⟩ := c7_zero2 (g := g) (d := d + 3) q1 q2 (by omega) 182 0 s (by omega) FM.rf (fun j hj => by omega)
  have hk := hW.keep hM1 hr
  have hW1 : WB s1 A A' l D := ⟨hk.1, hk.2.1, hk.2.2.1, hk.2.2.2.1, hk.2.2.2.2, hD⟩
  obtain ⟨s', f1, f2, f3⟩ := c7_stLoop2 (g := g) (d := d) hW1 q1 q2 hr l.length 0 s1 (by omega) FM.rf (fun x h6 => by rw [hz x h6]; rfl)
  refine ⟨s', ?_, hM1.tr f2, f3⟩
  rw [sX7_sumStates_0, sX7_sumStates_1, e1, sX7_sumStates_18, sX7_sumStates_19]
  exact f1
end SW
