/-! mean in the class -/
section CQ0
variable {g : fm_g} {d c ver : Nat} {w : WD} {G : GS} {s t : fm_S}
def mnF (wh c d : Nat) : Nat := if wh = 0 then c else d
def mnW (D : Nat → Nat) (wh c d : Nat) : Nat := (behS D (pno c d * 2 + 0) + behS D (pno c d * 2 + 1)) * mnF wh c d
def mnS (D : Nat → Nat) (wh : Nat) : Nat := sumN (fun k => D k * mnF wh (kc k) (kd k)) NS
theorem pno_inj {c d e h : Nat} (h1 : c + d ≤ 12) (h2 : e + h ≤ 12) : (pno c d = pno e h) = (c = e ∧ d = h) := by
  refine propext ⟨fun q => ?_, fun q => by rw [q.1, q.2]⟩
  obtain ⟨-, a1, a2⟩ := pno_ok h1
  obtain ⟨-, b1, b2⟩ := pno_ok h2
  exact ⟨by rw [← a1, ← b1, q], by rw [← a2, ← b2, q]⟩
theorem beh_two {D : Nat → Nat} {r : Nat} : behS D (r * 2 + 0) + behS D (r * 2 + 1) = sumN (fun k => if pno (kc k) (kd k) = r then D k else 0) NS := by
  unfold behS
  rw [← sumN_add]
  refine sumN_congr (fun k _ => ?_)
  have := (k_small k).2.2.1
  by_cases c1 : pno (kc k) (kd k) = r
  · rw [if_pos c1, c1]
    by_cases c2 : kcard k = 0
    · rw [if_pos (by omega), if_neg (by omega)]
      rfl
    · rw [if_neg (by omega), if_pos (by omega), Nat.zero_add]
  · rw [if_neg c1, if_neg (by omega), if_neg (by omega)]
theorem mnW_sum {D : Nat → Nat} {wh c d : Nat} (h : c + d ≤ 12) : mnW D wh c d = sumN (fun k => if d = kd k then (if c = kc k then D k * mnF wh c d else 0) else 0) NS := by
  unfold mnW
  rw [beh_two, Nat.mul_comm, ← sumN_mul]
  refine sumN_congr (fun k _ => ?_)
  have e := pno_inj (c := kc k) (d := kd k) (k_cd k) h
  by_cases c1 : d = kd k
  · rw [if_pos c1]
    by_cases c2 : c = kc k
    · rw [if_pos c2, if_pos (by rw [e]; exact ⟨c2.symm, c1.symm⟩), Nat.mul_comm]
    · rw [if_neg c2, if_neg (by rw [e]; exact fun q => c2 q.1.symm), Nat.mul_zero]
  · rw [if_neg c1, if_neg (by rw [e]; exact fun q => c1 q.2.symm), Nat.mul_zero]
theorem mn_all {D : Nat → Nat} {wh : Nat} : sumN (fun c => sumN (fun d => mnW D wh c d) (13 - c)) 13 = mnS D wh := by
  have h1 : sumN (fun c => sumN (fun d => mnW D wh c d) (13 - c)) 13 = sumN (fun c => sumN (fun k => if c = kc k then D k * mnF wh c (kd k) else 0) NS) 13 := sumN_congr (fun c hc => by
    rw [show sumN (fun d => mnW D wh c d) (13 - c) = sumN (fun d => sumN (fun k => if d = kd k then (if c = kc k then D k * mnF wh c d else 0) else 0) NS) (13 - c) from sumN_congr (fun d hd => mnW_sum (by omega)), sumN_swap]
    refine sumN_congr (fun k _ => ?_)
    have := k_cd k
    by_cases c2 : c = kc k
    · rw [sumN_at (f := fun d => if c = kc k then D k * mnF wh c d else 0) (show kd k < 13 - c by omega)]
    · rw [if_neg c2, sumN_zero (fun d _ => by rw [if_neg c2]; split <;> rfl)])
  rw [h1, sumN_swap]
  refine sumN_congr (fun k _ => ?_)
  have := k_cd k
  exact sumN_at (f := fun c => D k * mnF wh c (kd k)) (show kc k < 13 by omega)
def mD (w : WD) (v : Nat) : Nat → Nat := (zGo w (o00 w) (v + 1)).1
def mnA (w : WD) (v wh c : Nat) : Nat := sumN (fun c => sumN (fun d => mnW (mD w v) wh c d) (13 - c)) c
theorem i2l_n {n : Nat} (h : n < 2147483648) : (Int32.ofNat n).toInt64 = Int64.ofNat n := by
  apply Int64.toInt_inj.mp
  rw [Int32.toInt_toInt64, n32_toInt h, Int64.toInt_ofNat_of_lt (by omega)]
theorem c_mnI {v wh c : Nat} {pa : Int32} (hw : wOK w) (hv : v < wn w) (hc : c ≤ 12) (hwh : wh < 2) : ∀ (m j : Nat) (s : fm_S), j + m = 13 - c → LI s w ver → ∃ s', ev g (d + 34) mX11_mean 46 [some (.ref (0 : Nat)), some (.int (Int32.ofNat v)), some (.int (Int32.ofNat wh)), some (.int pa), some (.long (Int64.ofNat (mnA w v wh c + sumN (fun d => mnW (mD w v) wh c d) j))), none, some (.int (Int32.ofNat c)), some (.int (Int32.ofNat j)), none, none] [] s = ev g (d + 34) mX11_mean 36 [some (.ref (0 : Nat)), some (.int (Int32.ofNat v)), some (.int (Int32.ofNat wh)), some (.int pa), some (.long (Int64.ofNat (mnA w v wh (c + 1)))), none, some (.int (Int32.ofNat (c + 1))), none, none, none] [] s' ∧ LQ s s' w ver := by
  intro m
  induction m with
  | zero =>
    intro j s hj h
    have hil : j = 13 - c := by omega
    subst hil
    refine ⟨s, ?_, LQ.rf h⟩
    have h12 : Int32.ofNat 12 - Int32.ofNat c = Int32.ofNat (12 - c) := n32_sub (by omega)
    have g1 : 12 - c < 13 - c := by omega
    rw [sX11_mean_46]
    simp (disch := first | exact jm_lt0 | (apply jm_ltx; (repeat (first | exact jw_0 | apply jw_i | apply jw_r | apply jw_l)); omega) | omega | assumption | exact sa_0 | exact n32_inA sb_0 (by omega) (by omega) | (refine n32_inA (by assumption) ?_ ?_ <;> omega) | exact bi01 | (rw [sa_0]; omega) | decide) only [sX11_mean_0, sX11_mean_1, sX11_mean_2, sX11_mean_5, sX11_mean_6, sX11_mean_7, sX11_mean_8, sX11_mean_9, sX11_mean_12, sX11_mean_15, sX11_mean_16, sX11_mean_19, sX11_mean_22, sX11_mean_23, sX11_mean_26, sX11_mean_27, sX11_mean_30, sX11_mean_31, sX11_mean_33, sX11_mean_34, sX11_mean_38, sX11_mean_40, sX11_mean_43, sX11_mean_44, sX11_mean_48, sX11_mean_50, sX11_mean_52, sX11_mean_53, sX11_mean_56, sX11_mean_57, sX11_mean_60, sX11_mean_61, sX11_mean_64, sX11_mean_65, sX11_mean_67, sX11_mean_69, sX11_mean_70, sX11_mean_73, sX11_mean_74, sX11_mean_77, sX11_mean_78, sX11_mean_81, sX11_mean_82, sX11_mean_84, sX11_mean_86, sX11_mean_87, sX11_mean_90, sX11_mean_91, sX11_mean_93, sX11_mean_95, sX11_mean_97, sX11_mean_98, sX11_mean_101, sX11_mean_103, kX11_mean_106_AIIIJNIIJN, sX11_mean_106, kX11_mean_108_AIIIJNIIJN, sX11_mean_108, sX11_mean_109, sX11_mean_110, sX11_mean_111, sX11_mean_113, sX11_mean_116, kX11_mean_119_AIIIJNIINN, sX11_mean_119, sX11_mean_122, kX11_mean_125_AIIIJNINNN, sX11_mean_125, sX11_mean_127, sX11_mean_130, sX11_mean_131, sX11_mean_134, evK_n, evK_v, evK_x, gI_pI, gJ_pI, gR_pI, gI_pJ, gJ_pJ, gR_pJ, gI_pR, gJ_pR, gR_pR, if_true, if_false, not_true_eq_false, not_false_eq_true, and_true, true_and, and_false, false_and, and_self, or_true, true_or, or_false, false_or, or_self, ne_eq, Decidable.not_not, Nat.reduceEqDiff, Nat.reduceEqDiff, n32_le, n32_lt, n32_add, n32_mul, n32_cl, h12, g1]
    rfl
  | succ m ih =>
    intro j s hj h
    have r01 := h.1.u 0 1 3 (by decide +kernel)
    have r06 := h.1.u 0 6 306 (by decide +kernel)
    obtain ⟨s1, e1, q1⟩ := c6_parts (g := g) (d := d + 27) h hv (c := c) (di := j) (ca := 0) (by omega) (by decide)
    have r01b := q1.2.1.u 0 1 3 (by decide +kernel)
    have r06b := q1.2.1.u 0 6 306 (by decide +kernel)
    obtain ⟨s2, e2, q2⟩ := c6_parts (g := g) (d := d + 27) q1.2 hv (c := c) (di := j) (ca := 1) (by omega) (by decide)
    obtain ⟨s3, e3, q3⟩ := ih (j + 1) s2 (by omega) q2.2
    refine ⟨s3, ?_, (q1.tr q2).tr q3⟩
    have e1' : ev g (d + 33) mX6_partsBehind 0 [some (.ref (306 : Nat)), some (.ref (3 : Nat)), some (.int (Int32.ofNat v)), some (.int (Int32.ofNat c)), some (.int (Int32.ofNat j)), some (.int (Int32.ofNat 0)), none] [] s = some (.inl (some (.long (Int64.ofNat (behS (mD w v) (pno c j * 2 + 0))))), s1) := e1
    have e2' : ev g (d + 33) mX6_partsBehind 0 [some (.ref (306 : Nat)), some (.ref (3 : Nat)), some (.int (Int32.ofNat v)), some (.int (Int32.ofNat c)), some (.int (Int32.ofNat j)), some (.int (Int32.ofNat 1)), none] [] s1 = some (.inl (some (.long (Int64.ofNat (behS (mD w v) (pno c j * 2 + 1))))), s2) := e2
    have h12 : Int32.ofNat 12 - Int32.ofNat c = Int32.ofNat (12 - c) := n32_sub (by omega)
    have g1 : ¬ 12 - c < j := by omega
    refine Eq.trans ?_ e3
    rw [show sumN (fun d => mnW (mD w v) wh c d) (j + 1) = sumN (fun d => mnW (mD w v) wh c d) j + mnW (mD w v) wh c j from rfl, ← Nat.add_assoc, ← n64_add (mnA w v wh c + sumN (fun d => mnW (mD w v) wh c d) j)]
    generalize mnA w v wh c + sumN (fun d => mnW (mD w v) wh c d) j = A
    have hwh2 : wh = 0 ∨ wh = 1 := by omega
    unfold mnW
    generalize behS (mD w v) (pno c j * 2 + 0) = p at *
    generalize behS (mD w v) (pno c j * 2 + 1) = q at *
    rw [sX11_mean_46]
    rcases hwh2 with rfl | rfl
    · rw [show mnF 0 c j = c from rfl, ← n64_mul, ← n64_add]
      simp (disch := first | exact jm_lt0 | (apply jm_ltx; (repeat (first | exact jw_0 | apply jw_i | apply jw_r | apply jw_l)); omega) | omega | assumption | exact sa_0 | exact sa_3 | exact sa_306 | exact n32_inA sb_0 (by omega) (by omega) | exact n32_inA sb_3 (by omega) (by omega) | exact n32_inA sb_306 (by omega) (by omega) | (refine n32_inA (by assumption) ?_ ?_ <;> omega) | exact bi01 | (rw [sa_0]; omega) | (rw [sa_3]; omega) | (rw [sa_306]; omega) | decide) only [sX11_mean_0, sX11_mean_1, sX11_mean_2, sX11_mean_5, sX11_mean_6, sX11_mean_7, sX11_mean_8, sX11_mean_9, sX11_mean_12, sX11_mean_15, sX11_mean_16, sX11_mean_19, sX11_mean_22, sX11_mean_23, sX11_mean_26, sX11_mean_27, sX11_mean_30, sX11_mean_31, sX11_mean_33, sX11_mean_34, sX11_mean_38, sX11_mean_40, sX11_mean_43, sX11_mean_44, sX11_mean_48, sX11_mean_50, sX11_mean_52, sX11_mean_53, sX11_mean_56, sX11_mean_57, sX11_mean_60, sX11_mean_61, sX11_mean_64, sX11_mean_65, sX11_mean_67, sX11_mean_69, sX11_mean_70, sX11_mean_73, sX11_mean_74, sX11_mean_77, sX11_mean_78, sX11_mean_81, sX11_mean_82, sX11_mean_84, sX11_mean_86, sX11_mean_87, sX11_mean_90, sX11_mean_91, sX11_mean_93, sX11_mean_95, sX11_mean_97, sX11_mean_98, sX11_mean_101, sX11_mean_103, kX11_mean_106_AIIIJNIIJN, sX11_mean_106, kX11_mean_108_AIIIJNIIJN, sX11_mean_108, sX11_mean_109, sX11_mean_110, sX11_mean_111, sX11_mean_113, sX11_mean_116, kX11_mean_119_AIIIJNIINN, sX11_mean_119, sX11_mean_122, kX11_mean_125_AIIIJNINNN, sX11_mean_125, sX11_mean_127, sX11_mean_130, sX11_mean_131, sX11_mean_134, evK_n, evK_v, evK_x, gI_pI, gJ_pI, gR_pI, gI_pJ, gJ_pJ, gR_pJ, gI_pR, gJ_pR, gR_pR, if_true, if_false, not_true_eq_false, not_false_eq_true, and_true, true_and, and_false, false_and, and_self, or_true, true_or, or_false, false_or, or_self, ne_eq, Decidable.not_not, Nat.reduceEqDiff, Nat.reduceEqDiff, sa_0, sb_0, sa_3, sb_3, sa_306, sb_306, h12, g1, n32_add, n32_lt (show 12 - c < 2147483648 by omega) (show j < 2147483648 by omega), r01, r06, e1', r01b, r06b, e2', z32, i2l_n (show c < 2147483648 by omega)]
    · rw [show mnF 1 c j = j from rfl, ← n64_mul, ← n64_add]
      simp (disch := first | exact jm_lt0 | (apply jm_ltx; (repeat (first | exact jw_0 | apply jw_i | apply jw_r | apply jw_l)); omega) | omega | assumption | exact sa_0 | exact sa_3 | exact sa_306 | exact n32_inA sb_0 (by omega) (by omega) | exact n32_inA sb_3 (by omega) (by omega) | exact n32_inA sb_306 (by omega) (by omega) | (refine n32_inA (by assumption) ?_ ?_ <;> omega) | exact bi01 | (rw [sa_0]; omega) | (rw [sa_3]; omega) | (rw [sa_306]; omega) | decide) only [sX11_mean_0, sX11_mean_1, sX11_mean_2, sX11_mean_5, sX11_mean_6, sX11_mean_7, sX11_mean_8, sX11_mean_9, sX11_mean_12, sX11_mean_15, sX11_mean_16, sX11_mean_19, sX11_mean_22, sX11_mean_23, sX11_mean_26, sX11_mean_27, sX11_mean_30, sX11_mean_31, sX11_mean_33, sX11_mean_34, sX11_mean_38, sX11_mean_40, sX11_mean_43, sX11_mean_44, sX11_mean_48, sX11_mean_50, sX11_mean_52, sX11_mean_53, sX11_mean_56, sX11_mean_57, sX11_mean_60, sX11_mean_61, sX11_mean_64, sX11_mean_65, sX11_mean_67, sX11_mean_69, sX11_mean_70, sX11_mean_73, sX11_mean_74, sX11_mean_77, sX11_mean_78, sX11_mean_81, sX11_mean_82, sX11_mean_84, sX11_mean_86, sX11_mean_87, sX11_mean_90, sX11_mean_91, sX11_mean_93, sX11_mean_95, sX11_mean_97, sX11_mean_98, sX11_mean_101, sX11_mean_103, kX11_mean_106_AIIIJNIIJN, sX11_mean_106, kX11_mean_108_AIIIJNIIJN, sX11_mean_108, sX11_mean_109, sX11_mean_110, sX11_mean_111, sX11_mean_113, sX11_mean_116, kX11_mean_119_AIIIJNIINN, sX11_mean_119, sX11_mean_122, kX11_mean_125_AIIIJNINNN, sX11_mean_125, sX11_mean_127, sX11_mean_130, sX11_mean_131, sX11_mean_134, evK_n, evK_v, evK_x, gI_pI, gJ_pI, gR_pI, gI_pJ, gJ_pJ, gR_pJ, gI_pR, gJ_pR, gR_pR, if_true, if_false, not_true_eq_false, not_false_eq_true, and_true, true_and, and_false, false_and, and_self, or_true, true_or, or_false, false_or, or_self, ne_eq, Decidable.not_not, Nat.reduceEqDiff, Nat.reduceEqDiff, sa_0, sb_0, sa_3, sb_3, sa_306, sb_306, h12, g1, n32_add, n32_lt (show 12 - c < 2147483648 by omega) (show j < 2147483648 by omega), r01, r06, e1', r01b, r06b, e2', show ¬ (Int32.ofNat 1 = 0) by decide, i2l_n (show j < 2147483648 by omega)]
theorem c_mnO {v wh : Nat} {pa : Int32} (hw : wOK w) (hv : v < wn w) (hwh : wh < 2) : ∀ (m c : Nat) (s : fm_S), c + m = 13 → LI s w ver → ∃ s', ev g (d + 34) mX11_mean 36 [some (.ref (0 : Nat)), some (.int (Int32.ofNat v)), some (.int (Int32.ofNat wh)), some (.int pa), some (.long (Int64.ofNat (mnA w v wh c))), none, some (.int (Int32.ofNat c)), none, none, none] [] s = ev g (d + 34) mX11_mean 125 [none, none, none, some (.int pa), some (.long (Int64.ofNat (mnS (mD w v) wh))), none, none, none, none, none] [] s' ∧ LQ s s' w ver := by
  intro m
  induction m with
  | zero =>
    intro c s hc h
    have hil : c = 13 := by omega
    subst hil
    refine ⟨s, ?_, LQ.rf h⟩
    rw [← mn_all (D := mD w v) (wh := wh)]
    rw [sX11_mean_36]
    simp (disch := first | exact jm_lt0 | (apply jm_ltx; (repeat (first | exact jw_0 | apply jw_i | apply jw_r | apply jw_l)); omega) | omega | assumption | exact sa_0 | exact n32_inA sb_0 (by omega) (by omega) | (refine n32_inA (by assumption) ?_ ?_ <;> omega) | exact bi01 | (rw [sa_0]; omega) | decide) only [sX11_mean_0, sX11_mean_1, sX11_mean_2, sX11_mean_5, sX11_mean_6, sX11_mean_7, sX11_mean_8, sX11_mean_9, sX11_mean_12, sX11_mean_15, sX11_mean_16, sX11_mean_19, sX11_mean_22, sX11_mean_23, sX11_mean_26, sX11_mean_27, sX11_mean_30, sX11_mean_31, sX11_mean_33, sX11_mean_34, sX11_mean_38, sX11_mean_40, sX11_mean_43, sX11_mean_44, sX11_mean_48, sX11_mean_50, sX11_mean_52, sX11_mean_53, sX11_mean_56, sX11_mean_57, sX11_mean_60, sX11_mean_61, sX11_mean_64, sX11_mean_65, sX11_mean_67, sX11_mean_69, sX11_mean_70, sX11_mean_73, sX11_mean_74, sX11_mean_77, sX11_mean_78, sX11_mean_81, sX11_mean_82, sX11_mean_84, sX11_mean_86, sX11_mean_87, sX11_mean_90, sX11_mean_91, sX11_mean_93, sX11_mean_95, sX11_mean_97, sX11_mean_98, sX11_mean_101, sX11_mean_103, kX11_mean_106_AIIIJNIIJN, sX11_mean_106, kX11_mean_108_AIIIJNIIJN, sX11_mean_108, sX11_mean_109, sX11_mean_110, sX11_mean_111, sX11_mean_113, sX11_mean_116, kX11_mean_119_AIIIJNIINN, sX11_mean_119, sX11_mean_122, kX11_mean_125_AIIIJNINNN, sX11_mean_127, sX11_mean_130, sX11_mean_131, sX11_mean_134, evK_n, evK_v, evK_x, gI_pI, gJ_pI, gR_pI, gI_pJ, gJ_pJ, gR_pJ, gI_pR, gJ_pR, gR_pR, if_true, if_false, not_true_eq_false, not_false_eq_true, and_true, true_and, and_false, false_and, and_self, or_true, true_or, or_false, false_or, or_self, ne_eq, Decidable.not_not, Nat.reduceEqDiff, Nat.reduceEqDiff, n32_le, n32_lt, n32_add, n32_mul, n32_cl, show (12 : Nat) < 13 by decide]
    rfl
  | succ m ih =>
    intro c s hc h
    obtain ⟨s1, e1, q1⟩ := c_mnI (g := g) (d := d) (v := v) (wh := wh) (c := c) (pa := pa) hw hv (by omega) hwh (13 - c) 0 s (by omega) h
    obtain ⟨s2, e2, q2⟩ := ih (c + 1) s1 (by omega) q1.2
    refine ⟨s2, ?_, q1.tr q2⟩
    refine Eq.trans ?_ (e1.trans e2)
    have g1 : ¬ 12 < c := by omega
    rw [show mnA w v wh c + sumN (fun d => mnW (mD w v) wh c d) 0 = mnA w v wh c from rfl]
    rw [sX11_mean_36]
    simp (disch := first | exact jm_lt0 | (apply jm_ltx; (repeat (first | exact jw_0 | apply jw_i | apply jw_r | apply jw_l)); omega) | omega | assumption | exact sa_0 | exact n32_inA sb_0 (by omega) (by omega) | (refine n32_inA (by assumption) ?_ ?_ <;> omega) | exact bi01 | (rw [sa_0]; omega) | decide) only [sX11_mean_0, sX11_mean_1, sX11_mean_2, sX11_mean_5, sX11_mean_6, sX11_mean_7, sX11_mean_8, sX11_mean_9, sX11_mean_12, sX11_mean_15, sX11_mean_16, sX11_mean_19, sX11_mean_22, sX11_mean_23, sX11_mean_26, sX11_mean_27, sX11_mean_30, sX11_mean_31, sX11_mean_33, sX11_mean_34, sX11_mean_38, sX11_mean_40, sX11_mean_43, sX11_mean_44, sX11_mean_48, sX11_mean_50, sX11_mean_52, sX11_mean_53, sX11_mean_56, sX11_mean_57, sX11_mean_60, sX11_mean_61, sX11_mean_64, sX11_mean_65, sX11_mean_67, sX11_mean_69, sX11_mean_70, sX11_mean_73, sX11_mean_74, sX11_mean_77, sX11_mean_78, sX11_mean_81, sX11_mean_82, sX11_mean_84, sX11_mean_86, sX11_mean_87, sX11_mean_90, sX11_mean_91, sX11_mean_93, sX11_mean_95, sX11_mean_97, sX11_mean_98, sX11_mean_101, sX11_mean_103, kX11_mean_106_AIIIJNIIJN, sX11_mean_106, kX11_mean_108_AIIIJNIIJN, sX11_mean_108, sX11_mean_109, sX11_mean_110, sX11_mean_111, sX11_mean_113, sX11_mean_116, kX11_mean_119_AIIIJNIINN, sX11_mean_119, sX11_mean_122, kX11_mean_125_AIIIJNINNN, sX11_mean_127, sX11_mean_130, sX11_mean_131, sX11_mean_134, evK_n, evK_v, evK_x, gI_pI, gJ_pI, gR_pI, gI_pJ, gJ_pJ, gR_pJ, gI_pR, gJ_pR, gR_pR, if_true, if_false, not_true_eq_false, not_false_eq_true, and_true, true_and, and_false, false_and, and_self, or_true, true_or, or_false, false_or, or_self, ne_eq, Decidable.not_not, Nat.reduceEqDiff, Nat.reduceEqDiff, n32_le, n32_lt, n32_add, n32_mul, n32_cl, g1]
end CQ0
