/-! the class: acts -/
/-- the counts: drunk from by each, washed, looks -/
def CT3 (s : fm_S) (dr : Nat → Nat) (wa lo : Nat) : Prop := (∀ p, p < 6 → gJ s 314 p = Int64.ofNat (dr p)) ∧ gJ s 307 6 = Int64.ofNat wa ∧ gJ s 307 7 = Int64.ofNat lo
theorem CT3.cn {s s' : fm_S} {dr : Nat → Nat} {wa lo : Nat} (h : CT3 s dr wa lo) (x : CN s s') : CT3 s' dr wa lo := ⟨fun p hp => by rw [x.1, h.1 p hp], by rw [x.2, h.2.1], by rw [x.2, h.2.2]⟩
def addP (dr : Nat → Nat) (p n : Nat) : Nat → Nat := fun x => if x = p then dr x + n else dr x
theorem addP_0 {dr : Nat → Nat} {p : Nat} : addP dr p 0 = dr := by
  funext x
  unfold addP
  split <;> rfl
section AC
variable {s0 s : fm_S} {A A' : Nat} {l : List Nat} {D F : Nat → Nat}
theorem PS.long (h : PS s0 s A A' l D F) (hO : OD s0 A A') {a j : Nat} {v : Int64} (ha : a = 314 ∨ (a = 307 ∧ (j = 6 ∨ j = 7))) : PS s0 (pJ s a j v) A A' l D F := by
  obtain ⟨h1, h2, l', h3⟩ := h
  obtain ⟨a1, a2, a3⟩ := od_A hO
  refine ⟨h1.tr (FM.pJ (by unfold qO; omega)), h2.of ?_ (fun i => ?_) (fun i => ?_), l', h3.of ?_ (fun i => ?_) (fun i => ?_)⟩
  · rw [gI_pJ]
  · rw [gI_pJ]
  · rw [gJ_pJ, if_neg (by omega)]
  · rw [gI_pJ]
  · rw [gI_pJ]
  · rw [gJ_pJ, if_neg (by omega)]
theorem c7_start {g : fm_g} {d cl di ca se st p v : Nat} {w : WD} (hF : FX s) (h5 : HN5 s 310 cl di ca se st) (hE : HE s 310 w v) (h12 : cl + di ≤ 12) : ev g d mX7_start 0 [some (.ref (307 : Nat)), some (.long (Int64.ofNat p)), none] [] s = some (.inl none, if 0 < cl + di then pI (pI (pI (pJ s 307 6 (gJ s 307 6 + Int64.ofNat (p * cl))) 310 0 (Int32.ofNat (cl + di))) 310 1 (Int32.ofNat 0)) 310 4 (Int32.ofNat v) else s) := by
  have r2 := hF.u 307 2 310 (by decide +kernel)
  obtain ⟨h1, h2, h3, h4, h6⟩ := h5
  have e5 := hE.1
  by_cases c : 0 < cl + di
  · have c' : ¬ (cl + di = 0) := by omega
    simp (disch := first | exact jm_lt0 | (apply jm_ltx; (repeat (first | exact jw_0 | apply jw_i | apply jw_r | apply jw_l)); omega) | omega | assumption | exact sa_307 | exact sa_310 | exact n32_inA sb_307 (by omega) (by omega) | exact n32_inA sb_310 (by omega) (by omega) | (refine n32_inA (by assumption) ?_ ?_ <;> omega) | exact bi01 | (rw [sa_307]; omega) | (rw [sa_310]; omega) | decide) only [sX7_start_0, sX7_start_1, sX7_start_4, sX7_start_7, sX7_start_8, sX7_start_11, sX7_start_14, sX7_start_15, sX7_start_18, sX7_start_19, sX7_start_20, sX7_start_23, sX7_start_24, sX7_start_25, sX7_start_28, sX7_start_31, sX7_start_32, sX7_start_33, sX7_start_34, sX7_start_37, sX7_start_38, sX7_start_41, sX7_start_42, sX7_start_45, sX7_start_46, sX7_start_49, sX7_start_52, sX7_start_53, sX7_start_56, sX7_start_57, sX7_start_60, sX7_start_61, sX7_start_64, sX7_start_65, sX7_start_68, sX7_start_69, sX7_start_72, sX7_start_75, kX7_start_78_AJN, sX7_start_78, evK_n, evK_v, evK_x, gI_pI, gJ_pI, gR_pI, gI_pJ, gJ_pJ, gR_pJ, gI_pR, gJ_pR, gR_pR, n32_le, n32_lt, n32_add, n32_mul, n32_cl, if_true, if_false, not_true_eq_false, not_false_eq_true, and_true, true_and, and_false, false_and, and_self, or_true, true_or, or_false, false_or, or_self, ne_eq, Decidable.not_not, Nat.reduceEqDiff, Nat.reduceEqDiff, sa_307, sb_307, sa_310, sb_310, r2, h1, h2, n32_le0, c, c', n32_64, n64_mul, e5, Nat.reduceEqDiff]
  · have c' : cl + di = 0 := by omega
    simp (disch := first | exact jm_lt0 | (apply jm_ltx; (repeat (first | exact jw_0 | apply jw_i | apply jw_r | apply jw_l)); omega) | omega | assumption | exact sa_307 | exact sa_310 | exact n32_inA sb_307 (by omega) (by omega) | exact n32_inA sb_310 (by omega) (by omega) | (refine n32_inA (by assumption) ?_ ?_ <;> omega) | exact bi01 | (rw [sa_307]; omega) | (rw [sa_310]; omega) | decide) only [sX7_start_0, sX7_start_1, sX7_start_4, sX7_start_7, sX7_start_8, sX7_start_11, sX7_start_14, sX7_start_15, sX7_start_18, sX7_start_19, sX7_start_20, sX7_start_23, sX7_start_24, sX7_start_25, sX7_start_28, sX7_start_31, sX7_start_32, sX7_start_33, sX7_start_34, sX7_start_37, sX7_start_38, sX7_start_41, sX7_start_42, sX7_start_45, sX7_start_46, sX7_start_49, sX7_start_52, sX7_start_53, sX7_start_56, sX7_start_57, sX7_start_60, sX7_start_61, sX7_start_64, sX7_start_65, sX7_start_68, sX7_start_69, sX7_start_72, sX7_start_75, kX7_start_78_AJN, sX7_start_78, evK_n, evK_v, evK_x, gI_pI, gJ_pI, gR_pI, gI_pJ, gJ_pJ, gR_pJ, gI_pR, gJ_pR, gR_pR, n32_le, n32_lt, n32_add, n32_mul, n32_cl, if_true, if_false, not_true_eq_false, not_false_eq_true, and_true, true_and, and_false, false_and, and_self, or_true, true_or, or_false, false_or, or_self, ne_eq, Decidable.not_not, Nat.reduceEqDiff, Nat.reduceEqDiff, sa_307, sb_307, sa_310, sb_310, r2, h1, h2, n32_le0, c, c', n32_64, n64_mul, e5, Nat.reduceEqDiff, z32, show (Int32.ofNat 0 ≤ 0) = True from eq_true (by decide), Nat.lt_irrefl]
theorem c7_look {g : fm_g} {d k a see v dr0 : Nat} {w : WD} {dr : Nat → Nat} {wa lo : Nat} (hW : WB s0 A A' l D) (hP : PS s0 s A A' l D F) (hN : HN s 310 k) (hk : k < NS) (h11 : gI s0 307 11 = Int32.ofNat see) (hs : see ≤ 16) (ha : a ≤ ONE) (hFb : ∀ τ, F τ ≤ ONE) (hT : CT3 s dr wa lo) : ∃ s', ev g (d + 1) mX7_lookInside 0 [some (.ref (307 : Nat)), some (.long (Int64.ofNat a)), none, none, none] [] s = some (.inl none, s') ∧ PS s0 s' A A' l D (addF F [(k, a - (if 0 < kd k then a * see / 16 else 0)), (nm (kc k) (kd k) (kcard k) 1 (kst k), if 0 < kd k then a * see / 16 else 0)]) ∧ CT3 s' dr wa (lo + a) ∧ ∀ j, gI s' 313 j = gI s 313 j := by
  obtain ⟨hF, hO, hB, hC, hC', hS⟩ := id hW
  obtain ⟨a1, a2, a3⟩ := od_A hO
  have sA' : (shp A').1 = 1 := (clS hO.2.2.2.1).1
  have hB2 : BIG = 4611686018427387904 := rfl
  have hO2 : ONE = 1099511627776 := rfl
  obtain ⟨kl1, kl2, kl3⟩ := k_lt hk
  have hkcd := k_cd k
  have ht := tq (p := a) hs
  generalize hse : (if 0 < kd k then a * see / 16 else 0) = se
  have hsea : se ≤ a := by rw [← hse]; split <;> omega
  have hP1 := hP.long hO (a := 307) (j := 7) (v := Int64.ofNat (lo + a)) (Or.inr ⟨rfl, Or.inr rfl⟩)
  obtain ⟨y1, y2, y3, y4, y5⟩ := hP1.refs hF hO
  have y6 : gI s 307 11 = Int32.ofNat see := by rw [hP.1.2.1 _ _ (by unfold pO HSK; omega), h11]
  have h5 : HN5 (pJ s 307 7 (Int64.ofNat (lo + a))) 310 (kc k) (kd k) (kcard k) (kseen k) (kst k) := hN
  have e1 := c1_numberOf (g := g) (d := d) (by decide) h5 hkcd
  rw [nm_k] at e1
  obtain ⟨s2, e2, hP2, hM2⟩ := hP1.add (g := g) (d := d) (k := k) (m := a - se) hF hO hk (by have := hFb k; omega)
  obtain ⟨z1, z2, z3, z4, z5⟩ := hP2.refs hF hO
  have hN2 : HN s2 310 k := HN.of (s := s) hN (fun j _ => by rw [hM2.hand a2, gI_pJ])
  have hP3 := hP2.hand hO (j := 3) (v := Int32.ofNat 1) (by decide)
  have h6 : HN5 (pI s2 310 3 (Int32.ofNat 1)) 310 (kc k) (kd k) (kcard k) 1 (kst k) := ⟨by simp [gI_pI, hN2.1], by simp [gI_pI, hN2.2.1], by simp [gI_pI, hN2.2.2.1], by simp [gI_pI], by simp [gI_pI, hN2.2.2.2.2]⟩
  have e3 := c1_numberOf (g := g) (d := d) (by decide) h6 hkcd
  rw [upd_1] at hP3
  have htal : ∀ τ, addF F [(k, a - se)] τ ≤ ONE + (a - se) := fun τ => by
    unfold addF
    rw [tal_cons, tal_nil]
    have := hFb τ
    split <;> omega
  obtain ⟨s4, e5, hP4, hM4⟩ := hP3.add (g := g) (d := d) (k := nm (kc k) (kd k) (kcard k) 1 (kst k)) (m := se) hF hO (nm_lt hkcd kl1 (by omega) kl3) (by have := htal (nm (kc k) (kd k) (kcard k) 1 (kst k)); omega)
  rw [addF_upd] at hP4
  refine ⟨s4, ?_, hP4, ?_, fun j => by rw [hM4.2.1 _ _ (by unfold pC; omega), gI_pI, if_neg (by omega), hM2.2.1 _ _ (by unfold pC; omega), gI_pJ]⟩
  · have q1 : Int64.ofNat (a * see) / Int64.ofNat 16 = Int64.ofNat (a * see / 16) := by rw [← n64_mul, lp_q ha (by omega)]
    have q2 : Int64.ofNat a - Int64.ofNat se = Int64.ofNat (a - se) := n64_sub hsea
    have q3 : gJ s 307 7 + Int64.ofNat a = Int64.ofNat (lo + a) := by rw [hT.2.2, n64_add]
    have r2 : gR s 307 2 = 310 := y4
    have hd : gI s 310 1 = Int32.ofNat (kd k) := hN.2.1
    have z3' : gR (pI s2 310 3 (Int32.ofNat 1)) 307 9 = A' := z3
    have z4' : gR (pI s2 310 3 (Int32.ofNat 1)) 307 2 = 310 := z4
    by_cases c : 0 < kd k
    · rw [if_pos c] at hse
      have c' : ¬ kd k = 0 := by omega
      subst hse
      simp (disch := first | exact jm_lt0 | (apply jm_ltx; (repeat (first | exact jw_0 | apply jw_i | apply jw_r | apply jw_l)); omega) | omega | assumption | exact sa_307 | exact sa_310 | exact n32_inA sb_307 (by omega) (by omega) | exact n32_inA sb_310 (by omega) (by omega) | (refine n32_inA (by assumption) ?_ ?_ <;> omega) | exact bi01 | (rw [sa_307]; omega) | (rw [sa_310]; omega) | decide) only [sX7_lookInside_0, sX7_lookInside_1, sX7_lookInside_2, sX7_lookInside_5, sX7_lookInside_6, sX7_lookInside_7, sX7_lookInside_10, sX7_lookInside_11, sX7_lookInside_14, sX7_lookInside_17, sX7_lookInside_20, sX7_lookInside_21, sX7_lookInside_22, sX7_lookInside_25, sX7_lookInside_26, sX7_lookInside_27, sX7_lookInside_30, sX7_lookInside_31, sX7_lookInside_34, sX7_lookInside_35, sX7_lookInside_36, sX7_lookInside_37, sX7_lookInside_40, sX7_lookInside_41, sX7_lookInside_44, sX7_lookInside_47, sX7_lookInside_48, sX7_lookInside_49, sX7_lookInside_50, sX7_lookInside_53, sX7_lookInside_54, sX7_lookInside_57, sX7_lookInside_58, sX7_lookInside_61, sX7_lookInside_62, sX7_lookInside_65, sX7_lookInside_66, sX7_lookInside_69, sX7_lookInside_72, sX7_lookInside_73, sX7_lookInside_76, evK_n, evK_v, evK_x, gI_pI, gJ_pI, gR_pI, gI_pJ, gJ_pJ, gR_pJ, gI_pR, gJ_pR, gR_pR, n32_le, n32_lt, n32_add, n32_mul, n32_cl, if_true, if_false, not_true_eq_false, not_false_eq_true, and_true, true_and, and_false, false_and, and_self, or_true, true_or, or_false, false_or, or_self, ne_eq, Decidable.not_not, Nat.reduceEqDiff, Nat.reduceEqDiff, sa_307, sb_307, sa_310, sb_310, q3, r2, hd, n32_le0, c', y3, y6, n32_64, n64_mul, q1, q2, e1, e2, z3, z4, z3', z4', e3, e5, show ¬ (Int64.ofNat 16 = 0) by decide, ne_eq]
    · rw [if_neg c] at hse
      have c' : kd k = 0 := by omega
      subst hse
      rw [c'] at hd
      simp (disch := first | exact jm_lt0 | (apply jm_ltx; (repeat (first | exact jw_0 | apply jw_i | apply jw_r | apply jw_l)); omega) | omega | assumption | exact sa_307 | exact sa_310 | exact n32_inA sb_307 (by omega) (by omega) | exact n32_inA sb_310 (by omega) (by omega) | (refine n32_inA (by assumption) ?_ ?_ <;> omega) | exact bi01 | (rw [sa_307]; omega) | (rw [sa_310]; omega) | decide) only [sX7_lookInside_0, sX7_lookInside_1, sX7_lookInside_2, sX7_lookInside_5, sX7_lookInside_6, sX7_lookInside_7, sX7_lookInside_10, sX7_lookInside_11, sX7_lookInside_14, sX7_lookInside_17, sX7_lookInside_20, sX7_lookInside_21, sX7_lookInside_22, sX7_lookInside_25, sX7_lookInside_26, sX7_lookInside_27, sX7_lookInside_30, sX7_lookInside_31, sX7_lookInside_34, sX7_lookInside_35, sX7_lookInside_36, sX7_lookInside_37, sX7_lookInside_40, sX7_lookInside_41, sX7_lookInside_44, sX7_lookInside_47, sX7_lookInside_48, sX7_lookInside_49, sX7_lookInside_50, sX7_lookInside_53, sX7_lookInside_54, sX7_lookInside_57, sX7_lookInside_58, sX7_lookInside_61, sX7_lookInside_62, sX7_lookInside_65, sX7_lookInside_66, sX7_lookInside_69, sX7_lookInside_72, sX7_lookInside_73, sX7_lookInside_76, evK_n, evK_v, evK_x, gI_pI, gJ_pI, gR_pI, gI_pJ, gJ_pJ, gR_pJ, gI_pR, gJ_pR, gR_pR, n32_le, n32_lt, n32_add, n32_mul, n32_cl, if_true, if_false, not_true_eq_false, not_false_eq_true, and_true, true_and, and_false, false_and, and_self, or_true, true_or, or_false, false_or, or_self, ne_eq, Decidable.not_not, Nat.reduceEqDiff, Nat.reduceEqDiff, sa_307, sb_307, sa_310, sb_310, q3, r2, hd, show (Int32.ofNat 0 ≤ 0) = True from eq_true (by decide), y3, y6, q2, e1, e2, z3, z4, z3', z4', e3, e5]
  · refine CT3.cn (s := pJ s 307 7 (Int64.ofNat (lo + a))) ⟨fun p hp => by rw [gJ_pJ, if_neg (by omega), hT.1 p hp], by rw [gJ_pJ, if_neg (by omega), hT.2.1], by rw [gJ_pJ, if_pos ⟨rfl, rfl⟩]⟩ (((CN.cl hM2 a2).tr CN.pI).tr (CN.cl hM4 a2))
theorem c7_drink {g : fm_g} {d k a p : Nat} {dr : Nat → Nat} {wa lo : Nat} (hW : WB s0 A A' l D) (hP : PS s0 s A A' l D F) (hN : HN s 310 k) (hk : k < NS) (ha : a ≤ ONE) (hp : p < 6) (hFb : ∀ τ, F τ ≤ ONE) (hT : CT3 s dr wa lo) : ∃ s', ev g (d + 1) mX7_drink 0 [some (.ref (307 : Nat)), some (.int (Int32.ofNat p)), some (.long (Int64.ofNat a)), none, none, none, none] [] s = some (.inl none, s') ∧ PS s0 s' A A' l D (addF F (if kc k + kd k = 0 then [(k, a)] else [(nm (kc k) (kd k - 1) (kcard k) (kseen k) (kst k), a * kd k / (kc k + kd k)), (nm (kc k - 1) (kd k) (kcard k) (kseen k) (kst k), a - a * kd k / (kc k + kd k))])) ∧ CT3 s' (addP dr p (a * kd k / (kc k + kd k))) wa lo ∧ ∀ j, gI s' 313 j = gI s 313 j := by
  obtain ⟨hF, hO, hB, hC, hC', hS⟩ := id hW
  obtain ⟨a1, a2, a3⟩ := od_A hO
  have sA' : (shp A').1 = 1 := (clS hO.2.2.2.1).1
  have hB2 : BIG = 4611686018427387904 := rfl
  have hO2 : ONE = 1099511627776 := rfl
  obtain ⟨kl1, kl2, kl3⟩ := k_lt hk
  have hkcd := k_cd k
  obtain ⟨y1, y2, y3, y4, y5⟩ := hP.refs hF hO
  obtain ⟨h1, h2, h3, h4, h6⟩ := id hN
  have h5 : HN5 s 310 (kc k) (kd k) (kcard k) (kseen k) (kst k) := hN
  by_cases c0 : kc k + kd k = 0
  · rw [if_pos c0]
    have e1 := c1_numberOf (g := g) (d := d) (by decide) h5 hkcd
    rw [nm_k] at e1
    obtain ⟨s2, e2, hP2, hM2⟩ := hP.add (g := g) (d := d) (k := k) (m := a) hF hO hk (by have := hFb k; omega)
    rw [upd_1] at hP2
    refine ⟨s2, ?_, hP2, ?_, fun j => hM2.2.1 _ _ (by unfold pC; omega)⟩
    · simp (disch := first | exact jm_lt0 | (apply jm_ltx; (repeat (first | exact jw_0 | apply jw_i | apply jw_r | apply jw_l)); omega) | omega | assumption | exact sa_307 | exact sa_310 | exact n32_inA sb_307 (by omega) (by omega) | exact n32_inA sb_310 (by omega) (by omega) | (refine n32_inA (by assumption) ?_ ?_ <;> omega) | exact bi01 | (rw [sa_307]; omega) | (rw [sa_310]; omega) | decide) only [sX7_drink_0, sX7_drink_1, sX7_drink_4, sX7_drink_7, sX7_drink_8, sX7_drink_11, sX7_drink_14, sX7_drink_15, sX7_drink_17, sX7_drink_19, sX7_drink_22, sX7_drink_23, sX7_drink_26, sX7_drink_27, sX7_drink_30, sX7_drink_33, sX7_drink_34, sX7_drink_37, sX7_drink_38, sX7_drink_39, sX7_drink_40, sX7_drink_43, sX7_drink_46, sX7_drink_47, sX7_drink_48, sX7_drink_50, sX7_drink_51, sX7_drink_52, sX7_drink_54, sX7_drink_55, sX7_drink_58, sX7_drink_59, sX7_drink_61, sX7_drink_64, sX7_drink_65, sX7_drink_68, sX7_drink_69, sX7_drink_70, sX7_drink_71, sX7_drink_73, sX7_drink_74, kX7_drink_75_AIJNIJN, sX7_drink_75, sX7_drink_77, sX7_drink_78, sX7_drink_79, sX7_drink_82, sX7_drink_83, sX7_drink_86, sX7_drink_87, sX7_drink_90, sX7_drink_91, sX7_drink_92, sX7_drink_95, sX7_drink_96, sX7_drink_99, sX7_drink_100, sX7_drink_103, sX7_drink_106, sX7_drink_108, sX7_drink_111, sX7_drink_112, sX7_drink_115, sX7_drink_116, sX7_drink_119, sX7_drink_120, sX7_drink_121, sX7_drink_124, sX7_drink_125, sX7_drink_127, sX7_drink_128, sX7_drink_131, sX7_drink_132, sX7_drink_135, sX7_drink_136, sX7_drink_139, sX7_drink_140, sX7_drink_141, sX7_drink_144, sX7_drink_145, sX7_drink_148, sX7_drink_149, sX7_drink_152, sX7_drink_155, sX7_drink_156, sX7_drink_158, sX7_drink_159, kX7_drink_162_ANJNNJN, sX7_drink_162, evK_n, evK_v, evK_x, gI_pI, gJ_pI, gR_pI, gI_pJ, gJ_pJ, gR_pJ, gI_pR, gJ_pR, gR_pR, n32_le, n32_lt, n32_add, n32_mul, n32_cl, if_true, if_false, not_true_eq_false, not_false_eq_true, and_true, true_and, and_false, false_and, and_self, or_true, true_or, or_false, false_or, or_self, ne_eq, Decidable.not_not, Nat.reduceEqDiff, Nat.reduceEqDiff, sa_307, sb_307, sa_310, sb_310, y4, h1, h2, c0, show ¬ ((0 : Int32) < Int32.ofNat 0) by decide, y3, e1, e2]
    · have : a * kd k / (kc k + kd k) = 0 := by rw [c0, Nat.div_zero]
      rw [this, addP_0]
      exact hT.cn (CN.cl hM2 a2)
  · rw [if_neg c0]
    have hle := dv_le (a := a) (show kd k ≤ kc k + kd k by omega)
    have hmul : a * kd k ≤ ONE * 12 := Nat.mul_le_mul ha (by omega)
    have q1 : Int64.ofNat (a * kd k) / Int64.ofNat (kc k + kd k) = Int64.ofNat (a * kd k / (kc k + kd k)) := n64_div (by omega) (by omega)
    have hz : ¬ Int64.ofNat (kc k + kd k) = 0 := by
      rw [n64_eq0 (by omega)]; exact c0
    have hd0 : a * kd k / (kc k + kd k) = 0 → kd k = 0 ∨ True := fun _ => Or.inr trivial
    have hcc : kc k = 0 → a * kd k / (kc k + kd k) = a := fun h => by
      rw [h, Nat.zero_add]
      exact Nat.mul_div_cancel a (by omega)
    have hdd : kd k = 0 → a * kd k / (kc k + kd k) = 0 := fun h => by rw [h, Nat.mul_zero, Nat.zero_div]
    generalize a * kd k / (kc k + kd k) = dp at *
    have hpos : (0 : Int32) < Int32.ofNat (kc k + kd k) := by rw [n32_0lt (by omega)]; omega
    have q2 : gJ s 314 p + Int64.ofNat dp = Int64.ofNat (dr p + dp) := by rw [hT.1 p hp, n64_add]
    have r4 := y1.u 307 4 314 (by decide +kernel)
    have q3 : Int64.ofNat a - Int64.ofNat dp = Int64.ofNat (a - dp) := n64_sub hle
    have hP1 := hP.long hO (a := 314) (j := p) (v := Int64.ofNat (dr p + dp)) (Or.inl rfl)
    obtain ⟨w1, w2, w3, w4, w5⟩ := hP1.refs hF hO
    have hT1 : CT3 (pJ s 314 p (Int64.ofNat (dr p + dp))) (addP dr p dp) wa lo := by
      refine ⟨fun x hx => ?_, by rw [gJ_pJ, if_neg (by omega), hT.2.1], by rw [gJ_pJ, if_neg (by omega), hT.2.2]⟩
      rw [gJ_pJ]
      unfold addP
      by_cases cx : x = p
      · subst cx; rw [if_pos ⟨rfl, rfl⟩, if_pos rfl]
      · rw [if_neg (by rintro ⟨-, h⟩; exact cx h), if_neg cx, hT.1 x hx]
    have n6 : ¬ 6 ≤ p := by omega
    -- the dirty ones
    have stepA : ∃ s2, ev g (d + 1) mX7_drink 75 [some (.ref (307 : Nat)), none, some (.long (Int64.ofNat a)), none, none, some (.long (Int64.ofNat dp)), none] [] (pJ s 314 p (Int64.ofNat (dr p + dp))) = ev g (d + 1) mX7_drink 124 [some (.ref (307 : Nat)), none, some (.long (Int64.ofNat a)), none, none, some (.long (Int64.ofNat dp)), none] [] s2 ∧ PS s0 s2 A A' l D (addF F [(nm (kc k) (kd k - 1) (kcard k) (kseen k) (kst k), dp)]) ∧ HN s2 310 k ∧ CN (pJ s 314 p (Int64.ofNat (dr p + dp))) s2 ∧ ∀ j, gI s2 313 j = gI s 313 j := by
      by_cases cd : dp = 0
      · subst cd
        have : addF F [(nm (kc k) (kd k - 1) (kcard k) (kseen k) (kst k), 0)] = F := by rw [← upd_1, updD_0]
        rw [this]
        refine ⟨_, ?_, hP1, hN, CN.rf, fun j => rfl⟩
        simp (disch := first | exact jm_lt0 | (apply jm_ltx; (repeat (first | exact jw_0 | apply jw_i | apply jw_r | apply jw_l)); omega) | omega | assumption | exact sa_307 | exact sa_310 | exact n32_inA sb_307 (by omega) (by omega) | exact n32_inA sb_310 (by omega) (by omega) | (refine n32_inA (by assumption) ?_ ?_ <;> omega) | exact bi01 | (rw [sa_307]; omega) | (rw [sa_310]; omega) | decide) only [sX7_drink_0, sX7_drink_1, sX7_drink_4, sX7_drink_7, sX7_drink_8, sX7_drink_11, sX7_drink_14, sX7_drink_15, sX7_drink_17, sX7_drink_19, sX7_drink_22, sX7_drink_23, sX7_drink_26, sX7_drink_27, sX7_drink_30, sX7_drink_33, sX7_drink_34, sX7_drink_37, sX7_drink_38, sX7_drink_39, sX7_drink_40, sX7_drink_43, sX7_drink_46, sX7_drink_47, sX7_drink_48, sX7_drink_50, sX7_drink_51, sX7_drink_52, sX7_drink_54, sX7_drink_55, sX7_drink_58, sX7_drink_59, sX7_drink_61, sX7_drink_64, sX7_drink_65, sX7_drink_68, sX7_drink_69, sX7_drink_70, sX7_drink_71, sX7_drink_73, sX7_drink_74, kX7_drink_75_AIJNIJN, sX7_drink_75, sX7_drink_77, sX7_drink_78, sX7_drink_79, sX7_drink_82, sX7_drink_83, sX7_drink_86, sX7_drink_87, sX7_drink_90, sX7_drink_91, sX7_drink_92, sX7_drink_95, sX7_drink_96, sX7_drink_99, sX7_drink_100, sX7_drink_103, sX7_drink_106, sX7_drink_108, sX7_drink_111, sX7_drink_112, sX7_drink_115, sX7_drink_116, sX7_drink_119, sX7_drink_120, sX7_drink_121, sX7_drink_125, sX7_drink_127, sX7_drink_128, sX7_drink_131, sX7_drink_132, sX7_drink_135, sX7_drink_136, sX7_drink_139, sX7_drink_140, sX7_drink_141, sX7_drink_144, sX7_drink_145, sX7_drink_148, sX7_drink_149, sX7_drink_152, sX7_drink_155, sX7_drink_156, sX7_drink_158, sX7_drink_159, kX7_drink_162_ANJNNJN, sX7_drink_162, evK_n, evK_v, evK_x, gI_pI, gJ_pI, gR_pI, gI_pJ, gJ_pJ, gR_pJ, gI_pR, gJ_pR, gR_pR, n32_le, n32_lt, n32_add, n32_mul, n32_cl, if_true, if_false, not_true_eq_false, not_false_eq_true, and_true, true_and, and_false, false_and, and_self, or_true, true_or, or_false, false_or, or_self, ne_eq, Decidable.not_not, Nat.reduceEqDiff, Nat.reduceEqDiff, sa_307, sb_307, sa_310, sb_310, n64_cle, show (Int64.ofNat 0 ≤ Int64.ofNat 0) = True from eq_true (by decide)]
      · have hd1 : 1 ≤ kd k := by
          rcases Nat.eq_zero_or_pos (kd k) with h0 | h0
          · exact absurd (hdd h0) cd
          · exact h0
        have hP2 := hP1.hand hO (j := 1) (v := Int32.ofNat (kd k - 1)) (by decide)
        have hn1 : Int32.ofNat (kd k) - Int32.ofNat 1 = Int32.ofNat (kd k - 1) := n32_sub hd1
        have h7 : HN5 (pI (pJ s 314 p (Int64.ofNat (dr p + dp))) 310 1 (Int32.ofNat (kd k - 1))) 310 (kc k) (kd k - 1) (kcard k) (kseen k) (kst k) := ⟨by simp [gI_pI, gI_pJ, h1], by simp [gI_pI], by simp [gI_pI, gI_pJ, h3], by simp [gI_pI, gI_pJ, h4], by simp [gI_pI, gI_pJ, h6]⟩
        have e1 := c1_numberOf (g := g) (d := d) (by decide) h7 (by omega)
        obtain ⟨s2, e2, hP3, hM3⟩ := hP2.add (g := g) (d := d) (k := nm (kc k) (kd k - 1) (kcard k) (kseen k) (kst k)) (m := dp) hF hO (nm_lt (by omega) kl1 kl2 kl3) (by have := hFb (nm (kc k) (kd k - 1) (kcard k) (kseen k) (kst k)); omega)
        obtain ⟨v1, v2, v3, v4, v5⟩ := hP2.refs hF hO
        obtain ⟨u1, u2, u3, u4, u5⟩ := hP3.refs hF hO
        rw [upd_1] at hP3
        have hd2 : gI s2 310 1 = Int32.ofNat (kd k - 1) := by rw [hM3.hand a2, gI_pI, if_pos ⟨rfl, rfl⟩]
        have hn2 : Int32.ofNat (kd k - 1) + Int32.ofNat 1 = Int32.ofNat (kd k) := by rw [n32_add]; congr 1; omega
        refine ⟨pI s2 310 1 (Int32.ofNat (kd k)), ?_, hP3.hand hO (by decide), ?_, ((CN.pI).tr (CN.cl hM3 a2)).tr CN.pI, fun j => by rw [gI_pI, if_neg (by omega), hM3.2.1 _ _ (by unfold pC; omega), gI_pI, if_neg (by omega), gI_pJ]⟩
        · have hgt : (Int64.ofNat dp ≤ Int64.ofNat 0) = False := by
            rw [n64_le (by omega) (by decide)]
            exact eq_false (by omega)
          have h2' : gI (pJ s 314 p (Int64.ofNat (dr p + dp))) 310 1 = Int32.ofNat (kd k) := h2
          simp (disch := first | exact jm_lt0 | (apply jm_ltx; (repeat (first | exact jw_0 | apply jw_i | apply jw_r | apply jw_l)); omega) | omega | assumption | exact sa_307 | exact sa_310 | exact n32_inA sb_307 (by omega) (by omega) | exact n32_inA sb_310 (by omega) (by omega) | (refine n32_inA (by assumption) ?_ ?_ <;> omega) | exact bi01 | (rw [sa_307]; omega) | (rw [sa_310]; omega) | decide) only [sX7_drink_0, sX7_drink_1, sX7_drink_4, sX7_drink_7, sX7_drink_8, sX7_drink_11, sX7_drink_14, sX7_drink_15, sX7_drink_17, sX7_drink_19, sX7_drink_22, sX7_drink_23, sX7_drink_26, sX7_drink_27, sX7_drink_30, sX7_drink_33, sX7_drink_34, sX7_drink_37, sX7_drink_38, sX7_drink_39, sX7_drink_40, sX7_drink_43, sX7_drink_46, sX7_drink_47, sX7_drink_48, sX7_drink_50, sX7_drink_51, sX7_drink_52, sX7_drink_54, sX7_drink_55, sX7_drink_58, sX7_drink_59, sX7_drink_61, sX7_drink_64, sX7_drink_65, sX7_drink_68, sX7_drink_69, sX7_drink_70, sX7_drink_71, sX7_drink_73, sX7_drink_74, kX7_drink_75_AIJNIJN, sX7_drink_75, sX7_drink_77, sX7_drink_78, sX7_drink_79, sX7_drink_82, sX7_drink_83, sX7_drink_86, sX7_drink_87, sX7_drink_90, sX7_drink_91, sX7_drink_92, sX7_drink_95, sX7_drink_96, sX7_drink_99, sX7_drink_100, sX7_drink_103, sX7_drink_106, sX7_drink_108, sX7_drink_111, sX7_drink_112, sX7_drink_115, sX7_drink_116, sX7_drink_119, sX7_drink_120, sX7_drink_121, sX7_drink_125, sX7_drink_127, sX7_drink_128, sX7_drink_131, sX7_drink_132, sX7_drink_135, sX7_drink_136, sX7_drink_139, sX7_drink_140, sX7_drink_141, sX7_drink_144, sX7_drink_145, sX7_drink_148, sX7_drink_149, sX7_drink_152, sX7_drink_155, sX7_drink_156, sX7_drink_158, sX7_drink_159, kX7_drink_162_ANJNNJN, sX7_drink_162, evK_n, evK_v, if_true, if_false, not_true_eq_false, not_false_eq_true, and_true, true_and, and_false, false_and, and_self, or_true, true_or, or_false, false_or, or_self, ne_eq, Decidable.not_not, Nat.reduceEqDiff, Nat.reduceEqDiff, sa_307, sb_307, sa_310, sb_310, n64_cle, hgt, w4, h2', hn1, v3, v4, e1, e2, u4, hd2, hn2]
        · exact ⟨by rw [gI_pI, if_neg (by omega), hM3.hand a2, h7.1], by simp [gI_pI], by rw [gI_pI, if_neg (by omega), hM3.hand a2, h7.2.2.1], by rw [gI_pI, if_neg (by omega), hM3.hand a2, h7.2.2.2.1], by rw [gI_pI, if_neg (by omega), hM3.hand a2, h7.2.2.2.2]⟩
    obtain ⟨s2, eA, hPA, hNA, hCA, h3A⟩ := stepA
    obtain ⟨b1, b2, b3, b4, b5⟩ := hPA.refs hF hO
    obtain ⟨n1, n2, n3, n4, n5⟩ := id hNA
    have htal : ∀ τ, addF F [(nm (kc k) (kd k - 1) (kcard k) (kseen k) (kst k), dp)] τ ≤ ONE + dp := fun τ => by
      unfold addF
      rw [tal_cons, tal_nil]
      have := hFb τ
      split <;> omega
    have pre : ev g (d + 1) mX7_drink 0 [some (.ref (307 : Nat)), some (.int (Int32.ofNat p)), some (.long (Int64.ofNat a)), none, none, none, none] [] s = ev g (d + 1) mX7_drink 75 [some (.ref (307 : Nat)), none, some (.long (Int64.ofNat a)), none, none, some (.long (Int64.ofNat dp)), none] [] (pJ s 314 p (Int64.ofNat (dr p + dp))) := by
      simp (disch := first | exact jm_lt0 | (apply jm_ltx; (repeat (first | exact jw_0 | apply jw_i | apply jw_r | apply jw_l)); omega) | omega | assumption | exact sa_307 | exact sa_310 | exact sa_314 | exact n32_inA sb_307 (by omega) (by omega) | exact n32_inA sb_310 (by omega) (by omega) | exact n32_inA sb_314 (by omega) (by omega) | (refine n32_inA (by assumption) ?_ ?_ <;> omega) | exact bi01 | (rw [sa_307]; omega) | (rw [sa_310]; omega) | (rw [sa_314]; omega) | decide) only [sX7_drink_0, sX7_drink_1, sX7_drink_4, sX7_drink_7, sX7_drink_8, sX7_drink_11, sX7_drink_14, sX7_drink_15, sX7_drink_17, sX7_drink_19, sX7_drink_22, sX7_drink_23, sX7_drink_26, sX7_drink_27, sX7_drink_30, sX7_drink_33, sX7_drink_34, sX7_drink_37, sX7_drink_38, sX7_drink_39, sX7_drink_40, sX7_drink_43, sX7_drink_46, sX7_drink_47, sX7_drink_48, sX7_drink_50, sX7_drink_51, sX7_drink_52, sX7_drink_54, sX7_drink_55, sX7_drink_58, sX7_drink_59, sX7_drink_61, sX7_drink_64, sX7_drink_65, sX7_drink_68, sX7_drink_69, sX7_drink_70, sX7_drink_71, sX7_drink_73, sX7_drink_74, kX7_drink_75_AIJNIJN, sX7_drink_77, sX7_drink_78, sX7_drink_79, sX7_drink_82, sX7_drink_83, sX7_drink_86, sX7_drink_87, sX7_drink_90, sX7_drink_91, sX7_drink_92, sX7_drink_95, sX7_drink_96, sX7_drink_99, sX7_drink_100, sX7_drink_103, sX7_drink_106, sX7_drink_108, sX7_drink_111, sX7_drink_112, sX7_drink_115, sX7_drink_116, sX7_drink_119, sX7_drink_120, sX7_drink_121, sX7_drink_124, sX7_drink_125, sX7_drink_127, sX7_drink_128, sX7_drink_131, sX7_drink_132, sX7_drink_135, sX7_drink_136, sX7_drink_139, sX7_drink_140, sX7_drink_141, sX7_drink_144, sX7_drink_145, sX7_drink_148, sX7_drink_149, sX7_drink_152, sX7_drink_155, sX7_drink_156, sX7_drink_158, sX7_drink_159, kX7_drink_162_ANJNNJN, sX7_drink_162, evK_n, evK_v, evK_x, gI_pI, gJ_pI, gR_pI, gI_pJ, gJ_pJ, gR_pJ, gI_pR, gJ_pR, gR_pR, n32_le, n32_lt, n32_add, n32_mul, n32_cl, if_true, if_false, not_true_eq_false, not_false_eq_true, and_true, true_and, and_false, false_and, and_self, or_true, true_or, or_false, false_or, or_self, ne_eq, Decidable.not_not, Nat.reduceEqDiff, Nat.reduceEqDiff, sa_307, sb_307, sa_310, sb_310, sa_314, sb_314, y4, h1, h2, hpos, n32_64, n64_mul, q1, hz, n32_lt0, n6, r4, q2]
    by_cases ca : dp = a
    · subst ca
      refine ⟨s2, ?_, ?_, hT1.cn hCA, h3A⟩
      · rw [pre, eA]
        simp (disch := first | exact jm_lt0 | (apply jm_ltx; (repeat (first | exact jw_0 | apply jw_i | apply jw_r | apply jw_l)); omega) | omega | assumption | exact sa_307 | exact sa_310 | exact n32_inA sb_307 (by omega) (by omega) | exact n32_inA sb_310 (by omega) (by omega) | (refine n32_inA (by assumption) ?_ ?_ <;> omega) | exact bi01 | (rw [sa_307]; omega) | (rw [sa_310]; omega) | decide) only [sX7_drink_0, sX7_drink_1, sX7_drink_4, sX7_drink_7, sX7_drink_8, sX7_drink_11, sX7_drink_14, sX7_drink_15, sX7_drink_17, sX7_drink_19, sX7_drink_22, sX7_drink_23, sX7_drink_26, sX7_drink_27, sX7_drink_30, sX7_drink_33, sX7_drink_34, sX7_drink_37, sX7_drink_38, sX7_drink_39, sX7_drink_40, sX7_drink_43, sX7_drink_46, sX7_drink_47, sX7_drink_48, sX7_drink_50, sX7_drink_51, sX7_drink_52, sX7_drink_54, sX7_drink_55, sX7_drink_58, sX7_drink_59, sX7_drink_61, sX7_drink_64, sX7_drink_65, sX7_drink_68, sX7_drink_69, sX7_drink_70, sX7_drink_71, sX7_drink_73, sX7_drink_74, kX7_drink_75_AIJNIJN, sX7_drink_75, sX7_drink_77, sX7_drink_78, sX7_drink_79, sX7_drink_82, sX7_drink_83, sX7_drink_86, sX7_drink_87, sX7_drink_90, sX7_drink_91, sX7_drink_92, sX7_drink_95, sX7_drink_96, sX7_drink_99, sX7_drink_100, sX7_drink_103, sX7_drink_106, sX7_drink_108, sX7_drink_111, sX7_drink_112, sX7_drink_115, sX7_drink_116, sX7_drink_119, sX7_drink_120, sX7_drink_121, sX7_drink_124, sX7_drink_125, sX7_drink_127, sX7_drink_128, sX7_drink_131, sX7_drink_132, sX7_drink_135, sX7_drink_136, sX7_drink_139, sX7_drink_140, sX7_drink_141, sX7_drink_144, sX7_drink_145, sX7_drink_148, sX7_drink_149, sX7_drink_152, sX7_drink_155, sX7_drink_156, sX7_drink_158, sX7_drink_159, kX7_drink_162_ANJNNJN, sX7_drink_162, evK_n, evK_v, evK_x, gI_pI, gJ_pI, gR_pI, gI_pJ, gJ_pJ, gR_pJ, gI_pR, gJ_pR, gR_pR, n32_le, n32_lt, n32_add, n32_mul, n32_cl, if_true, if_false, not_true_eq_false, not_false_eq_true, and_true, true_and, and_false, false_and, and_self, or_true, true_or, or_false, false_or, or_self, ne_eq, Decidable.not_not, Nat.reduceEqDiff, Nat.reduceEqDiff, sa_307, sb_307, sa_310, sb_310, n64_cle, show (Int64.ofNat dp ≤ Int64.ofNat dp) = True from eq_true (Int64.le_refl _)]
      · have : ∀ x y, addF F [(x, dp), (y, dp - dp)] = addF F [(x, dp)] := fun x y => by
          rw [Nat.sub_self]
          have := addF_upd (F := F) (acc := [(x, dp)]) (k := y) (m := 0)
          rw [updD_0] at this
          exact this.symm
        rw [this]
        exact hPA
    · have hc1 : 1 ≤ kc k := by
        rcases Nat.eq_zero_or_pos (kc k) with h0 | h0
        · exact absurd (hcc h0) ca
        · exact h0
      have hP2 := hPA.hand hO (j := 0) (v := Int32.ofNat (kc k - 1)) (by decide)
      have hn1 : Int32.ofNat (kc k) - Int32.ofNat 1 = Int32.ofNat (kc k - 1) := n32_sub hc1
      have h7 : HN5 (pI s2 310 0 (Int32.ofNat (kc k - 1))) 310 (kc k - 1) (kd k) (kcard k) (kseen k) (kst k) := ⟨by simp [gI_pI], by simp [gI_pI, n2], by simp [gI_pI, n3], by simp [gI_pI, n4], by simp [gI_pI, n5]⟩
      have e1 := c1_numberOf (g := g) (d := d) (by decide) h7 (by omega)
      obtain ⟨s4, e2, hP3, hM3⟩ := hP2.add (g := g) (d := d) (k := nm (kc k - 1) (kd k) (kcard k) (kseen k) (kst k)) (m := a - dp) hF hO (nm_lt (by omega) kl1 kl2 kl3) (by have := htal (nm (kc k - 1) (kd k) (kcard k) (kseen k) (kst k)); omega)
      obtain ⟨v1, v2, v3, v4, v5⟩ := hP2.refs hF hO
      rw [addF_upd] at hP3
      refine ⟨s4, ?_, hP3, hT1.cn ((hCA.tr CN.pI).tr (CN.cl hM3 a2)), fun j => by rw [hM3.2.1 _ _ (by unfold pC; omega), gI_pI, if_neg (by omega), h3A]⟩
      have hgt : (Int64.ofNat a ≤ Int64.ofNat dp) = False := by
        rw [n64_le (by omega) (by omega)]
        exact eq_false (by omega)
      rw [pre, eA]
      simp (disch := first | exact jm_lt0 | (apply jm_ltx; (repeat (first | exact jw_0 | apply jw_i | apply jw_r | apply jw_l)); omega) | omega | assumption | exact sa_307 | exact sa_310 | exact n32_inA sb_307 (by omega) (by omega) | exact n32_inA sb_310 (by omega) (by omega) | (refine n32_inA (by assumption) ?_ ?_ <;> omega) | exact bi01 | (rw [sa_307]; omega) | (rw [sa_310]; omega) | decide) only [sX7_drink_0, sX7_drink_1, sX7_drink_4, sX7_drink_7, sX7_drink_8, sX7_drink_11, sX7_drink_14, sX7_drink_15, sX7_drink_17, sX7_drink_19, sX7_drink_22, sX7_drink_23, sX7_drink_26, sX7_drink_27, sX7_drink_30, sX7_drink_33, sX7_drink_34, sX7_drink_37, sX7_drink_38, sX7_drink_39, sX7_drink_40, sX7_drink_43, sX7_drink_46, sX7_drink_47, sX7_drink_48, sX7_drink_50, sX7_drink_51, sX7_drink_52, sX7_drink_54, sX7_drink_55, sX7_drink_58, sX7_drink_59, sX7_drink_61, sX7_drink_64, sX7_drink_65, sX7_drink_68, sX7_drink_69, sX7_drink_70, sX7_drink_71, sX7_drink_73, sX7_drink_74, kX7_drink_75_AIJNIJN, sX7_drink_75, sX7_drink_77, sX7_drink_78, sX7_drink_79, sX7_drink_82, sX7_drink_83, sX7_drink_86, sX7_drink_87, sX7_drink_90, sX7_drink_91, sX7_drink_92, sX7_drink_95, sX7_drink_96, sX7_drink_99, sX7_drink_100, sX7_drink_103, sX7_drink_106, sX7_drink_108, sX7_drink_111, sX7_drink_112, sX7_drink_115, sX7_drink_116, sX7_drink_119, sX7_drink_120, sX7_drink_121, sX7_drink_124, sX7_drink_125, sX7_drink_127, sX7_drink_128, sX7_drink_131, sX7_drink_132, sX7_drink_135, sX7_drink_136, sX7_drink_139, sX7_drink_140, sX7_drink_141, sX7_drink_144, sX7_drink_145, sX7_drink_148, sX7_drink_149, sX7_drink_152, sX7_drink_155, sX7_drink_156, sX7_drink_158, sX7_drink_159, kX7_drink_162_ANJNNJN, sX7_drink_162, evK_n, evK_v, evK_x, gI_pI, gJ_pI, gR_pI, gI_pJ, gJ_pJ, gR_pJ, gI_pR, gJ_pR, gR_pR, n32_le, n32_lt, n32_add, n32_mul, n32_cl, if_true, if_false, not_true_eq_false, not_false_eq_true, and_true, true_and, and_false, false_and, and_self, or_true, true_or, or_false, false_or, or_self, ne_eq, Decidable.not_not, Nat.reduceEqDiff, Nat.reduceEqDiff, sa_307, sb_307, sa_310, sb_310, n64_cle, hgt, b4, n1, hn1, v3, v4, e1, e2, q3]
end AC
