/-! the class: a STEP of all parts -/
theorem c5_actOf {g : fm_g} {d h i : Nat} {b : HB} {s : fm_S} (hF : FX s) (hh : h ∈ hbL) (hb : hOK b) (hC : HC s h b) (hi : i < hbm b) : ev g d mX5_actOf 0 [some (.ref h), some (.int (Int32.ofNat i))] [] s = some (.inl (some (.int (Int32.ofNat (hbA b i)))), s) := by
  obtain ⟨r1, r2, r3, r4, r5, r7⟩ := hR_of hF hh
  obtain ⟨a1, b1, b1', b2, b2', b3, b3', b4, b4', b5, b5', b6, b6'⟩ := hS_of hh
  have hm := hb.1
  have n1 : ¬ 8 ≤ i := by omega
  have n2 : i < 8 := by omega
  have e1 := (hC.2.2.1 i hi).1
  simp (disch := first | exact jm_lt0 | (apply jm_ltx; (repeat (first | exact jw_0 | apply jw_i | apply jw_r | apply jw_l)); omega) | omega | assumption | (refine n32_inA (by assumption) ?_ ?_ <;> omega) | exact bi01 | decide) only [sX5_actOf_0, sX5_actOf_1, sX5_actOf_4, sX5_actOf_5, sX5_actOf_7, sX5_actOf_10, sX5_actOf_11, sX5_actOf_14, sX5_actOf_15, sX5_actOf_16, kX5_actOf_19_AI, sX5_actOf_19, kX5_actOf_20_AI, sX5_actOf_20, evK_n, evK_v, evK_x, gI_pI, gJ_pI, gR_pI, gI_pJ, gJ_pJ, gR_pJ, gI_pR, gJ_pR, gR_pR, n32_le, n32_lt, n32_add, n32_mul, n32_cl, if_true, if_false, not_true_eq_false, not_false_eq_true, and_true, true_and, and_false, false_and, and_self, or_true, true_or, or_false, false_or, or_self, ne_eq, Decidable.not_not, Nat.reduceEqDiff, Nat.reduceEqDiff, n32_lt0, r1, n1, n2, e1]
theorem c5_oddsOf {g : fm_g} {d h i : Nat} {b : HB} {s : fm_S} (hF : FX s) (hh : h ∈ hbL) (hb : hOK b) (hC : HC s h b) (hi : i < hbm b) : ev g d mX5_oddsOf 0 [some (.ref h), some (.int (Int32.ofNat i))] [] s = some (.inl (some (.int (Int32.ofNat (hbQ b i)))), s) := by
  obtain ⟨r1, r2, r3, r4, r5, r7⟩ := hR_of hF hh
  obtain ⟨a1, b1, b1', b2, b2', b3, b3', b4, b4', b5, b5', b6, b6'⟩ := hS_of hh
  have hm := hb.1
  have n1 : ¬ 8 ≤ i := by omega
  have n2 : i < 8 := by omega
  have e1 := (hC.2.2.1 i hi).2.1
  simp (disch := first | exact jm_lt0 | (apply jm_ltx; (repeat (first | exact jw_0 | apply jw_i | apply jw_r | apply jw_l)); omega) | omega | assumption | (refine n32_inA (by assumption) ?_ ?_ <;> omega) | exact bi01 | decide) only [sX5_oddsOf_0, sX5_oddsOf_1, sX5_oddsOf_4, sX5_oddsOf_5, sX5_oddsOf_7, sX5_oddsOf_10, sX5_oddsOf_11, sX5_oddsOf_14, sX5_oddsOf_15, sX5_oddsOf_16, kX5_oddsOf_19_AI, sX5_oddsOf_19, kX5_oddsOf_20_AI, sX5_oddsOf_20, evK_n, evK_v, evK_x, gI_pI, gJ_pI, gR_pI, gI_pJ, gJ_pJ, gR_pJ, gI_pR, gJ_pR, gR_pR, n32_le, n32_lt, n32_add, n32_mul, n32_cl, if_true, if_false, not_true_eq_false, not_false_eq_true, and_true, true_and, and_false, false_and, and_self, or_true, true_or, or_false, false_or, or_self, ne_eq, Decidable.not_not, Nat.reduceEqDiff, Nat.reduceEqDiff, n32_lt0, r2, n1, n2, e1]
theorem addP_add {dr : Nat → Nat} {p x y : Nat} : addP (addP dr p x) p y = addP dr p (x + y) := by
  funext j
  unfold addP
  by_cases c : j = p
  · simp only [if_pos c]; omega
  · simp only [if_neg c]
theorem addF_zero {F : Nat → Nat} {acc : List (Nat × Nat)} (h : amt acc = 0) : addF F acc = F := by
  funext τ
  unfold addF
  have := tal_le (acc := acc) (τ := τ)
  omega
/-- what a STEP counts of a state's parts -/
def gD (so : Nat → Bool) (act q : Nat) (D : Nat → Nat) (k : Nat) : Nat := if act = 1 then aOf so q k (D k) * kd k / (kc k + kd k) else 0
def gW (so : Nat → Bool) (act q : Nat) (D : Nat → Nat) (k : Nat) : Nat := if act = 3 then aOf so q k (D k) * kc k else 0
def gL (so : Nat → Bool) (act q : Nat) (D : Nat → Nat) (k : Nat) : Nat := if act = 2 then aOf so q k (D k) else 0
theorem gDWL_0 {so : Nat → Bool} {act q k : Nat} {D : Nat → Nat} (h : D k = 0) : gD so act q D k = 0 ∧ gW so act q D k = 0 ∧ gL so act q D k = 0 := by
  unfold gD gW gL
  rw [h, aOf_0]
  simp
section DS
variable {s0 : fm_S} {A A' : Nat} {l : List Nat} {D : Nat → Nat}
theorem sum_all (hW : WB s0 A A' l D) {f : Nat → Nat} (hf : ∀ k, D k = 0 → f k = 0) : sumL f l = sumN f NS := by
  obtain ⟨-, -, -, hC, -, -⟩ := hW
  refine sumL_all hC.2.1 hC.2.2.1 (fun k hk hn => hf k ?_)
  rcases Nat.eq_zero_or_pos (D k) with h0 | h0
  · exact h0
  · exact absurd ((hC.2.2.2.2 k hk).2.2.mpr (by omega)) hn
theorem sumL_tk {f : Nat → Nat} {l : List Nat} {i k : Nat} (h : l[i]? = some k) : sumL f (l.take (i + 1)) = sumL f (l.take i) + f k := by
  obtain ⟨h1, h2⟩ := List.getElem?_eq_some_iff.mp h
  rw [sumL_take h1, h2]
def soB (w : WD) (v h i : Nat) : Nat → Bool := fun k => cnd (wH w h) i (wX w v k)
theorem c7_stepLoop {g : fm_g} {d v h i p see asks : Nat} {w : WD} {dr : Nat → Nat} {wa lo : Nat} (hW : WB s0 A A' l D) (hE : HE s0 310 w v) (hCW : CW s0 w) (hw : wOK w) (hv : v < 24) (hh : h < 7) (hi : i < hbm (wH w h)) (hp : p < 6) (h11 : gI s0 307 11 = Int32.ofNat see) (hs : see ≤ 16) (hsup : ∀ k, k < NS → D k ≠ 0 → kst k ≤ v + 1) (hask : asks = 0 ∧ hbF (wH w h) i = hbZ (wH w h) i ∨ asks = 1) : ∀ (m j : Nat) (s : fm_S), j + m = l.length → PS s0 s A A' l D (prt (cStep (soB w v h i) (wT w 0) see (hbA (wH w h) i) (hbQ (wH w h) i) v) D l j) → CT3 s (addP dr p (sumL (gD (soB w v h i) (hbA (wH w h) i) (hbQ (wH w h) i) D) (l.take j))) (wa + sumL (gW (soB w v h i) (hbA (wH w h) i) (hbQ (wH w h) i) D) (l.take j)) (lo + sumL (gL (soB w v h i) (hbA (wH w h) i) (hbQ (wH w h) i) D) (l.take j)) → (asks = 1 → MEM s w v (wH w h) i) → ∃ s', ev g (d + 3) mX7_doStep 39 [some (.ref (307 : Nat)), some (.ref (hcl h)), some (.int (Int32.ofNat i)), some (.int (Int32.ofNat p)), some (.int (Int32.ofNat asks)), some (.int (Int32.ofNat (if hbQ (wH w h) i = 0 then 16 else hbQ (wH w h) i))), some (.int (Int32.ofNat j)), none, none, none, none] [] s = some (.inl none, s') ∧ RM pO qO rsw s0 s' ∧ OS s' (pas (cStep (soB w v h i) (wT w 0) see (hbA (wH w h) i) (hbQ (wH w h) i) v) D) ∧ CT3 s' (addP dr p (sumN (gD (soB w v h i) (hbA (wH w h) i) (hbQ (wH w h) i) D) NS)) (wa + sumN (gW (soB w v h i) (hbA (wH w h) i) (hbQ (wH w h) i) D) NS) (lo + sumN (gL (soB w v h i) (hbA (wH w h) i) (hbQ (wH w h) i) D) NS) := by
  obtain ⟨hF, hO, hB, hC, hC', hS⟩ := id hW
  obtain ⟨a1, a2, a3⟩ := od_A hO
  have sA : (shp A).1 = 1 := (clS hO.2.2.1).1
  have sA' : (shp A').1 = 1 := (clS hO.2.2.2.1).1
  have hhL := hcl_in hh
  have sH : (shp (hcl h)).1 = 5 := (hS_of hhL).1
  have hB2 : BIG = 4611686018427387904 := rfl
  have hO2 : ONE = 1099511627776 := rfl
  have hlen := hC.len
  have hOK1 := hw.2.2.2.2.1 h hh
  obtain ⟨t1, t2, -⟩ := hw.1
  obtain ⟨o1, o2, o3, o4⟩ := id hOK1
  obtain ⟨p1, p2, p3, p4, p5⟩ := o4 i hi
  generalize hso : soB w v h i = so
  have hsoE : ∀ k, so k = cnd (wH w h) i (wX w v k) := fun k => by rw [← hso]; rfl
  generalize hqq : hbQ (wH w h) i = q at p2 ⊢
  generalize hact : hbA (wH w h) i = act at p1 ⊢
  have hamt : ∀ k, k < NS → amt (cStep so (wT w 0) see act q v k (D k)) ≤ D k := fun k hk => Nat.le_of_eq (cStep_ok (by omega) hs p2 hv k (D k) hk trivial).1
  intro m
  induction m with
  | zero =>
    intro j s hj hP hT hM
    have hil : j = l.length := by omega
    subst hil
    obtain ⟨x1, x2, x3, x4, x5⟩ := hP.refs hF hO
    obtain ⟨s', f1, f2, f3, f4, f5⟩ := hP.goOn (g := g) (d := d + 1) hF hO
    refine ⟨s', ?_, f2, by rw [← hW.fin (fun k hk => cStep_0 (by omega) hs hv hk)]; exact f3, ?_⟩
    · rw [sX7_doStep_39]
      simp (disch := first | exact jm_lt0 | (apply jm_ltx; (repeat (first | exact jw_0 | apply jw_i | apply jw_r | apply jw_l)); omega) | omega | assumption | exact sa_307 | exact n32_inA sb_307 (by omega) (by omega) | (refine n32_inA (by assumption) ?_ ?_ <;> omega) | exact bi01 | (rw [sa_307]; omega) | decide) only [sX7_doStep_0, sX7_doStep_1, sX7_doStep_2, sX7_doStep_5, sX7_doStep_7, sX7_doStep_8, sX7_doStep_9, sX7_doStep_12, sX7_doStep_15, sX7_doStep_17, sX7_doStep_20, sX7_doStep_21, sX7_doStep_22, sX7_doStep_25, sX7_doStep_27, sX7_doStep_29, sX7_doStep_32, sX7_doStep_33, sX7_doStep_36, sX7_doStep_37, sX7_doStep_41, sX7_doStep_42, sX7_doStep_45, sX7_doStep_48, sX7_doStep_51, sX7_doStep_52, sX7_doStep_54, sX7_doStep_57, sX7_doStep_59, sX7_doStep_61, sX7_doStep_64, sX7_doStep_65, sX7_doStep_66, sX7_doStep_67, sX7_doStep_70, sX7_doStep_73, sX7_doStep_75, sX7_doStep_77, sX7_doStep_78, sX7_doStep_79, sX7_doStep_82, sX7_doStep_83, sX7_doStep_86, sX7_doStep_87, sX7_doStep_89, sX7_doStep_90, sX7_doStep_93, sX7_doStep_94, sX7_doStep_97, sX7_doStep_99, sX7_doStep_102, sX7_doStep_104, sX7_doStep_106, sX7_doStep_107, sX7_doStep_110, sX7_doStep_112, sX7_doStep_113, sX7_doStep_114, sX7_doStep_117, sX7_doStep_118, sX7_doStep_119, sX7_doStep_120, sX7_doStep_123, sX7_doStep_124, sX7_doStep_126, kX7_doStep_129_AAIIIIIJNJN, sX7_doStep_129, sX7_doStep_132, kX7_doStep_135_AAIIIIINNNN, sX7_doStep_135, sX7_doStep_136, sX7_doStep_139, evK_n, evK_v, evK_x, gI_pI, gJ_pI, gR_pI, gI_pJ, gJ_pJ, gR_pJ, gI_pR, gJ_pR, gR_pR, n32_le, n32_lt, n32_add, n32_mul, n32_cl, if_true, if_false, not_true_eq_false, not_false_eq_true, and_true, true_and, and_false, false_and, and_self, or_true, true_or, or_false, false_or, or_self, ne_eq, Decidable.not_not, Nat.reduceEqDiff, Nat.reduceEqDiff, sa_307, sb_307, x2, x5]
      rw [if_pos (by omega), f1, evK_n, sX7_doStep_139]
    · rw [List.take_length, sum_all hW (fun k hk => (gDWL_0 hk).1), sum_all hW (fun k hk => (gDWL_0 hk).2.1), sum_all hW (fun k hk => (gDWL_0 hk).2.2)] at hT
      exact hT.cn ⟨f4, f5⟩
  | succ m ih =>
    intro j s hj hP hT hM
    have hil : j < l.length := by omega
    have hik : l[j]? = some l[j] := List.getElem?_eq_getElem hil
    generalize l[j] = k at hik
    obtain ⟨hk, hDk⟩ := hW.it hik
    have hD0 : D k ≠ 0 := (hC.2.2.2.2 k hk).2.2.mp (List.mem_of_getElem? hik)
    have hst := hsup k hk hD0
    obtain ⟨x1, x2, x3, x4, x5⟩ := hP.refs hF hO
    have hpl := hW.pr hamt j
    -- the state in hand
    obtain ⟨s1, e1, hP1, hN1, hM1⟩ := hP.load (g := g) (d := d) hF hO hB hik
    have hT1 := hT.cn (CN.h hM1)
    have hMem1 : asks = 1 → MEM s1 w v (wH w h) i := fun ha k' hk' => by rw [hM1.2.1 _ _ (by unfold pH; omega)]; exact hM ha k' hk'
    -- how many act
    have stepA : ∃ s2, ev g (d + 3) mX7_doStep 59 [some (.ref (307 : Nat)), some (.ref (hcl h)), some (.int (Int32.ofNat i)), some (.int (Int32.ofNat p)), some (.int (Int32.ofNat asks)), some (.int (Int32.ofNat (if q = 0 then 16 else q))), some (.int (Int32.ofNat j)), some (.long (Int64.ofNat (D k))), none, none, none] [] s1 = ev g (d + 3) mX7_doStep 89 [some (.ref (307 : Nat)), some (.ref (hcl h)), some (.int (Int32.ofNat i)), some (.int (Int32.ofNat p)), some (.int (Int32.ofNat asks)), some (.int (Int32.ofNat (if q = 0 then 16 else q))), some (.int (Int32.ofNat j)), some (.long (Int64.ofNat (D k))), none, some (.long (Int64.ofNat (aOf so q k (D k)))), none] [] s2 ∧ PS s0 s2 A A' l D (prt (cStep so (wT w 0) see act q v) D l j) ∧ HN s2 310 k ∧ CN s1 s2 ∧ (asks = 1 → MEM s2 w v (wH w h) i) := by
      have hq1 : Int64.ofNat (D k) * Int64.ofNat (if q = 0 then 16 else q) / Int64.ofNat 16 = Int64.ofNat (if q = 0 then D k else D k * q / 16) := by
        rw [lp_q hDk (by split <;> omega)]
        congr 1
        split
        · omega
        · rfl
      have hq2 : Int64.ofNat (D k * (if q = 0 then 16 else q)) / Int64.ofNat 16 = Int64.ofNat (if q = 0 then D k else D k * q / 16) := by rw [← n64_mul, hq1]
      have hq3 : (Int32.ofNat (if q = 0 then 16 else q)).toInt64 = Int64.ofNat (if q = 0 then 16 else q) := n32_64 (by split <;> omega)
      rcases hask with ⟨h0, hFZ⟩ | h1
      · subst h0
        have hso1 : so k = true := by rw [hsoE]; unfold cnd; rw [if_pos hFZ]
        have ha : aOf so q k (D k) = if q = 0 then D k else D k * q / 16 := by unfold aOf; rw [if_pos hso1]
        refine ⟨s1, ?_, hP1, hN1, CN.rf, fun h => absurd h (by decide)⟩
        rw [ha]
        simp (disch := first | exact jm_lt0 | (apply jm_ltx; (repeat (first | exact jw_0 | apply jw_i | apply jw_r | apply jw_l)); omega) | omega | assumption | exact sa_307 | exact n32_inA sb_307 (by omega) (by omega) | (refine n32_inA (by assumption) ?_ ?_ <;> omega) | exact bi01 | (rw [sa_307]; omega) | decide) only [sX7_doStep_0, sX7_doStep_1, sX7_doStep_2, sX7_doStep_5, sX7_doStep_7, sX7_doStep_8, sX7_doStep_9, sX7_doStep_12, sX7_doStep_15, sX7_doStep_17, sX7_doStep_20, sX7_doStep_21, sX7_doStep_22, sX7_doStep_25, sX7_doStep_27, sX7_doStep_29, sX7_doStep_32, sX7_doStep_33, sX7_doStep_36, sX7_doStep_37, sX7_doStep_41, sX7_doStep_42, sX7_doStep_45, sX7_doStep_48, sX7_doStep_51, sX7_doStep_52, sX7_doStep_54, sX7_doStep_57, sX7_doStep_59, sX7_doStep_61, sX7_doStep_64, sX7_doStep_65, sX7_doStep_66, sX7_doStep_67, sX7_doStep_70, sX7_doStep_73, sX7_doStep_75, sX7_doStep_77, sX7_doStep_78, sX7_doStep_79, sX7_doStep_82, sX7_doStep_83, sX7_doStep_86, sX7_doStep_87, sX7_doStep_90, sX7_doStep_93, sX7_doStep_94, sX7_doStep_97, sX7_doStep_99, sX7_doStep_102, sX7_doStep_104, sX7_doStep_106, sX7_doStep_107, sX7_doStep_110, sX7_doStep_112, sX7_doStep_113, sX7_doStep_114, sX7_doStep_117, sX7_doStep_118, sX7_doStep_119, sX7_doStep_120, sX7_doStep_123, sX7_doStep_124, sX7_doStep_126, kX7_doStep_129_AAIIIIIJNJN, sX7_doStep_129, sX7_doStep_132, kX7_doStep_135_AAIIIIINNNN, sX7_doStep_135, sX7_doStep_136, sX7_doStep_139, evK_n, evK_v, evK_x, gI_pI, gJ_pI, gR_pI, gI_pJ, gJ_pJ, gR_pJ, gI_pR, gJ_pR, gR_pR, n32_le, n32_lt, n32_add, n32_mul, n32_cl, if_true, if_false, not_true_eq_false, not_false_eq_true, and_true, true_and, and_false, false_and, and_self, or_true, true_or, or_false, false_or, or_self, ne_eq, Decidable.not_not, Nat.reduceEqDiff, Nat.reduceEqDiff, z32, hq3, hq1, hq2, n64_mul, show ¬ (Int64.ofNat 16 = 0) by decide, ne_eq]
      · subst h1
        have hE1 : HE s1 310 w v := hE.of hP1.1.2.1
        have hCW1 : CW s1 w := hCW.of hw (fun b j hb => hP1.1.2.1 b j (fun q => hb (pO_TC q)))
        obtain ⟨s2, e2, hM2, hMm⟩ := c7_isSo (g := g) (d := d) (hP1.1.fx hF) hw hh (hCW1.2.2.2.1 h hh) hi hE1 hN1 hk hv hst (hMem1 rfl)
        have hP2 : PS s0 s2 A A' l D (prt (cStep so (wT w 0) see act q v) D l j) := by
          obtain ⟨w1, w2, l', w3⟩ := hP1
          refine ⟨w1.tr (hM2.mono (fun b j q => by unfold pI3 at q; unfold pO; rcases q with q | q | q; exact Or.inr (Or.inl q); exact Or.inr (Or.inr (Or.inl q)); exact Or.inr (Or.inr (Or.inr (Or.inr (Or.inr (Or.inr (Or.inr q))))))) (fun _ _ q => q.elim)), w2.of (hM2.2.1 _ _ (by unfold pI3 HSK; omega)) (fun j => hM2.2.1 _ _ (by unfold pI3 HSK; omega)) (fun j => hM2.2.2 _ _ (fun q => q)), l', w3.of (hM2.2.1 _ _ (by unfold pI3 HSK; omega)) (fun j => hM2.2.1 _ _ (by unfold pI3 HSK; omega)) (fun j => hM2.2.2 _ _ (fun q => q))⟩
        refine ⟨s2, ?_, hP2, hN1.of (fun j _ => hM2.2.1 _ _ (by unfold pI3 HSK; omega)), CN.h hM2, fun _ => hMm⟩
        rw [← hsoE] at e2
        cases c : so k with
        | true =>
          rw [bi_t c] at e2
          have ha : aOf so q k (D k) = if q = 0 then D k else D k * q / 16 := by unfold aOf; rw [if_pos c]
          rw [ha]
          simp (disch := first | exact jm_lt0 | (apply jm_ltx; (repeat (first | exact jw_0 | apply jw_i | apply jw_r | apply jw_l)); omega) | omega | assumption | exact sa_307 | exact n32_inA sb_307 (by omega) (by omega) | (refine n32_inA (by assumption) ?_ ?_ <;> omega) | exact bi01 | (rw [sa_307]; omega) | decide) only [sX7_doStep_0, sX7_doStep_1, sX7_doStep_2, sX7_doStep_5, sX7_doStep_7, sX7_doStep_8, sX7_doStep_9, sX7_doStep_12, sX7_doStep_15, sX7_doStep_17, sX7_doStep_20, sX7_doStep_21, sX7_doStep_22, sX7_doStep_25, sX7_doStep_27, sX7_doStep_29, sX7_doStep_32, sX7_doStep_33, sX7_doStep_36, sX7_doStep_37, sX7_doStep_41, sX7_doStep_42, sX7_doStep_45, sX7_doStep_48, sX7_doStep_51, sX7_doStep_52, sX7_doStep_54, sX7_doStep_57, sX7_doStep_59, sX7_doStep_61, sX7_doStep_64, sX7_doStep_65, sX7_doStep_66, sX7_doStep_67, sX7_doStep_70, sX7_doStep_73, sX7_doStep_75, sX7_doStep_77, sX7_doStep_78, sX7_doStep_79, sX7_doStep_82, sX7_doStep_83, sX7_doStep_86, sX7_doStep_87, sX7_doStep_90, sX7_doStep_93, sX7_doStep_94, sX7_doStep_97, sX7_doStep_99, sX7_doStep_102, sX7_doStep_104, sX7_doStep_106, sX7_doStep_107, sX7_doStep_110, sX7_doStep_112, sX7_doStep_113, sX7_doStep_114, sX7_doStep_117, sX7_doStep_118, sX7_doStep_119, sX7_doStep_120, sX7_doStep_123, sX7_doStep_124, sX7_doStep_126, kX7_doStep_129_AAIIIIIJNJN, sX7_doStep_129, sX7_doStep_132, kX7_doStep_135_AAIIIIINNNN, sX7_doStep_135, sX7_doStep_136, sX7_doStep_139, evK_n, evK_v, evK_x, gI_pI, gJ_pI, gR_pI, gI_pJ, gJ_pJ, gR_pJ, gI_pR, gJ_pR, gR_pR, n32_le, n32_lt, n32_add, n32_mul, n32_cl, if_true, if_false, not_true_eq_false, not_false_eq_true, and_true, true_and, and_false, false_and, and_self, or_true, true_or, or_false, false_or, or_self, ne_eq, Decidable.not_not, Nat.reduceEqDiff, Nat.reduceEqDiff, e2, hq3, hq1, hq2, n64_mul, show ¬ (Int32.ofNat 1 = 0) by decide, show ¬ (Int64.ofNat 16 = 0) by decide, ne_eq]
        | false =>
          rw [bi_f (by rw [c]; decide)] at e2
          have ha : aOf so q k (D k) = 0 := by unfold aOf; rw [c]; rfl
          rw [ha]
          simp (disch := first | exact jm_lt0 | (apply jm_ltx; (repeat (first | exact jw_0 | apply jw_i | apply jw_r | apply jw_l)); omega) | omega | assumption | exact sa_307 | exact n32_inA sb_307 (by omega) (by omega) | (refine n32_inA (by assumption) ?_ ?_ <;> omega) | exact bi01 | (rw [sa_307]; omega) | decide) only [sX7_doStep_0, sX7_doStep_1, sX7_doStep_2, sX7_doStep_5, sX7_doStep_7, sX7_doStep_8, sX7_doStep_9, sX7_doStep_12, sX7_doStep_15, sX7_doStep_17, sX7_doStep_20, sX7_doStep_21, sX7_doStep_22, sX7_doStep_25, sX7_doStep_27, sX7_doStep_29, sX7_doStep_32, sX7_doStep_33, sX7_doStep_36, sX7_doStep_37, sX7_doStep_41, sX7_doStep_42, sX7_doStep_45, sX7_doStep_48, sX7_doStep_51, sX7_doStep_52, sX7_doStep_54, sX7_doStep_57, sX7_doStep_59, sX7_doStep_61, sX7_doStep_64, sX7_doStep_65, sX7_doStep_66, sX7_doStep_67, sX7_doStep_70, sX7_doStep_73, sX7_doStep_75, sX7_doStep_77, sX7_doStep_78, sX7_doStep_79, sX7_doStep_82, sX7_doStep_83, sX7_doStep_86, sX7_doStep_87, sX7_doStep_90, sX7_doStep_93, sX7_doStep_94, sX7_doStep_97, sX7_doStep_99, sX7_doStep_102, sX7_doStep_104, sX7_doStep_106, sX7_doStep_107, sX7_doStep_110, sX7_doStep_112, sX7_doStep_113, sX7_doStep_114, sX7_doStep_117, sX7_doStep_118, sX7_doStep_119, sX7_doStep_120, sX7_doStep_123, sX7_doStep_124, sX7_doStep_126, kX7_doStep_129_AAIIIIIJNJN, sX7_doStep_129, sX7_doStep_132, kX7_doStep_135_AAIIIIINNNN, sX7_doStep_135, sX7_doStep_136, sX7_doStep_139, evK_n, evK_v, evK_x, gI_pI, gJ_pI, gR_pI, gI_pJ, gJ_pJ, gR_pJ, gI_pR, gJ_pR, gR_pR, n32_le, n32_lt, n32_add, n32_mul, n32_cl, if_true, if_false, not_true_eq_false, not_false_eq_true, and_true, true_and, and_false, false_and, and_self, or_true, true_or, or_false, false_or, or_self, ne_eq, Decidable.not_not, Nat.reduceEqDiff, Nat.reduceEqDiff, e2, z32, show ¬ (Int32.ofNat 1 = 0) by decide, ne_eq]
    obtain ⟨s2, eA, hP2, hN2, hCN2, hMem2⟩ := stepA
    have hT2 := hT1.cn hCN2
    obtain ⟨z1, z2, z3, z4, z5⟩ := hP2.refs hF hO
    have hale := aOf_le (so := so) (k := k) (p := D k) p2
    have e3 := hP2.state (g := g) (d := d + 2) hF hO hik
    obtain ⟨s3, e4, hP3, hM3⟩ := hP2.add (g := g) (d := d + 2) (k := k) (m := D k - aOf so q k (D k)) hF hO hk (by have := hpl k; omega)
    rw [upd_1] at hP3
    have hT3 := hT2.cn (CN.cl hM3 a2)
    have hN3 : HN s3 310 k := hN2.of (fun j _ => hM3.hand a2 j)
    have hMem3 : asks = 1 → MEM s3 w v (wH w h) i := fun ha k' hk' => by rw [hM3.2.1 _ _ (by unfold pC; omega)]; exact hMem2 ha k' hk'
    have hq2 : Int64.ofNat (D k) - Int64.ofNat (aOf so q k (D k)) = Int64.ofNat (D k - aOf so q k (D k)) := n64_sub hale
    have hnext : addF (addF (prt (cStep so (wT w 0) see act q v) D l j) [(k, D k - aOf so q k (D k))]) (cAct (wT w 0) see act v k (aOf so q k (D k))) = prt (cStep so (wT w 0) see act q v) D l (j + 1) := by
      rw [prt_succ hik]
      funext τ
      unfold addF cStep
      rw [tal_cons, tal_cons, tal_nil]
      omega
    have g1 : ¬ l.length ≤ j := by omega
    have pre : ev g (d + 3) mX7_doStep 39 [some (.ref (307 : Nat)), some (.ref (hcl h)), some (.int (Int32.ofNat i)), some (.int (Int32.ofNat p)), some (.int (Int32.ofNat asks)), some (.int (Int32.ofNat (if q = 0 then 16 else q))), some (.int (Int32.ofNat j)), none, none, none, none] [] s = ev g (d + 3) mX7_doStep 110 [some (.ref (307 : Nat)), some (.ref (hcl h)), some (.int (Int32.ofNat i)), some (.int (Int32.ofNat p)), some (.int (Int32.ofNat asks)), some (.int (Int32.ofNat (if q = 0 then 16 else q))), some (.int (Int32.ofNat j)), some (.long (Int64.ofNat (D k))), none, some (.long (Int64.ofNat (aOf so q k (D k)))), none] [] s3 := by
      have p1 : ev g (d + 3) mX7_doStep 39 [some (.ref (307 : Nat)), some (.ref (hcl h)), some (.int (Int32.ofNat i)), some (.int (Int32.ofNat p)), some (.int (Int32.ofNat asks)), some (.int (Int32.ofNat (if q = 0 then 16 else q))), some (.int (Int32.ofNat j)), none, none, none, none] [] s = ev g (d + 3) mX7_doStep 59 [some (.ref (307 : Nat)), some (.ref (hcl h)), some (.int (Int32.ofNat i)), some (.int (Int32.ofNat p)), some (.int (Int32.ofNat asks)), some (.int (Int32.ofNat (if q = 0 then 16 else q))), some (.int (Int32.ofNat j)), some (.long (Int64.ofNat (D k))), none, none, none] [] s1 := by
        rw [sX7_doStep_39]
        simp (disch := first | exact jm_lt0 | (apply jm_ltx; (repeat (first | exact jw_0 | apply jw_i | apply jw_r | apply jw_l)); omega) | omega | assumption | exact sa_307 | exact n32_inA sb_307 (by omega) (by omega) | (refine n32_inA (by assumption) ?_ ?_ <;> omega) | exact bi01 | (rw [sa_307]; omega) | decide) only [sX7_doStep_0, sX7_doStep_1, sX7_doStep_2, sX7_doStep_5, sX7_doStep_7, sX7_doStep_8, sX7_doStep_9, sX7_doStep_12, sX7_doStep_15, sX7_doStep_17, sX7_doStep_20, sX7_doStep_21, sX7_doStep_22, sX7_doStep_25, sX7_doStep_27, sX7_doStep_29, sX7_doStep_32, sX7_doStep_33, sX7_doStep_36, sX7_doStep_37, sX7_doStep_41, sX7_doStep_42, sX7_doStep_45, sX7_doStep_48, sX7_doStep_51, sX7_doStep_52, sX7_doStep_54, sX7_doStep_57, sX7_doStep_61, sX7_doStep_64, sX7_doStep_65, sX7_doStep_66, sX7_doStep_67, sX7_doStep_70, sX7_doStep_73, sX7_doStep_75, sX7_doStep_77, sX7_doStep_78, sX7_doStep_79, sX7_doStep_82, sX7_doStep_83, sX7_doStep_86, sX7_doStep_87, sX7_doStep_89, sX7_doStep_90, sX7_doStep_93, sX7_doStep_94, sX7_doStep_97, sX7_doStep_99, sX7_doStep_102, sX7_doStep_104, sX7_doStep_106, sX7_doStep_107, sX7_doStep_110, sX7_doStep_112, sX7_doStep_113, sX7_doStep_114, sX7_doStep_117, sX7_doStep_118, sX7_doStep_119, sX7_doStep_120, sX7_doStep_123, sX7_doStep_124, sX7_doStep_126, kX7_doStep_129_AAIIIIIJNJN, sX7_doStep_129, sX7_doStep_132, kX7_doStep_135_AAIIIIINNNN, sX7_doStep_135, sX7_doStep_136, sX7_doStep_139, evK_n, evK_v, evK_x, gI_pI, gJ_pI, gR_pI, gI_pJ, gJ_pJ, gR_pJ, gI_pR, gJ_pR, gR_pR, n32_le, n32_lt, n32_add, n32_mul, n32_cl, if_true, if_false, not_true_eq_false, not_false_eq_true, and_true, true_and, and_false, false_and, and_self, or_true, true_or, or_false, false_or, or_self, ne_eq, Decidable.not_not, Nat.reduceEqDiff, Nat.reduceEqDiff, sa_307, sb_307, x2, x5, g1, e1]
      rw [p1, eA]
      simp (disch := first | exact jm_lt0 | (apply jm_ltx; (repeat (first | exact jw_0 | apply jw_i | apply jw_r | apply jw_l)); omega) | omega | assumption | exact sa_307 | exact n32_inA sb_307 (by omega) (by omega) | (refine n32_inA (by assumption) ?_ ?_ <;> omega) | exact bi01 | (rw [sa_307]; omega) | decide) only [sX7_doStep_0, sX7_doStep_1, sX7_doStep_2, sX7_doStep_5, sX7_doStep_7, sX7_doStep_8, sX7_doStep_9, sX7_doStep_12, sX7_doStep_15, sX7_doStep_17, sX7_doStep_20, sX7_doStep_21, sX7_doStep_22, sX7_doStep_25, sX7_doStep_27, sX7_doStep_29, sX7_doStep_32, sX7_doStep_33, sX7_doStep_36, sX7_doStep_37, sX7_doStep_41, sX7_doStep_42, sX7_doStep_45, sX7_doStep_48, sX7_doStep_51, sX7_doStep_52, sX7_doStep_54, sX7_doStep_57, sX7_doStep_59, sX7_doStep_61, sX7_doStep_64, sX7_doStep_65, sX7_doStep_66, sX7_doStep_67, sX7_doStep_70, sX7_doStep_73, sX7_doStep_75, sX7_doStep_77, sX7_doStep_78, sX7_doStep_79, sX7_doStep_82, sX7_doStep_83, sX7_doStep_86, sX7_doStep_87, sX7_doStep_89, sX7_doStep_90, sX7_doStep_93, sX7_doStep_94, sX7_doStep_97, sX7_doStep_99, sX7_doStep_102, sX7_doStep_104, sX7_doStep_106, sX7_doStep_107, sX7_doStep_112, sX7_doStep_113, sX7_doStep_114, sX7_doStep_117, sX7_doStep_118, sX7_doStep_119, sX7_doStep_120, sX7_doStep_123, sX7_doStep_124, sX7_doStep_126, kX7_doStep_129_AAIIIIIJNJN, sX7_doStep_129, sX7_doStep_132, kX7_doStep_135_AAIIIIINNNN, sX7_doStep_135, sX7_doStep_136, sX7_doStep_139, evK_n, evK_v, evK_x, gI_pI, gJ_pI, gR_pI, gI_pJ, gJ_pJ, gR_pJ, gI_pR, gJ_pR, gR_pR, n32_le, n32_lt, n32_add, n32_mul, n32_cl, if_true, if_false, not_true_eq_false, not_false_eq_true, and_true, true_and, and_false, false_and, and_self, or_true, true_or, or_false, false_or, or_self, ne_eq, Decidable.not_not, Nat.reduceEqDiff, Nat.reduceEqDiff, sa_307, sb_307, z2, z3, e3, hq2, e4]
    by_cases c0 : aOf so q k (D k) = 0
    · have hz : addF (addF (prt (cStep so (wT w 0) see act q v) D l j) [(k, D k - aOf so q k (D k))]) (cAct (wT w 0) see act v k (aOf so q k (D k))) = addF (prt (cStep so (wT w 0) see act q v) D l j) [(k, D k - aOf so q k (D k))] := addF_zero (by rw [(cAct_ok (by omega) hs hv hk).1, c0])
      rw [hz] at hnext
      rw [hnext] at hP3
      obtain ⟨s', f1, f2, f3, f4⟩ := ih (j + 1) s3 (by omega) hP3 (by
        rw [sumL_tk hik, sumL_tk hik, sumL_tk hik]
        have e0 : gD so act q D k = 0 ∧ gW so act q D k = 0 ∧ gL so act q D k = 0 := by unfold gD gW gL; rw [c0]; simp
        rw [e0.1, e0.2.1, e0.2.2]
        exact hT3) hMem3
      refine ⟨s', ?_, f2, f3, f4⟩
      rw [pre, c0]
      simp (disch := first | exact jm_lt0 | (apply jm_ltx; (repeat (first | exact jw_0 | apply jw_i | apply jw_r | apply jw_l)); omega) | omega | assumption | exact sa_307 | exact n32_inA sb_307 (by omega) (by omega) | (refine n32_inA (by assumption) ?_ ?_ <;> omega) | exact bi01 | (rw [sa_307]; omega) | decide) only [sX7_doStep_0, sX7_doStep_1, sX7_doStep_2, sX7_doStep_5, sX7_doStep_7, sX7_doStep_8, sX7_doStep_9, sX7_doStep_12, sX7_doStep_15, sX7_doStep_17, sX7_doStep_20, sX7_doStep_21, sX7_doStep_22, sX7_doStep_25, sX7_doStep_27, sX7_doStep_29, sX7_doStep_32, sX7_doStep_33, sX7_doStep_36, sX7_doStep_37, sX7_doStep_41, sX7_doStep_42, sX7_doStep_45, sX7_doStep_48, sX7_doStep_51, sX7_doStep_52, sX7_doStep_54, sX7_doStep_57, sX7_doStep_59, sX7_doStep_61, sX7_doStep_64, sX7_doStep_65, sX7_doStep_66, sX7_doStep_67, sX7_doStep_70, sX7_doStep_73, sX7_doStep_75, sX7_doStep_77, sX7_doStep_78, sX7_doStep_79, sX7_doStep_82, sX7_doStep_83, sX7_doStep_86, sX7_doStep_87, sX7_doStep_89, sX7_doStep_90, sX7_doStep_93, sX7_doStep_94, sX7_doStep_97, sX7_doStep_99, sX7_doStep_102, sX7_doStep_104, sX7_doStep_106, sX7_doStep_107, sX7_doStep_110, sX7_doStep_112, sX7_doStep_113, sX7_doStep_114, sX7_doStep_117, sX7_doStep_118, sX7_doStep_119, sX7_doStep_120, sX7_doStep_123, sX7_doStep_124, sX7_doStep_126, kX7_doStep_129_AAIIIIIJNJN, sX7_doStep_129, sX7_doStep_132, kX7_doStep_135_AAIIIIINNNN, sX7_doStep_135, sX7_doStep_136, sX7_doStep_139, evK_n, evK_v, evK_x, gI_pI, gJ_pI, gR_pI, gI_pJ, gJ_pJ, gR_pJ, gI_pR, gJ_pR, gR_pR, n32_le, n32_lt, n32_add, n32_mul, n32_cl, if_true, if_false, not_true_eq_false, not_false_eq_true, and_true, true_and, and_false, false_and, and_self, or_true, true_or, or_false, false_or, or_self, ne_eq, Decidable.not_not, Nat.reduceEqDiff, Nat.reduceEqDiff, n64_cle, show (Int64.ofNat 0 ≤ Int64.ofNat 0) = True from eq_true (by decide)]
      exact f1
    · have hCW3 : CW s3 w := hCW.of hw (fun b j hb => hP3.1.2.1 b j (fun q => hb (pO_TC q)))
      have e5 := c5_actOf (g := g) (d := d + 2) (hP3.1.fx hF) hhL hOK1 (hCW3.2.2.2.1 h hh) hi
      rw [hact] at e5
      have hFb : ∀ τ, addF (prt (cStep so (wT w 0) see act q v) D l j) [(k, D k - aOf so q k (D k))] τ ≤ ONE := fun τ => by
        have h1 : addF (prt (cStep so (wT w 0) see act q v) D l j) [(k, D k - aOf so q k (D k))] τ ≤ prt (cStep so (wT w 0) see act q v) D l (j + 1) τ := by
          rw [← hnext]
          unfold addF
          omega
        exact Nat.le_trans h1 (hW.pr hamt (j + 1) τ)
      obtain ⟨s4, e6, hP4, hT4, hX4⟩ := c7_doAct (g := g) (d := d) (act := act) (p := p) (a := aOf so q k (D k)) hW hE hw hv hP3 hN3 hk h11 hs (by omega) hp p1 hFb hT3
      rw [hnext] at hP4
      obtain ⟨s', f1, f2, f3, f4⟩ := ih (j + 1) s4 (by omega) hP4 (by
        rw [sumL_tk hik, sumL_tk hik, sumL_tk hik, ← addP_add, ← Nat.add_assoc, ← Nat.add_assoc]
        exact hT4) (fun ha k' hk' => by rw [hX4]; exact hMem3 ha k' hk')
      refine ⟨s', ?_, f2, f3, f4⟩
      have hgt : (Int64.ofNat (aOf so q k (D k)) ≤ Int64.ofNat 0) = False := by
        rw [n64_le (by omega) (by decide)]
        exact eq_false (by omega)
      rw [pre]
      simp (disch := first | exact jm_lt0 | (apply jm_ltx; (repeat (first | exact jw_0 | apply jw_i | apply jw_r | apply jw_l)); omega) | omega | assumption | exact sa_307 | exact n32_inA sb_307 (by omega) (by omega) | (refine n32_inA (by assumption) ?_ ?_ <;> omega) | exact bi01 | (rw [sa_307]; omega) | decide) only [sX7_doStep_0, sX7_doStep_1, sX7_doStep_2, sX7_doStep_5, sX7_doStep_7, sX7_doStep_8, sX7_doStep_9, sX7_doStep_12, sX7_doStep_15, sX7_doStep_17, sX7_doStep_20, sX7_doStep_21, sX7_doStep_22, sX7_doStep_25, sX7_doStep_27, sX7_doStep_29, sX7_doStep_32, sX7_doStep_33, sX7_doStep_36, sX7_doStep_37, sX7_doStep_41, sX7_doStep_42, sX7_doStep_45, sX7_doStep_48, sX7_doStep_51, sX7_doStep_52, sX7_doStep_54, sX7_doStep_57, sX7_doStep_59, sX7_doStep_61, sX7_doStep_64, sX7_doStep_65, sX7_doStep_66, sX7_doStep_67, sX7_doStep_70, sX7_doStep_73, sX7_doStep_75, sX7_doStep_77, sX7_doStep_78, sX7_doStep_79, sX7_doStep_82, sX7_doStep_83, sX7_doStep_86, sX7_doStep_87, sX7_doStep_89, sX7_doStep_90, sX7_doStep_93, sX7_doStep_94, sX7_doStep_97, sX7_doStep_99, sX7_doStep_102, sX7_doStep_104, sX7_doStep_106, sX7_doStep_107, sX7_doStep_110, sX7_doStep_112, sX7_doStep_113, sX7_doStep_114, sX7_doStep_117, sX7_doStep_118, sX7_doStep_119, sX7_doStep_120, sX7_doStep_123, sX7_doStep_124, sX7_doStep_126, kX7_doStep_129_AAIIIIIJNJN, sX7_doStep_129, sX7_doStep_132, kX7_doStep_135_AAIIIIINNNN, sX7_doStep_135, sX7_doStep_136, sX7_doStep_139, evK_n, evK_v, evK_x, gI_pI, gJ_pI, gR_pI, gI_pJ, gJ_pJ, gR_pJ, gI_pR, gJ_pR, gR_pR, n32_le, n32_lt, n32_add, n32_mul, n32_cl, if_true, if_false, not_true_eq_false, not_false_eq_true, and_true, true_and, and_false, false_and, and_self, or_true, true_or, or_false, false_or, or_self, ne_eq, Decidable.not_not, Nat.reduceEqDiff, Nat.reduceEqDiff, sa_307, sb_307, n64_cle, hgt, e5, e6]
      exact f1
end DS
