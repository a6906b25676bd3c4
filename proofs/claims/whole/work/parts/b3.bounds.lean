/-! how great costs may be; the class's least terms; what is asked at last -/
theorem gD_le {so : Nat → Bool} {act q : Nat} {D : Nat → Nat} (hq : q ≤ 16) : sumN (gD so act q D) NS ≤ sumN D NS := by
  refine sumN_le (fun k _ => ?_)
  unfold gD
  have h := aOf_le (so := so) (k := k) (p := D k) hq
  split
  · exact Nat.le_trans (dv_le (by omega)) h
  · exact Nat.zero_le _
theorem gW_le {so : Nat → Bool} {act q : Nat} {D : Nat → Nat} (hq : q ≤ 16) : sumN (gW so act q D) NS ≤ 12 * sumN D NS := by
  rw [← sumN_mul]
  refine sumN_le (fun k _ => ?_)
  unfold gW
  have h := aOf_le (so := so) (k := k) (p := D k) hq
  have hc := k_cd k
  split
  · rw [Nat.mul_comm 12]
    exact Nat.mul_le_mul h (by omega)
  · exact Nat.zero_le _
theorem gL_le {so : Nat → Bool} {act q : Nat} {D : Nat → Nat} (hq : q ≤ 16) : sumN (gL so act q D) NS ≤ sumN D NS := by
  refine sumN_le (fun k _ => ?_)
  unfold gL
  have h := aOf_le (so := so) (k := k) (p := D k) hq
  split
  · exact h
  · exact Nat.zero_le _
theorem addP_le {dr : Nat → Nat} {p n x : Nat} : addP dr p n x ≤ dr x + n := by
  unfold addP
  split <;> omega
/-- so much is counted at most -/
def ZB (Z : ZZ) (n : Nat) : Prop := (∀ p, Z.2.1 p ≤ n * ONE) ∧ Z.2.2.1 ≤ n * (12 * ONE) ∧ Z.2.2.2 ≤ n * ONE
theorem sts_b {w : WD} {v h p see n0 : Nat} {Z : ZZ} (hw : wOK w) (hh : h < 7) (hs : see ≤ 16) (hv : v < 24) (hZ : SUP (v + 1) Z.1) (hU : UNS Z.1) (hD : sumN Z.1 NS ≤ ONE) (hB : ZB Z n0) : ∀ n, n ≤ hbm (wH w h) → ZB (zSts w v h p see Z n) (n0 + n)
  | 0, _ => hB
  | n + 1, hn => by
    obtain ⟨i1, i2, i3⟩ := sts_b (p := p) hw hh hs hv hZ hU hD hB n (by omega)
    obtain ⟨-, -, z3⟩ := zSts_ok (p := p) hw hh hs hv hZ hU n (by omega)
    have hq := ((hw.2.2.2.2.1 h hh).2.2.2 n (by omega)).2.1
    have g1 := gD_le (so := soB w v h n) (act := hbA (wH w h) n) (q := hbQ (wH w h) n) (D := (zSts w v h p see Z n).1) hq
    have g2 := gW_le (so := soB w v h n) (act := hbA (wH w h) n) (q := hbQ (wH w h) n) (D := (zSts w v h p see Z n).1) hq
    have g3 := gL_le (so := soB w v h n) (act := hbA (wH w h) n) (q := hbQ (wH w h) n) (D := (zSts w v h p see Z n).1) hq
    rw [z3] at g1 g2 g3
    have e1 : (n0 + (n + 1)) * ONE = (n0 + n) * ONE + ONE := by rw [← Nat.add_assoc, Nat.succ_mul]
    have e2 : (n0 + (n + 1)) * (12 * ONE) = (n0 + n) * (12 * ONE) + 12 * ONE := by rw [← Nat.add_assoc, Nat.succ_mul]
    have g2' : 12 * sumN Z.1 NS ≤ 12 * ONE := Nat.mul_le_mul (Nat.le_refl _) hD
    refine ⟨fun x => ?_, ?_, ?_⟩
    · show addP (zSts w v h p see Z n).2.1 p (sumN (gD (soB w v h n) (hbA (wH w h) n) (hbQ (wH w h) n) (zSts w v h p see Z n).1) NS) x ≤ _
      rw [e1]
      exact Nat.le_trans addP_le (Nat.add_le_add (i1 x) (Nat.le_trans g1 hD))
    · show (zSts w v h p see Z n).2.2.1 + sumN (gW (soB w v h n) (hbA (wH w h) n) (hbQ (wH w h) n) (zSts w v h p see Z n).1) NS ≤ _
      rw [e2]
      omega
    · show (zSts w v h p see Z n).2.2.2 + sumN (gL (soB w v h n) (hbA (wH w h) n) (hbQ (wH w h) n) (zSts w v h p see Z n).1) NS ≤ _
      rw [e1]
      omega
theorem ZB.up {Z : ZZ} {n m : Nat} (h : ZB Z n) (hm : n ≤ m) : ZB Z m := ⟨fun p => Nat.le_trans (h.1 p) (Nat.mul_le_mul hm (Nat.le_refl _)), Nat.le_trans h.2.1 (Nat.mul_le_mul hm (Nat.le_refl _)), Nat.le_trans h.2.2 (Nat.mul_le_mul hm (Nat.le_refl _))⟩
theorem act_b {w : WD} {o : OPT} {v p n0 : Nat} {Z : ZZ} (hw : wOK w) (ho : oOK o) (hv : v < 24) (hp : p < 6) (hS : SUP (v + 1) Z.1) (hU : UNS Z.1) (hD : sumN Z.1 NS ≤ ONE) (hB : ZB Z n0) : ZB (zAct w o v p Z) (n0 + 9) := by
  have hh := ho.2.2.2.2 p hp
  have hm8 := (hw.2.2.2.2.1 _ hh).1
  have h1 := (sts_b (p := p) hw hh ho.2.1 hv hS hU hD hB _ (Nat.le_refl _)).up (show n0 + hbm (wH w (o.2.2.2.2 p)) ≤ n0 + 8 by omega)
  obtain ⟨-, -, z3⟩ := zSts_ok (p := p) hw hh ho.2.1 hv hS hU _ (Nat.le_refl _)
  obtain ⟨b1, b2, b3⟩ := h1
  have e1 : (n0 + 9) * ONE = (n0 + 8) * ONE + ONE := by rw [show n0 + 9 = (n0 + 8) + 1 from rfl, Nat.succ_mul]
  have e2 : (n0 + 9) * (12 * ONE) = (n0 + 8) * (12 * ONE) + 12 * ONE := by rw [show n0 + 9 = (n0 + 8) + 1 from rfl, Nat.succ_mul]
  refine ⟨fun x => by rw [e1]; exact Nat.le_trans (b1 x) (Nat.le_add_right _ _), ?_, by rw [e1]; exact Nat.le_trans b3 (Nat.le_add_right _ _)⟩
  have hs : sumN (fun k => (if 0 < o.2.2.1 ∧ o.2.2.1 ≤ kc k + kd k then kc k else 0) * (zSts w v (o.2.2.2.2 p) p o.2.1 Z (hbm (wH w (o.2.2.2.2 p)))).1 k) NS ≤ 12 * sumN (zSts w v (o.2.2.2.2 p) p o.2.1 Z (hbm (wH w (o.2.2.2.2 p)))).1 NS := by
    rw [← sumN_mul]
    refine sumN_le (fun k _ => ?_)
    have := k_cd k
    exact Nat.mul_le_mul (by split <;> omega) (Nat.le_refl _)
  rw [z3] at hs
  have g2' : 12 * sumN Z.1 NS ≤ 12 * ONE := Nat.mul_le_mul (Nat.le_refl _) hD
  show (zSts w v (o.2.2.2.2 p) p o.2.1 Z (hbm (wH w (o.2.2.2.2 p)))).2.2.1 + sumN (fun k => (if 0 < o.2.2.1 ∧ o.2.2.1 ≤ kc k + kd k then kc k else 0) * (zSts w v (o.2.2.2.2 p) p o.2.1 Z (hbm (wH w (o.2.2.2.2 p)))).1 k) NS ≤ _
  rw [e2]
  omega
theorem go_b {w : WD} {o : OPT} (hw : wOK w) (ho : oOK o) : ∀ v, v ≤ wn w → ZB (zGo w o v) (9 * v)
  | 0, _ => ⟨fun _ => Nat.zero_le _, Nat.zero_le _, Nat.zero_le _⟩
  | v + 1, hv => by
    have hn : wn w ≤ 24 := hw.2.2.1
    have h := go_b hw ho v (by omega)
    obtain ⟨i1, i2, i3⟩ := go_ok hw ho v (by omega)
    have hW := (hw.2.2.2.1 v (by omega)).1
    rw [zGo, zVis]
    split
    · exact h.up (by omega)
    · obtain ⟨f1, f2, f3⟩ := fall_ok ho.1 i1 i2
      exact act_b (Z := (pas (cFall o.1) (zGo w o v).1, (zGo w o v).2)) hw ho (show v < 24 by omega) hW (f1.up (by omega)) f2 (by show sumN (pas (cFall o.1) (zGo w o v).1) NS ≤ ONE; rw [f3, i3]; exact Nat.le_refl _) h
theorem cost_lt {w : WD} {o : OPT} (hw : wOK w) (ho : oOK o) : costS w o < BIG := by
  have hn : wn w ≤ 24 := hw.2.2.1
  obtain ⟨b1, b2, b3⟩ := (go_b hw ho (wn w) (Nat.le_refl _)).up (show 9 * wn w ≤ 216 by omega)
  have hO2 : ONE = 1099511627776 := rfl
  have hB2 : BIG = 4611686018427387904 := rfl
  have p0 := hw.2.1 0 (by decide)
  have p1 := hw.2.1 1 (by decide)
  have p2 := hw.2.1 2 (by decide)
  have s6 : sumN (zGo w o (wn w)).2.1 6 ≤ 6 * (216 * ONE) := by
    have := b1 0
    have := b1 1
    have := b1 2
    have := b1 3
    have := b1 4
    have := b1 5
    simp only [sumN]
    omega
  unfold costS costZ
  have m0 := Nat.mul_le_mul p0 s6
  have m1 := Nat.mul_le_mul p1 b2
  have m2 := Nat.mul_le_mul p2 b3
  omega
section EC
variable {g : fm_g} {d : Nat} {w : WD} {s : fm_S} {ver : Nat}
theorem c6_endOrCost (h : LI s w ver) {ch de wh : Nat} (hc : cOK ch de) (hwh : wh < 2) : ∃ s', ev g (d + 6) mX6_endOrCostBy 0 [some (.ref (306 : Nat)), some (.ref (3 : Nat)), some (.int (Int32.ofNat ch)), some (.int (Int32.ofNat de)), some (.int (Int32.ofNat wh)), none] [] s = some (.inl (some (.long (Int64.ofNat (if wh = 0 then endS w (opt w ch de) else costS w (opt w ch de) / ONE)))), s') ∧ LQ s s' w ver := by
  obtain ⟨s', f1, f2, f3⟩ := li_reckon (g := g) (d := d) h hc
  have hcd : ch < 7 ∧ de < 36 := by unfold cOK at hc; omega
  obtain ⟨e1, e2⟩ := f2.2.2.2.2.2.2.2.2.2.1 ch de hc f3
  have r3 := f2.2.1.u 306 3 323 (by decide +kernel)
  have r4 := f2.2.1.u 306 4 324 (by decide +kernel)
  have n1 : ch * 36 + de < 252 := by omega
  have hw : wOK w := h.2.2.2.1
  have hlt := cost_lt hw (opt_ok hw hc)
  have hB2 : BIG = 4611686018427387904 := rfl
  have q1 : Int64.ofNat (costS w (opt w ch de)) / Int64.ofNat 1099511627776 = Int64.ofNat (costS w (opt w ch de) / 1099511627776) := n64_div (by omega) (by decide)
  have hO : costS w (opt w ch de) / ONE = costS w (opt w ch de) / 1099511627776 := rfl
  refine ⟨s', ?_, f2⟩
  have : wh = 0 ∨ wh = 1 := by omega
  rcases this with rfl | rfl
  · simp (disch := first | exact jm_lt0 | (apply jm_ltx; (repeat (first | exact jw_0 | apply jw_i | apply jw_r | apply jw_l)); omega) | omega | assumption | exact sa_306 | exact sa_323 | exact sa_324 | exact n32_inA sb_306 (by omega) (by omega) | exact n32_inA sb_323 (by omega) (by omega) | exact n32_inA sb_324 (by omega) (by omega) | (refine n32_inA (by assumption) ?_ ?_ <;> omega) | exact bi01 | (rw [sa_306]; omega) | (rw [sa_323]; omega) | (rw [sa_324]; omega) | decide) only [sX6_endOrCostBy_0, sX6_endOrCostBy_1, sX6_endOrCostBy_2, sX6_endOrCostBy_3, sX6_endOrCostBy_4, sX6_endOrCostBy_7, sX6_endOrCostBy_9, sX6_endOrCostBy_11, sX6_endOrCostBy_14, sX6_endOrCostBy_16, sX6_endOrCostBy_19, kX6_endOrCostBy_22_AAIIII, sX6_endOrCostBy_22, sX6_endOrCostBy_23, kX6_endOrCostBy_24_AAIIII, sX6_endOrCostBy_24, sX6_endOrCostBy_26, sX6_endOrCostBy_29, sX6_endOrCostBy_30, sX6_endOrCostBy_33, sX6_endOrCostBy_35, sX6_endOrCostBy_36, kX6_endOrCostBy_39_ANNNII, sX6_endOrCostBy_39, sX6_endOrCostBy_40, sX6_endOrCostBy_43, sX6_endOrCostBy_45, sX6_endOrCostBy_46, sX6_endOrCostBy_49, kX6_endOrCostBy_50_ANNNII, kX6_endOrCostBy_50_ANNNNI, sX6_endOrCostBy_50, evK_n, evK_v, evK_x, gI_pI, gJ_pI, gR_pI, gI_pJ, gJ_pJ, gR_pJ, gI_pR, gJ_pR, gR_pR, n32_le, n32_lt, n32_add, n32_mul, n32_cl, if_true, if_false, not_true_eq_false, not_false_eq_true, and_true, true_and, and_false, false_and, and_self, or_true, true_or, or_false, false_or, or_self, ne_eq, Decidable.not_not, Nat.reduceEqDiff, Nat.reduceEqDiff, sa_306, sb_306, sa_323, sb_323, sa_324, sb_324, f1, n32_lt0, n1, r3, r4, e1, z32]
  · simp (disch := first | exact jm_lt0 | (apply jm_ltx; (repeat (first | exact jw_0 | apply jw_i | apply jw_r | apply jw_l)); omega) | omega | assumption | exact sa_306 | exact sa_323 | exact sa_324 | exact n32_inA sb_306 (by omega) (by omega) | exact n32_inA sb_323 (by omega) (by omega) | exact n32_inA sb_324 (by omega) (by omega) | (refine n32_inA (by assumption) ?_ ?_ <;> omega) | exact bi01 | (rw [sa_306]; omega) | (rw [sa_323]; omega) | (rw [sa_324]; omega) | decide) only [sX6_endOrCostBy_0, sX6_endOrCostBy_1, sX6_endOrCostBy_2, sX6_endOrCostBy_3, sX6_endOrCostBy_4, sX6_endOrCostBy_7, sX6_endOrCostBy_9, sX6_endOrCostBy_11, sX6_endOrCostBy_14, sX6_endOrCostBy_16, sX6_endOrCostBy_19, kX6_endOrCostBy_22_AAIIII, sX6_endOrCostBy_22, sX6_endOrCostBy_23, kX6_endOrCostBy_24_AAIIII, sX6_endOrCostBy_24, sX6_endOrCostBy_26, sX6_endOrCostBy_29, sX6_endOrCostBy_30, sX6_endOrCostBy_33, sX6_endOrCostBy_35, sX6_endOrCostBy_36, kX6_endOrCostBy_39_ANNNII, sX6_endOrCostBy_39, sX6_endOrCostBy_40, sX6_endOrCostBy_43, sX6_endOrCostBy_45, sX6_endOrCostBy_46, sX6_endOrCostBy_49, kX6_endOrCostBy_50_ANNNII, kX6_endOrCostBy_50_ANNNNI, sX6_endOrCostBy_50, evK_n, evK_v, evK_x, gI_pI, gJ_pI, gR_pI, gI_pJ, gJ_pJ, gR_pJ, gI_pR, gJ_pR, gR_pR, n32_le, n32_lt, n32_add, n32_mul, n32_cl, if_true, if_false, not_true_eq_false, not_false_eq_true, and_true, true_and, and_false, false_and, and_self, or_true, true_or, or_false, false_or, or_self, ne_eq, Decidable.not_not, Nat.reduceEqDiff, Nat.reduceEqDiff, sa_306, sb_306, sa_323, sb_323, sa_324, sb_324, f1, n32_lt0, n1, r3, r4, e2, show ¬ (Int32.ofNat 1 = 0) by decide, show ¬ (Int64.ofNat 1099511627776 = 0) by decide, q1, show ¬ ((1 : Nat) = 0) by decide]
end EC
theorem c11_gcdStep {g : fm_g} {d x y r : Nat} {s : fm_S} (hx : x < BIG) (hy : y < BIG) (h0 : y ≠ 0) (hr : r < 200) : ev g d mX11_commonDivisor 9 [none, none, none, none, some (.long (Int64.ofNat x)), none, some (.long (Int64.ofNat y)), none, some (.int (Int32.ofNat r)), none, none] [] s = ev g d mX11_commonDivisor 9 [none, none, none, none, some (.long (Int64.ofNat y)), none, some (.long (Int64.ofNat (x % y))), none, some (.int (Int32.ofNat (r + 1))), none, none] [] s := by
  have hB2 : BIG = 4611686018427387904 := rfl
  have hz : ¬ Int64.ofNat y = 0 := by rw [n64_eq0 hy]; exact h0
  have hz' : ¬ Int64.ofNat y = Int64.ofNat 0 := hz
  have hmod := n64_mod (a := x) (b := y) (by omega) (by omega)
  have g1 : ¬ 200 ≤ r := by omega
  rw [sX11_commonDivisor_9]
  simp (disch := first | exact jm_lt0 | (apply jm_ltx; (repeat (first | exact jw_0 | apply jw_i | apply jw_r | apply jw_l)); omega) | omega | assumption | (refine n32_inA (by assumption) ?_ ?_ <;> omega) | exact bi01 | decide) only [sX11_commonDivisor_0, sX11_commonDivisor_1, sX11_commonDivisor_3, sX11_commonDivisor_4, sX11_commonDivisor_6, sX11_commonDivisor_7, kX11_commonDivisor_9_JNJNJNJNINN, kX11_commonDivisor_9_NNNNJNJNIJN, sX11_commonDivisor_11, sX11_commonDivisor_14, sX11_commonDivisor_17, sX11_commonDivisor_19, sX11_commonDivisor_20, sX11_commonDivisor_21, sX11_commonDivisor_24, sX11_commonDivisor_26, sX11_commonDivisor_28, sX11_commonDivisor_29, sX11_commonDivisor_31, sX11_commonDivisor_33, sX11_commonDivisor_35, sX11_commonDivisor_37, sX11_commonDivisor_39, sX11_commonDivisor_42, kX11_commonDivisor_45_NNNNJNJNINN, sX11_commonDivisor_45, sX11_commonDivisor_47, evK_n, evK_v, evK_x, gI_pI, gJ_pI, gR_pI, gI_pJ, gJ_pJ, gR_pJ, gI_pR, gJ_pR, gR_pR, n32_le, n32_lt, n32_add, n32_mul, n32_cl, if_true, if_false, not_true_eq_false, not_false_eq_true, and_true, true_and, and_false, false_and, and_self, or_true, true_or, or_false, false_or, or_self, ne_eq, Decidable.not_not, Nat.reduceEqDiff, Nat.reduceEqDiff, n64_ceq, hz', hz, hmod, g1]
theorem c11_gcdEnd {g : fm_g} {d x r : Nat} {s : fm_S} (hr : r ≤ 200) : ev g d mX11_commonDivisor 9 [none, none, none, none, some (.long (Int64.ofNat x)), none, some (.long (Int64.ofNat 0)), none, some (.int (Int32.ofNat r)), none, none] [] s = some (.inl (some (.long (Int64.ofNat x))), s) := by
  rw [sX11_commonDivisor_9]
  by_cases c : 200 ≤ r
  · simp (disch := first | exact jm_lt0 | (apply jm_ltx; (repeat (first | exact jw_0 | apply jw_i | apply jw_r | apply jw_l)); omega) | omega | assumption | (refine n32_inA (by assumption) ?_ ?_ <;> omega) | exact bi01 | decide) only [sX11_commonDivisor_0, sX11_commonDivisor_1, sX11_commonDivisor_3, sX11_commonDivisor_4, sX11_commonDivisor_6, sX11_commonDivisor_7, kX11_commonDivisor_9_JNJNJNJNINN, kX11_commonDivisor_9_NNNNJNJNIJN, sX11_commonDivisor_11, sX11_commonDivisor_14, sX11_commonDivisor_17, sX11_commonDivisor_19, sX11_commonDivisor_20, sX11_commonDivisor_21, sX11_commonDivisor_24, sX11_commonDivisor_26, sX11_commonDivisor_28, sX11_commonDivisor_29, sX11_commonDivisor_31, sX11_commonDivisor_33, sX11_commonDivisor_35, sX11_commonDivisor_37, sX11_commonDivisor_39, sX11_commonDivisor_42, kX11_commonDivisor_45_NNNNJNJNINN, sX11_commonDivisor_45, sX11_commonDivisor_47, evK_n, evK_v, evK_x, gI_pI, gJ_pI, gR_pI, gI_pJ, gJ_pJ, gR_pJ, gI_pR, gJ_pR, gR_pR, n32_le, n32_lt, n32_add, n32_mul, n32_cl, if_true, if_false, not_true_eq_false, not_false_eq_true, and_true, true_and, and_false, false_and, and_self, or_true, true_or, or_false, false_or, or_self, ne_eq, Decidable.not_not, Nat.reduceEqDiff, Nat.reduceEqDiff, n64_ceq, c]
  · simp (disch := first | exact jm_lt0 | (apply jm_ltx; (repeat (first | exact jw_0 | apply jw_i | apply jw_r | apply jw_l)); omega) | omega | assumption | (refine n32_inA (by assumption) ?_ ?_ <;> omega) | exact bi01 | decide) only [sX11_commonDivisor_0, sX11_commonDivisor_1, sX11_commonDivisor_3, sX11_commonDivisor_4, sX11_commonDivisor_6, sX11_commonDivisor_7, kX11_commonDivisor_9_JNJNJNJNINN, kX11_commonDivisor_9_NNNNJNJNIJN, sX11_commonDivisor_11, sX11_commonDivisor_14, sX11_commonDivisor_17, sX11_commonDivisor_19, sX11_commonDivisor_20, sX11_commonDivisor_21, sX11_commonDivisor_24, sX11_commonDivisor_26, sX11_commonDivisor_28, sX11_commonDivisor_29, sX11_commonDivisor_31, sX11_commonDivisor_33, sX11_commonDivisor_35, sX11_commonDivisor_37, sX11_commonDivisor_39, sX11_commonDivisor_42, kX11_commonDivisor_45_NNNNJNJNINN, sX11_commonDivisor_45, sX11_commonDivisor_47, evK_n, evK_v, evK_x, gI_pI, gJ_pI, gR_pI, gI_pJ, gJ_pJ, gR_pJ, gI_pR, gJ_pR, gR_pR, n32_le, n32_lt, n32_add, n32_mul, n32_cl, if_true, if_false, not_true_eq_false, not_false_eq_true, and_true, true_and, and_false, false_and, and_self, or_true, true_or, or_false, false_or, or_self, ne_eq, Decidable.not_not, Nat.reduceEqDiff, Nat.reduceEqDiff, n64_ceq, c]
theorem c11_gcd {g : fm_g} {d : Nat} {s : fm_S} : ∀ (k x y r : Nat), y < 2 ^ k → r + 2 * k ≤ 200 → x < BIG → y < BIG → ev g d mX11_commonDivisor 9 [none, none, none, none, some (.long (Int64.ofNat x)), none, some (.long (Int64.ofNat y)), none, some (.int (Int32.ofNat r)), none, none] [] s = some (.inl (some (.long (Int64.ofNat (Nat.gcd x y)))), s) := by
  intro k
  induction k with
  | zero =>
    intro x y r hy hr hx hyb
    have : y = 0 := by rw [Nat.pow_zero] at hy; omega
    subst this
    rw [Nat.gcd_zero_right]
    exact c11_gcdEnd (by omega)
  | succ k ih =>
    intro x y r hy hr hx hyb
    by_cases c : y = 0
    · subst c
      rw [Nat.gcd_zero_right]
      exact c11_gcdEnd (by omega)
    · have hm := Nat.mod_lt x (show 0 < y by omega)
      have e : Nat.gcd x y = Nat.gcd y (x % y) := by rw [Nat.gcd_comm x y, Nat.gcd_rec y x, Nat.gcd_comm]
      rw [c11_gcdStep hx hyb c (by omega), e]
      by_cases c2 : x % y = 0
      · rw [c2, Nat.gcd_zero_right]
        exact c11_gcdEnd (by omega)
      · generalize x % y = a at hm c2 ⊢
        have hm2 := Nat.mod_lt y (show 0 < a by omega)
        have e2 : Nat.gcd y a = Nat.gcd a (y % a) := by rw [Nat.gcd_comm y a, Nat.gcd_rec a y, Nat.gcd_comm]
        rw [c11_gcdStep hyb (by omega) c2 (by omega), e2]
        have hdm := Nat.div_add_mod y a
        have h1 : 1 ≤ y / a := Nat.div_pos (by omega) (by omega)
        have h2 : a * 1 ≤ a * (y / a) := Nat.mul_le_mul (Nat.le_refl _) h1
        have hp : 2 ^ (k + 1) = 2 * 2 ^ k := by rw [Nat.pow_succ, Nat.mul_comm]
        exact ih a (y % a) (r + 1 + 1) (by omega) (by omega) (by omega) (by omega)
theorem c11_least {g : fm_g} {d a b wh : Nat} {s : fm_S} (ha : a < BIG) (hb : b < BIG) (hwh : wh < 2) : ev g (d + 1) mX11_inLeastTerms 0 [some (.long (Int64.ofNat a)), none, some (.long (Int64.ofNat b)), none, some (.int (Int32.ofNat wh)), none, none] [] s = some (.inl (some (.long (Int64.ofNat (shr a b wh)))), s) := by
  have hB2 : BIG = 4611686018427387904 := rfl
  unfold shr
  by_cases c : b = 0
  · subst c
    rw [if_pos rfl]
    have : wh = 0 ∨ wh = 1 := by omega
    rcases this with rfl | rfl
    · simp (disch := first | exact jm_lt0 | (apply jm_ltx; (repeat (first | exact jw_0 | apply jw_i | apply jw_r | apply jw_l)); omega) | omega | assumption | (refine n32_inA (by assumption) ?_ ?_ <;> omega) | exact bi01 | decide) only [sX11_inLeastTerms_0, sX11_inLeastTerms_1, sX11_inLeastTerms_2, sX11_inLeastTerms_3, sX11_inLeastTerms_6, sX11_inLeastTerms_8, sX11_inLeastTerms_11, sX11_inLeastTerms_12, kX11_inLeastTerms_15_JNJNINN, sX11_inLeastTerms_15, kX11_inLeastTerms_16_JNJNINN, sX11_inLeastTerms_16, sX11_inLeastTerms_17, sX11_inLeastTerms_18, sX11_inLeastTerms_19, sX11_inLeastTerms_22, sX11_inLeastTerms_24, sX11_inLeastTerms_26, sX11_inLeastTerms_27, sX11_inLeastTerms_28, sX11_inLeastTerms_31, sX11_inLeastTerms_33, sX11_inLeastTerms_36, sX11_inLeastTerms_37, kX11_inLeastTerms_40_JNJNIJN, sX11_inLeastTerms_40, kX11_inLeastTerms_41_JNJNIJN, kX11_inLeastTerms_41_NNJNNNN, sX11_inLeastTerms_41, sX11_inLeastTerms_42, sX11_inLeastTerms_44, sX11_inLeastTerms_47, sX11_inLeastTerms_48, sX11_inLeastTerms_50, sX11_inLeastTerms_51, kX11_inLeastTerms_54_JNJNIJN, sX11_inLeastTerms_54, sX11_inLeastTerms_55, sX11_inLeastTerms_57, kX11_inLeastTerms_58_JNJNIJN, kX11_inLeastTerms_58_NNJNNJN, sX11_inLeastTerms_58, evK_n, evK_v, evK_x, gI_pI, gJ_pI, gR_pI, gI_pJ, gJ_pJ, gR_pJ, gI_pR, gJ_pR, gR_pR, if_true, if_false, not_true_eq_false, not_false_eq_true, and_true, true_and, and_false, false_and, and_self, or_true, true_or, or_false, false_or, or_self, ne_eq, Decidable.not_not, Nat.reduceEqDiff, Nat.reduceEqDiff, n64_cle, n64_cgt, show ¬ (Int64.ofNat 0 < Int64.ofNat 0) by decide, z32]
    · simp (disch := first | exact jm_lt0 | (apply jm_ltx; (repeat (first | exact jw_0 | apply jw_i | apply jw_r | apply jw_l)); omega) | omega | assumption | (refine n32_inA (by assumption) ?_ ?_ <;> omega) | exact bi01 | decide) only [sX11_inLeastTerms_0, sX11_inLeastTerms_1, sX11_inLeastTerms_2, sX11_inLeastTerms_3, sX11_inLeastTerms_6, sX11_inLeastTerms_8, sX11_inLeastTerms_11, sX11_inLeastTerms_12, kX11_inLeastTerms_15_JNJNINN, sX11_inLeastTerms_15, kX11_inLeastTerms_16_JNJNINN, sX11_inLeastTerms_16, sX11_inLeastTerms_17, sX11_inLeastTerms_18, sX11_inLeastTerms_19, sX11_inLeastTerms_22, sX11_inLeastTerms_24, sX11_inLeastTerms_26, sX11_inLeastTerms_27, sX11_inLeastTerms_28, sX11_inLeastTerms_31, sX11_inLeastTerms_33, sX11_inLeastTerms_36, sX11_inLeastTerms_37, kX11_inLeastTerms_40_JNJNIJN, sX11_inLeastTerms_40, kX11_inLeastTerms_41_JNJNIJN, kX11_inLeastTerms_41_NNJNNNN, sX11_inLeastTerms_41, sX11_inLeastTerms_42, sX11_inLeastTerms_44, sX11_inLeastTerms_47, sX11_inLeastTerms_48, sX11_inLeastTerms_50, sX11_inLeastTerms_51, kX11_inLeastTerms_54_JNJNIJN, sX11_inLeastTerms_54, sX11_inLeastTerms_55, sX11_inLeastTerms_57, kX11_inLeastTerms_58_JNJNIJN, kX11_inLeastTerms_58_NNJNNJN, sX11_inLeastTerms_58, evK_n, evK_v, evK_x, gI_pI, gJ_pI, gR_pI, gI_pJ, gJ_pJ, gR_pJ, gI_pR, gJ_pR, gR_pR, if_true, if_false, not_true_eq_false, not_false_eq_true, and_true, true_and, and_false, false_and, and_self, or_true, true_or, or_false, false_or, or_self, ne_eq, Decidable.not_not, Nat.reduceEqDiff, Nat.reduceEqDiff, n64_cle, n64_cgt, show ¬ (Int64.ofNat 0 < Int64.ofNat 0) by decide, show ¬ (Int32.ofNat 1 = 0) by decide]
  · rw [if_neg c]
    have hpos := Nat.gcd_pos_of_pos_right a (show 0 < b by omega)
    have hg : Nat.gcd a b < BIG := Nat.lt_of_le_of_lt (Nat.gcd_le_right a (show 0 < b by omega)) hb
    have g1 : Int64.ofNat 0 < Int64.ofNat b := by rw [n64_lt (by decide) (by omega)]; omega
    have g2 : Int64.ofNat 0 < Int64.ofNat (Nat.gcd a b) := by rw [n64_lt (by decide) (by omega)]; omega
    have hz : ¬ Int64.ofNat (Nat.gcd a b) = 0 := by rw [n64_eq0 hg]; omega
    have q1 : Int64.ofNat a / Int64.ofNat (Nat.gcd a b) = Int64.ofNat (a / Nat.gcd a b) := n64_div (by omega) (by omega)
    have q2 : Int64.ofNat b / Int64.ofNat (Nat.gcd a b) = Int64.ofNat (b / Nat.gcd a b) := n64_div (by omega) (by omega)
    have e1 : ev g d mX11_commonDivisor 0 [some (.long (Int64.ofNat a)), none, some (.long (Int64.ofNat b)), none, none, none, none, none, none, none, none] [] s = some (.inl (some (.long (Int64.ofNat (Nat.gcd a b)))), s) := by
      rw [← c11_gcd (g := g) (d := d) (s := s) 62 a b 0 (by omega) (by decide) ha hb]
      simp (disch := first | exact jm_lt0 | (apply jm_ltx; (repeat (first | exact jw_0 | apply jw_i | apply jw_r | apply jw_l)); omega) | omega | assumption | (refine n32_inA (by assumption) ?_ ?_ <;> omega) | exact bi01 | decide) only [sX11_commonDivisor_0, sX11_commonDivisor_1, sX11_commonDivisor_3, sX11_commonDivisor_4, sX11_commonDivisor_6, sX11_commonDivisor_7, kX11_commonDivisor_9_JNJNJNJNINN, kX11_commonDivisor_9_NNNNJNJNIJN, sX11_commonDivisor_11, sX11_commonDivisor_14, sX11_commonDivisor_17, sX11_commonDivisor_19, sX11_commonDivisor_20, sX11_commonDivisor_21, sX11_commonDivisor_24, sX11_commonDivisor_26, sX11_commonDivisor_28, sX11_commonDivisor_29, sX11_commonDivisor_31, sX11_commonDivisor_33, sX11_commonDivisor_35, sX11_commonDivisor_37, sX11_commonDivisor_39, sX11_commonDivisor_42, kX11_commonDivisor_45_NNNNJNJNINN, sX11_commonDivisor_45, sX11_commonDivisor_47, evK_n, evK_v, evK_x, gI_pI, gJ_pI, gR_pI, gI_pJ, gJ_pJ, gR_pJ, gI_pR, gJ_pR, gR_pR, if_true, if_false, not_true_eq_false, not_false_eq_true, and_true, true_and, and_false, false_and, and_self, or_true, true_or, or_false, false_or, or_self, ne_eq, Decidable.not_not, Nat.reduceEqDiff, Nat.reduceEqDiff]
    have : wh = 0 ∨ wh = 1 := by omega
    rcases this with rfl | rfl
    · simp (disch := first | exact jm_lt0 | (apply jm_ltx; (repeat (first | exact jw_0 | apply jw_i | apply jw_r | apply jw_l)); omega) | omega | assumption | (refine n32_inA (by assumption) ?_ ?_ <;> omega) | exact bi01 | decide) only [sX11_inLeastTerms_0, sX11_inLeastTerms_1, sX11_inLeastTerms_2, sX11_inLeastTerms_3, sX11_inLeastTerms_6, sX11_inLeastTerms_8, sX11_inLeastTerms_11, sX11_inLeastTerms_12, kX11_inLeastTerms_15_JNJNINN, sX11_inLeastTerms_15, kX11_inLeastTerms_16_JNJNINN, sX11_inLeastTerms_16, sX11_inLeastTerms_17, sX11_inLeastTerms_18, sX11_inLeastTerms_19, sX11_inLeastTerms_22, sX11_inLeastTerms_24, sX11_inLeastTerms_26, sX11_inLeastTerms_27, sX11_inLeastTerms_28, sX11_inLeastTerms_31, sX11_inLeastTerms_33, sX11_inLeastTerms_36, sX11_inLeastTerms_37, kX11_inLeastTerms_40_JNJNIJN, sX11_inLeastTerms_40, kX11_inLeastTerms_41_JNJNIJN, kX11_inLeastTerms_41_NNJNNNN, sX11_inLeastTerms_41, sX11_inLeastTerms_42, sX11_inLeastTerms_44, sX11_inLeastTerms_47, sX11_inLeastTerms_48, sX11_inLeastTerms_50, sX11_inLeastTerms_51, kX11_inLeastTerms_54_JNJNIJN, sX11_inLeastTerms_54, sX11_inLeastTerms_55, sX11_inLeastTerms_57, kX11_inLeastTerms_58_JNJNIJN, kX11_inLeastTerms_58_NNJNNJN, sX11_inLeastTerms_58, evK_n, evK_v, evK_x, gI_pI, gJ_pI, gR_pI, gI_pJ, gJ_pJ, gR_pJ, gI_pR, gJ_pR, gR_pR, if_true, if_false, not_true_eq_false, not_false_eq_true, and_true, true_and, and_false, false_and, and_self, or_true, true_or, or_false, false_or, or_self, ne_eq, Decidable.not_not, Nat.reduceEqDiff, Nat.reduceEqDiff, n64_cgt, g1, e1, g2, z32, hz, q1]
    · simp (disch := first | exact jm_lt0 | (apply jm_ltx; (repeat (first | exact jw_0 | apply jw_i | apply jw_r | apply jw_l)); omega) | omega | assumption | (refine n32_inA (by assumption) ?_ ?_ <;> omega) | exact bi01 | decide) only [sX11_inLeastTerms_0, sX11_inLeastTerms_1, sX11_inLeastTerms_2, sX11_inLeastTerms_3, sX11_inLeastTerms_6, sX11_inLeastTerms_8, sX11_inLeastTerms_11, sX11_inLeastTerms_12, kX11_inLeastTerms_15_JNJNINN, sX11_inLeastTerms_15, kX11_inLeastTerms_16_JNJNINN, sX11_inLeastTerms_16, sX11_inLeastTerms_17, sX11_inLeastTerms_18, sX11_inLeastTerms_19, sX11_inLeastTerms_22, sX11_inLeastTerms_24, sX11_inLeastTerms_26, sX11_inLeastTerms_27, sX11_inLeastTerms_28, sX11_inLeastTerms_31, sX11_inLeastTerms_33, sX11_inLeastTerms_36, sX11_inLeastTerms_37, kX11_inLeastTerms_40_JNJNIJN, sX11_inLeastTerms_40, kX11_inLeastTerms_41_JNJNIJN, kX11_inLeastTerms_41_NNJNNNN, sX11_inLeastTerms_41, sX11_inLeastTerms_42, sX11_inLeastTerms_44, sX11_inLeastTerms_47, sX11_inLeastTerms_48, sX11_inLeastTerms_50, sX11_inLeastTerms_51, kX11_inLeastTerms_54_JNJNIJN, sX11_inLeastTerms_54, sX11_inLeastTerms_55, sX11_inLeastTerms_57, kX11_inLeastTerms_58_JNJNIJN, kX11_inLeastTerms_58_NNJNNJN, sX11_inLeastTerms_58, evK_n, evK_v, evK_x, gI_pI, gJ_pI, gR_pI, gI_pJ, gJ_pJ, gR_pJ, gI_pR, gJ_pR, gR_pR, if_true, if_false, not_true_eq_false, not_false_eq_true, and_true, true_and, and_false, false_and, and_self, or_true, true_or, or_false, false_or, or_self, ne_eq, Decidable.not_not, Nat.reduceEqDiff, Nat.reduceEqDiff, n64_cgt, g1, e1, g2, show ¬ (Int32.ofNat 1 = 0) by decide, hz, q2, show ¬ ((1 : Nat) = 0) by decide]
