/-! a STATE taken in hand; clouds exchanged -/
def TB (s : fm_S) : Prop := ∀ r, r < 91 → gI s 308 r = Int32.ofNat (cP r) ∧ gI s 309 r = Int32.ofNat (dP r)
theorem TB.of {s s' : fm_S} (h : TB s) (e : ∀ j, gI s' 308 j = gI s 308 j ∧ gI s' 309 j = gI s 309 j) : TB s' := fun r hr => ⟨by rw [(e r).1, (h r hr).1], by rw [(e r).2, (h r hr).2]⟩
theorem rest_ok : ∀ a, a < 100 → (Int32.ofNat a &&& Int32.ofNat 1 = Int32.ofNat (a % 2)) ∧ ((Int32.ofNat a >>> (Int32.ofNat 1 &&& 31)) &&& Int32.ofNat 1 = Int32.ofNat (a / 2 % 2)) ∧ (Int32.ofNat a >>> (Int32.ofNat 2 &&& 31) = Int32.ofNat (a / 4)) := by decide +kernel
/-- which cloud is the one in force, which the next -/
def OD (s : fm_S) (A A' : Nat) : Prop := gR s 307 8 = A ∧ gR s 307 9 = A' ∧ A ∈ clL ∧ A' ∈ clL ∧ A ≠ A'
theorem OD.fm {s s' : fm_S} {A A' : Nat} {P Q : Nat → Nat → Prop} (h : OD s A A') (x : FM P Q s s') : OD s' A A' := ⟨by rw [x.gR, h.1], by rw [x.gR, h.2.1], h.2.2⟩
def pH (b j : Nat) : Prop := b = 310 ∧ j < 5
theorem c7_load {g : fm_g} {d A A' i k : Nat} {l : List Nat} {D : Nat → Nat} {s : fm_S} (hF : FX s) (hO : OD s A A') (hB : TB s) (h : CL s A l D) (hi : l[i]? = some k) : ∃ s', ev g (d + 2) mX7_load 0 [some (.ref (307 : Nat)), some (.int (Int32.ofNat i)), none, none, none] [] s = some (.inl (some (.long (Int64.ofNat (D k)))), s') ∧ FM pH (fun _ _ => False) s s' ∧ HN s' 310 k := by
  obtain ⟨o1, o2, o3, o4, o5⟩ := hO
  obtain ⟨a1, a2, a3, a4, a5⟩ := clS o3
  have hk : k < NS := h.2.2.1 k (List.mem_of_getElem? hi)
  have hk' : k < 9100 := hk
  have k1 := c1_stateAt (g := g) (d := d + 1) hF o3 h hi
  have r2 := hF.u 307 2 310 (by decide +kernel)
  have r0 := hF.u 307 0 308 (by decide +kernel)
  have r1 := hF.u 307 1 309 (by decide +kernel)
  obtain ⟨t1, t2⟩ := hB (k % 91) (by omega)
  obtain ⟨u1, u2, u3⟩ := rest_ok (k / 91) (by omega)
  have hmod : Int32.ofNat k - Int32.ofNat k / Int32.ofNat 91 * Int32.ofNat 91 = Int32.ofNat (k % 91) := n32_mod (by omega) (by decide)
  have hdiv : Int32.ofNat k / Int32.ofNat 91 = Int32.ofNat (k / 91) := n32_div (by omega) (by decide)
  have hmod' : Int32.ofNat k - Int32.ofNat (k / 91 * 91) = Int32.ofNat (k % 91) := by rw [n32_sub (by omega)]; congr 1; omega
  have g1 : ¬ 91 ≤ k % 91 := by omega
  have v1 : kcard k = k / 91 % 2 := rfl
  have v2 : kseen k = k / 91 / 2 % 2 := by unfold kseen; omega
  have v3 : kst k = k / 91 / 4 := by unfold kst; omega
  have w3 : Int32.ofNat (k / 91 / 4) - Int32.ofNat 1 = stI (kst k) := by rw [v3, stI_sub]
  refine ⟨pI (pI (pI (pI (pI s 310 0 (Int32.ofNat (kc k))) 310 1 (Int32.ofNat (kd k))) 310 2 (Int32.ofNat (kcard k))) 310 3 (Int32.ofNat (kseen k))) 310 4 (stI (kst k)), ?_, ?_, ?_⟩
  · have hC' : CL (pI (pI (pI (pI (pI s 310 0 (Int32.ofNat (kc k))) 310 1 (Int32.ofNat (kd k))) 310 2 (Int32.ofNat (kcard k))) 310 3 (Int32.ofNat (kseen k))) 310 4 (stI (kst k))) A l D := by
      have hA : A = 316 ∨ A = 319 := by simpa [clL] using o3
      refine h.of ?_ (fun j => ?_) (fun j => ?_)
      · simp only [gI_pI]; rw [if_neg (by omega), if_neg (by omega), if_neg (by omega), if_neg (by omega), if_neg (by omega)]
      · simp only [gI_pI]; rw [if_neg (by omega), if_neg (by omega), if_neg (by omega), if_neg (by omega), if_neg (by omega)]
      · simp only [gJ_pI]
    have k2 := c1_partsAt (g := g) (d := d) hF.pI.pI.pI.pI.pI o3 hC' hi
    rw [v1, v2] at k2 ⊢
    simp (disch := first | exact jm_lt0 | (apply jm_ltx; (repeat (first | exact jw_0 | apply jw_i | apply jw_r | apply jw_l)); omega) | omega | assumption | exact sa_307 | exact sa_308 | exact sa_309 | exact sa_310 | exact n32_inA sb_307 (by omega) (by omega) | exact n32_inA sb_308 (by omega) (by omega) | exact n32_inA sb_309 (by omega) (by omega) | exact n32_inA sb_310 (by omega) (by omega) | (refine n32_inA (by assumption) ?_ ?_ <;> omega) | exact bi01 | (rw [sa_307]; omega) | (rw [sa_308]; omega) | (rw [sa_309]; omega) | (rw [sa_310]; omega) | decide) only [sX7_load_0, sX7_load_1, sX7_load_4, sX7_load_5, sX7_load_8, sX7_load_9, sX7_load_10, sX7_load_12, sX7_load_13, sX7_load_14, sX7_load_15, sX7_load_17, sX7_load_18, sX7_load_20, sX7_load_21, sX7_load_24, sX7_load_25, sX7_load_27, sX7_load_30, sX7_load_31, sX7_load_34, sX7_load_35, sX7_load_38, sX7_load_39, sX7_load_40, sX7_load_43, sX7_load_44, sX7_load_47, sX7_load_48, sX7_load_51, sX7_load_52, sX7_load_53, kX7_load_56_AIIII, sX7_load_56, sX7_load_57, sX7_load_60, sX7_load_62, sX7_load_63, sX7_load_64, sX7_load_67, sX7_load_68, sX7_load_71, sX7_load_73, sX7_load_74, sX7_load_75, sX7_load_76, sX7_load_77, sX7_load_80, sX7_load_81, sX7_load_84, sX7_load_86, sX7_load_87, sX7_load_88, sX7_load_89, sX7_load_90, sX7_load_93, sX7_load_94, sX7_load_97, sX7_load_98, sX7_load_101, evK_n, evK_v, evK_x, gI_pI, gJ_pI, gR_pI, gI_pJ, gJ_pJ, gR_pJ, gI_pR, gJ_pR, gR_pR, n32_le, n32_lt, n32_add, n32_mul, n32_cl, if_true, if_false, not_true_eq_false, not_false_eq_true, and_true, true_and, and_false, false_and, and_self, or_true, true_or, or_false, false_or, or_self, ne_eq, Decidable.not_not, Nat.reduceEqDiff, Nat.reduceEqDiff, sa_307, sb_307, sa_308, sb_308, sa_309, sb_309, sa_310, sb_310, n32_lt0, o1, r0, r1, r2, k1, hmod, hdiv, hmod', g1, t1, t2, u1, u2, u3, w3, show cP (k % 91) = kc k from rfl, show dP (k % 91) = kd k from rfl, show ¬ (Int32.ofNat 91 = 0) by decide, ne_eq, not_false_eq_true]
    rw [k2, evK_v]
    simp (disch := first | exact jm_lt0 | (apply jm_ltx; (repeat (first | exact jw_0 | apply jw_i | apply jw_r | apply jw_l)); omega) | omega | assumption | exact sa_307 | exact n32_inA sb_307 (by omega) (by omega) | (refine n32_inA (by assumption) ?_ ?_ <;> omega) | exact bi01 | (rw [sa_307]; omega) | decide) only [sX7_load_0, sX7_load_1, sX7_load_4, sX7_load_5, sX7_load_8, sX7_load_9, sX7_load_10, sX7_load_12, sX7_load_13, sX7_load_14, sX7_load_15, sX7_load_17, sX7_load_18, sX7_load_20, sX7_load_21, sX7_load_24, sX7_load_25, sX7_load_27, sX7_load_30, sX7_load_31, sX7_load_34, sX7_load_35, sX7_load_38, sX7_load_39, sX7_load_40, sX7_load_43, sX7_load_44, sX7_load_47, sX7_load_48, sX7_load_51, sX7_load_52, sX7_load_53, kX7_load_56_AIIII, sX7_load_56, sX7_load_57, sX7_load_60, sX7_load_62, sX7_load_63, sX7_load_64, sX7_load_67, sX7_load_68, sX7_load_71, sX7_load_73, sX7_load_74, sX7_load_75, sX7_load_76, sX7_load_77, sX7_load_80, sX7_load_81, sX7_load_84, sX7_load_86, sX7_load_87, sX7_load_88, sX7_load_89, sX7_load_90, sX7_load_93, sX7_load_94, sX7_load_97, sX7_load_98, sX7_load_101]
  · refine FM.tr ?_ (FM.pI ⟨rfl, by omega⟩)
    refine FM.tr ?_ (FM.pI ⟨rfl, by omega⟩)
    refine FM.tr ?_ (FM.pI ⟨rfl, by omega⟩)
    refine FM.tr ?_ (FM.pI ⟨rfl, by omega⟩)
    refine FM.tr ?_ (FM.pI ⟨rfl, by omega⟩)
    exact FM.rf
  · unfold HN
    simp [gI_pI]
/-- nothing but the order of the two clouds' references -/
theorem pR_gR {s : fm_S} {a j b k v : Nat} : gR (pR s a j v) b k = if b = a ∧ k = j then v else gR s b k := rfl
theorem FXx : ∀ q ∈ fxL, ¬ (q.1 = 307 ∧ (q.2.1 = 8 ∨ q.2.1 = 9)) ∧ q.1 ≠ 315 := by decide +kernel
theorem FX.sw {s : fm_S} (h : FX s) {j v : Nat} (hj : j = 8 ∨ j = 9) : FX (pR s 307 j v) := fun q hq => by
  rw [pR_gR, if_neg (fun e => (FXx q hq).1 ⟨e.1, by omega⟩)]
  exact h q hq
theorem FX.dg {s : fm_S} (h : FX s) {j v : Nat} : FX (pR s 315 j v) := fun q hq => by
  rw [pR_gR, if_neg (fun e => (FXx q hq).2 e.1)]
  exact h q hq
theorem CL.pR {s : fm_S} {a b j v : Nat} {l : List Nat} {D : Nat → Nat} (h : CL s a l D) : CL (pR s b j v) a l D := h
theorem c7_goOn {g : fm_g} {d A A' : Nat} {l l' : List Nat} {D D' : Nat → Nat} {s : fm_S} (hF : FX s) (hO : OD s A A') (h : CL s A l D) (h' : CL s A' l' D') : ∃ s', ev g (d + 1) mX7_goOn 0 [some (.ref (307 : Nat)), none] [] s = some (.inl none, pR (pR s' 307 8 A') 307 9 A) ∧ FM (pC A) (qC A) s s' ∧ CL s' A [] (fun _ => 0) ∧ CL s' A' l' D' := by
  obtain ⟨o1, o2, o3, o4, o5⟩ := id hO
  obtain ⟨s', f1, f2, f3⟩ := c1_clear (g := g) (d := d) hF o3 h
  obtain ⟨p1, p2, -⟩ := hO.fm f2
  have hA : A = 316 ∨ A = 319 := by simpa [clL] using o3
  have hA' : A' = 316 ∨ A' = 319 := by simpa [clL] using o4
  refine ⟨s', ?_, f2, f3, h'.of (f2.2.1 _ _ (by unfold pC; omega)) (fun j => f2.2.1 _ _ (by unfold pC; omega)) (fun j => f2.2.2 _ _ (by unfold qC; omega))⟩
  have sA : (shp A).1 = 1 := (clS o3).1
  simp (disch := first | exact jm_lt0 | (apply jm_ltx; (repeat (first | exact jw_0 | apply jw_i | apply jw_r | apply jw_l)); omega) | omega | assumption | exact sa_307 | exact n32_inA sb_307 (by omega) (by omega) | (refine n32_inA (by assumption) ?_ ?_ <;> omega) | exact bi01 | (rw [sa_307]; omega) | decide) only [sX7_goOn_0, sX7_goOn_1, sX7_goOn_4, sX7_goOn_7, sX7_goOn_8, sX7_goOn_11, sX7_goOn_12, sX7_goOn_13, sX7_goOn_14, sX7_goOn_17, sX7_goOn_20, sX7_goOn_21, sX7_goOn_22, sX7_goOn_25, evK_n, evK_v, evK_x, gI_pI, gJ_pI, gR_pI, gI_pJ, gJ_pJ, gR_pJ, gI_pR, gJ_pR, gR_pR, n32_le, n32_lt, n32_add, n32_mul, n32_cl, if_true, if_false, not_true_eq_false, not_false_eq_true, and_true, true_and, and_false, false_and, and_self, or_true, true_or, or_false, false_or, or_self, ne_eq, Decidable.not_not, Nat.reduceEqDiff, Nat.reduceEqDiff, sa_307, sb_307, o1, f1, p1, p2, pR_gR, Nat.reduceEqDiff, show ¬ ((9 : Nat) = 8) by decide]
