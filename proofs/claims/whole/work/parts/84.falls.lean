/-! the class: the card falls -/
theorem lp_q {p q : Nat} (hp : p ≤ ONE) (hq : q ≤ 99) : Int64.ofNat p * Int64.ofNat q / Int64.ofNat 16 = Int64.ofNat (p * q / 16) := by
  have : p * q ≤ ONE * 99 := Nat.mul_le_mul hp hq
  have hO : ONE = 1099511627776 := rfl
  rw [n64_mul, n64_div (by omega) (by decide)]
/-- the counts are as they were -/
def CN (s s' : fm_S) : Prop := (∀ j, gJ s' 314 j = gJ s 314 j) ∧ ∀ j, gJ s' 307 j = gJ s 307 j
theorem CN.rf {s : fm_S} : CN s s := ⟨fun _ => rfl, fun _ => rfl⟩
theorem CN.tr {a b c : fm_S} (x : CN a b) (y : CN b c) : CN a c := ⟨fun j => (y.1 j).trans (x.1 j), fun j => (y.2 j).trans (x.2 j)⟩
theorem CN.fm {P Q : Nat → Nat → Prop} {s s' : fm_S} (x : FM P Q s s') (h1 : ∀ j, ¬ Q 314 j) (h2 : ∀ j, ¬ Q 307 j) : CN s s' := ⟨fun j => x.2.2 _ _ (h1 j), fun j => x.2.2 _ _ (h2 j)⟩
theorem CN.cl {A : Nat} {s s' : fm_S} (x : FM (pC A) (qC A) s s') (hA : A = 316 ∨ A = 319) : CN s s' := CN.fm x (fun j => by unfold qC; omega) (fun j => by unfold qC; omega)
theorem CN.h {P : Nat → Nat → Prop} {s s' : fm_S} (x : FM P (fun _ _ => False) s s') : CN s s' := CN.fm x (fun _ h => h) (fun _ h => h)
theorem CN.pI {s : fm_S} {a j : Nat} {v : Int32} : CN s (pI s a j v) := ⟨fun _ => by rw [gJ_pI], fun _ => by rw [gJ_pI]⟩
theorem HN.of {s s' : fm_S} {c k : Nat} (h : HN s c k) (e : ∀ j, j < 5 → gI s' c j = gI s c j) : HN s' c k := ⟨by rw [e _ (by omega), h.1], by rw [e _ (by omega), h.2.1], by rw [e _ (by omega), h.2.2.1], by rw [e _ (by omega), h.2.2.2.1], by rw [e _ (by omega), h.2.2.2.2]⟩
theorem FM.hand {A : Nat} {s s' : fm_S} (x : FM (pC A) (qC A) s s') (hA : A = 316 ∨ A = 319) (j : Nat) : gI s' 310 j = gI s 310 j := x.2.1 _ _ (by unfold pC; omega)
section FL
variable {s0 : fm_S} {A A' : Nat} {l : List Nat} {D : Nat → Nat}
/-- what is taken for granted of a way's beginning -/
def WB (s0 : fm_S) (A A' : Nat) (l : List Nat) (D : Nat → Nat) : Prop := FX s0 ∧ OD s0 A A' ∧ TB s0 ∧ CL s0 A l D ∧ CL s0 A' [] (fun _ => 0) ∧ sumN D NS ≤ ONE
theorem WB.dl (h : WB s0 A A' l D) {k : Nat} (hk : k < NS) : D k ≤ ONE := Nat.le_trans (sumN_one_le hk) h.2.2.2.2.2
theorem WB.it (h : WB s0 A A' l D) {i k : Nat} (hi : l[i]? = some k) : k < NS ∧ D k ≤ ONE := by
  have hk := h.2.2.2.1.2.2.1 k (List.mem_of_getElem? hi)
  exact ⟨hk, h.dl hk⟩
theorem WB.pr (h : WB s0 A A' l D) {con : Nat → Nat → List (Nat × Nat)} (hc : ∀ k, k < NS → amt (con k (D k)) ≤ D k) (i τ : Nat) : prt con D l i τ ≤ ONE := Nat.le_trans (prt_le h.2.2.2.1.2.1 h.2.2.2.1.2.2.1 hc) h.2.2.2.2.2
theorem WB.fin (h : WB s0 A A' l D) {con : Nat → Nat → List (Nat × Nat)} (hc : ∀ k, k < NS → amt (con k 0) = 0) : prt con D l l.length = pas con D := prt_end h.2.2.2.1.2.1 h.2.2.2.1.2.2.1 (fun k hk => (h.2.2.2.1.2.2.2.2 k hk).2.2) hc
theorem WB.ps (h : WB s0 A A' l D) {con : Nat → Nat → List (Nat × Nat)} : PS s0 s0 A A' l D (prt con D l 0) := ⟨FM.rf, h.2.2.2.1, [], by rw [prt_0]; exact h.2.2.2.2.1⟩
theorem c7_fallLoop {g : fm_g} {d q : Nat} (hW : WB s0 A A' l D) (hq : q ≤ 16) (h10 : gI s0 307 10 = Int32.ofNat q) : ∀ (m i : Nat) (s : fm_S), i + m = l.length → PS s0 s A A' l D (prt (cFall q) D l i) → CN s0 s → ∃ s', ev g (d + 3) mX7_enter 19 [some (.ref (307 : Nat)), none, none, some (.int (Int32.ofNat i)), none, none, none, none] [] s = some (.inl none, s') ∧ RM pO qO rsw s0 s' ∧ OS s' (pas (cFall q) D) ∧ CN s0 s' := by
  obtain ⟨hF, hO, hB, hC, hC', hS⟩ := id hW
  obtain ⟨a1, a2, a3⟩ := od_A hO
  have sA : (shp A).1 = 1 := (clS hO.2.2.1).1
  have sA' : (shp A').1 = 1 := (clS hO.2.2.2.1).1
  have hB2 : BIG = 4611686018427387904 := rfl
  have hO2 : ONE = 1099511627776 := rfl
  have hlen := hC.len
  have hamt : ∀ k, k < NS → amt (cFall q k (D k)) ≤ D k := fun k hk => Nat.le_of_eq (cFall_ok hq k (D k) hk trivial).1
  intro m
  induction m with
  | zero =>
    intro i s hi hP hN
    have hil : i = l.length := by omega
    subst hil
    obtain ⟨x1, x2, x3, x4, x5⟩ := hP.refs hF hO
    obtain ⟨s', f1, f2, f3, f4, f5⟩ := hP.goOn (g := g) (d := d + 1) hF hO
    refine ⟨s', ?_, f2, by rw [← hW.fin (fun k _ => cFall_0)]; exact f3, hN.tr ⟨f4, f5⟩⟩
    rw [sX7_enter_19]
    simp (disch := first | exact jm_lt0 | (apply jm_ltx; (repeat (first | exact jw_0 | apply jw_i | apply jw_r | apply jw_l)); omega) | omega | assumption | exact sa_307 | exact n32_inA sb_307 (by omega) (by omega) | (refine n32_inA (by assumption) ?_ ?_ <;> omega) | exact bi01 | (rw [sa_307]; omega) | decide) only [sX7_enter_0, sX7_enter_1, sX7_enter_4, sX7_enter_5, sX7_enter_6, sX7_enter_9, sX7_enter_10, sX7_enter_13, sX7_enter_16, kX7_enter_17_AAINNNNN, sX7_enter_17, sX7_enter_18, kX7_enter_19_ANNIJNJN, sX7_enter_20, sX7_enter_21, sX7_enter_24, sX7_enter_27, sX7_enter_30, sX7_enter_31, sX7_enter_32, sX7_enter_35, sX7_enter_37, sX7_enter_39, sX7_enter_40, sX7_enter_43, sX7_enter_44, sX7_enter_45, sX7_enter_48, sX7_enter_49, sX7_enter_51, sX7_enter_52, sX7_enter_55, sX7_enter_56, sX7_enter_59, sX7_enter_60, sX7_enter_63, sX7_enter_65, sX7_enter_67, sX7_enter_68, sX7_enter_71, sX7_enter_72, sX7_enter_75, sX7_enter_76, sX7_enter_77, sX7_enter_80, sX7_enter_83, sX7_enter_84, sX7_enter_87, sX7_enter_88, sX7_enter_91, sX7_enter_92, sX7_enter_95, sX7_enter_98, sX7_enter_100, sX7_enter_103, sX7_enter_106, kX7_enter_109_ANNINNNN, sX7_enter_109, sX7_enter_110, sX7_enter_113, evK_n, evK_v, evK_x, gI_pI, gJ_pI, gR_pI, gI_pJ, gJ_pJ, gR_pJ, gI_pR, gJ_pR, gR_pR, n32_le, n32_lt, n32_add, n32_mul, n32_cl, if_true, if_false, not_true_eq_false, not_false_eq_true, and_true, true_and, and_false, false_and, and_self, or_true, true_or, or_false, false_or, or_self, ne_eq, Decidable.not_not, Nat.reduceEqDiff, Nat.reduceEqDiff, sa_307, sb_307, x2, x5]
    rw [if_pos (by omega), f1, evK_n, sX7_enter_113]
  | succ m ih =>
    intro i s hi hP hN
    have hil : i < l.length := by omega
    have hik : l[i]? = some l[i] := List.getElem?_eq_getElem hil
    generalize l[i] = k at hik
    obtain ⟨hk, hDk⟩ := hW.it hik
    obtain ⟨x1, x2, x3, x4, x5⟩ := hP.refs hF hO
    have hpl := hW.pr hamt i
    obtain ⟨kl1, kl2, kl3⟩ := k_lt hk
    have hkcd := k_cd k
    have ht := tq (p := D k) hq
    -- the state in hand
    obtain ⟨s1, e1, hP1, hN1, hM1⟩ := hP.load (g := g) (d := d) hF hO hB hik
    obtain ⟨y1, y2, y3, y4, y5⟩ := hP1.refs hF hO
    have y6 : gI s1 307 10 = Int32.ofNat q := by rw [hP1.1.2.1 _ _ (by unfold pO HSK; omega), h10]
    have e2 := hP1.state (g := g) (d := d + 2) hF hO hik
    obtain ⟨s2, e3, hP2, hM2⟩ := hP1.add (g := g) (d := d + 2) (k := k) (m := D k - D k * q / 16) hF hO hk (by have := hpl k; omega)
    obtain ⟨z1, z2, z3, z4, z5⟩ := hP2.refs hF hO
    have hN2 : HN s2 310 k := hN1.of (fun j _ => hM2.hand a2 j)
    have hca : Int32.ofNat 1 - Int32.ofNat (kcard k) = Int32.ofNat (1 - kcard k) := n32_sub (by omega)
    have hP3 := hP2.hand hO (j := 2) (v := Int32.ofNat (1 - kcard k)) (by decide)
    have h5 : HN5 (pI s2 310 2 (Int32.ofNat (1 - kcard k))) 310 (kc k) (kd k) (1 - kcard k) (kseen k) (kst k) := ⟨by simp [gI_pI, hN2.1], by simp [gI_pI, hN2.2.1], by simp [gI_pI], by simp [gI_pI, hN2.2.2.2.1], by simp [gI_pI, hN2.2.2.2.2]⟩
    have e4 := c1_numberOf (g := g) (d := d + 2) (by decide) h5 hkcd
    rw [upd_1] at hP3
    have htal : ∀ τ, addF (prt (cFall q) D l i) [(k, D k - D k * q / 16)] τ ≤ ONE + (D k - D k * q / 16) := fun τ => by
      unfold addF
      rw [tal_cons, tal_nil]
      have := hpl τ
      split <;> omega
    obtain ⟨s4, e5, hP4, hM4⟩ := hP3.add (g := g) (d := d + 2) (k := nm (kc k) (kd k) (1 - kcard k) (kseen k) (kst k)) (m := D k * q / 16) hF hO (nm_lt hkcd (by omega) kl2 kl3) (by have := htal (nm (kc k) (kd k) (1 - kcard k) (kseen k) (kst k)); omega)
    rw [addF_upd] at hP4
    have hnext : addF (prt (cFall q) D l i) ([(k, D k - D k * q / 16)] ++ [(nm (kc k) (kd k) (1 - kcard k) (kseen k) (kst k), D k * q / 16)]) = prt (cFall q) D l (i + 1) := by rw [prt_succ hik]; rfl
    rw [hnext] at hP4
    obtain ⟨s', f1, f2, f3, f4⟩ := ih (i + 1) s4 (by omega) hP4 ((((hN.tr (CN.h hM1)).tr (CN.cl hM2 a2)).tr CN.pI).tr (CN.cl hM4 a2))
    refine ⟨s', ?_, f2, f3, f4⟩
    have g1 : ¬ l.length ≤ i := by omega
    have q1 : Int64.ofNat (D k) * Int64.ofNat q / Int64.ofNat 16 = Int64.ofNat (D k * q / 16) := lp_q hDk (by omega)
    have q1' : Int64.ofNat (D k * q) / Int64.ofNat 16 = Int64.ofNat (D k * q / 16) := by rw [← n64_mul, q1]
    have q2 : Int64.ofNat (D k) - Int64.ofNat (D k * q / 16) = Int64.ofNat (D k - D k * q / 16) := n64_sub ht
    rw [sX7_enter_19]
    simp (disch := first | exact jm_lt0 | (apply jm_ltx; (repeat (first | exact jw_0 | apply jw_i | apply jw_r | apply jw_l)); omega) | omega | assumption | exact sa_307 | exact sa_310 | exact n32_inA sb_307 (by omega) (by omega) | exact n32_inA sb_310 (by omega) (by omega) | (refine n32_inA (by assumption) ?_ ?_ <;> omega) | exact bi01 | (rw [sa_307]; omega) | (rw [sa_310]; omega) | decide) only [sX7_enter_0, sX7_enter_1, sX7_enter_4, sX7_enter_5, sX7_enter_6, sX7_enter_9, sX7_enter_10, sX7_enter_13, sX7_enter_16, kX7_enter_17_AAINNNNN, sX7_enter_17, sX7_enter_18, kX7_enter_19_ANNIJNJN, sX7_enter_20, sX7_enter_21, sX7_enter_24, sX7_enter_27, sX7_enter_30, sX7_enter_31, sX7_enter_32, sX7_enter_35, sX7_enter_37, sX7_enter_39, sX7_enter_40, sX7_enter_43, sX7_enter_44, sX7_enter_45, sX7_enter_48, sX7_enter_49, sX7_enter_51, sX7_enter_52, sX7_enter_55, sX7_enter_56, sX7_enter_59, sX7_enter_60, sX7_enter_63, sX7_enter_65, sX7_enter_67, sX7_enter_68, sX7_enter_71, sX7_enter_72, sX7_enter_75, sX7_enter_76, sX7_enter_77, sX7_enter_80, sX7_enter_83, sX7_enter_84, sX7_enter_87, sX7_enter_88, sX7_enter_91, sX7_enter_92, sX7_enter_95, sX7_enter_98, sX7_enter_100, sX7_enter_103, sX7_enter_106, kX7_enter_109_ANNINNNN, sX7_enter_109, sX7_enter_110, sX7_enter_113, evK_n, evK_v, evK_x, gI_pI, gJ_pI, gR_pI, gI_pJ, gJ_pJ, gR_pJ, gI_pR, gJ_pR, gR_pR, n32_le, n32_lt, n32_add, n32_mul, n32_cl, if_true, if_false, not_true_eq_false, not_false_eq_true, and_true, true_and, and_false, false_and, and_self, or_true, true_or, or_false, false_or, or_self, ne_eq, Decidable.not_not, Nat.reduceEqDiff, Nat.reduceEqDiff, sa_307, sb_307, sa_310, sb_310, x2, x5, g1, e1, y2, y3, y6, n32_64, q1, q1', q2, e2, e3, z4, hN2.2.2.1, hca, show ¬ (Int64.ofNat 16 = 0) by decide, ne_eq]
    have z3' : gR (pI s2 310 2 (Int32.ofNat (1 - kcard k))) 307 9 = A' := z3
    have z4' : gR (pI s2 310 2 (Int32.ofNat (1 - kcard k))) 307 2 = 310 := z4
    simp (disch := first | exact jm_lt0 | (apply jm_ltx; (repeat (first | exact jw_0 | apply jw_i | apply jw_r | apply jw_l)); omega) | omega | assumption | exact sa_307 | exact sa_310 | exact n32_inA sb_307 (by omega) (by omega) | exact n32_inA sb_310 (by omega) (by omega) | (refine n32_inA (by assumption) ?_ ?_ <;> omega) | exact bi01 | (rw [sa_307]; omega) | (rw [sa_310]; omega) | decide) only [sX7_enter_0, sX7_enter_1, sX7_enter_4, sX7_enter_5, sX7_enter_6, sX7_enter_9, sX7_enter_10, sX7_enter_13, sX7_enter_16, kX7_enter_17_AAINNNNN, sX7_enter_17, sX7_enter_18, kX7_enter_19_ANNIJNJN, sX7_enter_20, sX7_enter_21, sX7_enter_24, sX7_enter_27, sX7_enter_30, sX7_enter_31, sX7_enter_32, sX7_enter_35, sX7_enter_37, sX7_enter_39, sX7_enter_40, sX7_enter_43, sX7_enter_44, sX7_enter_45, sX7_enter_48, sX7_enter_49, sX7_enter_51, sX7_enter_52, sX7_enter_55, sX7_enter_56, sX7_enter_59, sX7_enter_60, sX7_enter_63, sX7_enter_65, sX7_enter_67, sX7_enter_68, sX7_enter_71, sX7_enter_72, sX7_enter_75, sX7_enter_76, sX7_enter_77, sX7_enter_80, sX7_enter_83, sX7_enter_84, sX7_enter_87, sX7_enter_88, sX7_enter_91, sX7_enter_92, sX7_enter_95, sX7_enter_98, sX7_enter_100, sX7_enter_103, sX7_enter_106, kX7_enter_109_ANNINNNN, sX7_enter_109, sX7_enter_110, sX7_enter_113, evK_n, evK_v, evK_x, gI_pI, gJ_pI, gR_pI, gI_pJ, gJ_pJ, gR_pJ, gI_pR, gJ_pR, gR_pR, n32_le, n32_lt, n32_add, n32_mul, n32_cl, if_true, if_false, not_true_eq_false, not_false_eq_true, and_true, true_and, and_false, false_and, and_self, or_true, true_or, or_false, false_or, or_self, ne_eq, Decidable.not_not, Nat.reduceEqDiff, Nat.reduceEqDiff, sa_307, sb_307, sa_310, sb_310, z3, z4, z3', z4', e4, e5, f1]
theorem OS.congr {s : fm_S} {D D' : Nat → Nat} (h : OS s D) (e : ∀ k, k < NS → D k = D' k) : OS s D' := by
  obtain ⟨A, A', l, h1, h2, h3⟩ := h
  refine ⟨A, A', l, h1, ⟨h2.1, h2.2.1, h2.2.2.1, h2.2.2.2.1, fun k hk => ?_⟩, h3⟩
  rw [← e k hk]
  exact h2.2.2.2.2 k hk
theorem fall_0 {D : Nat → Nat} {k : Nat} (hk : k < NS) : D k = pas (cFall 0) D k := by
  unfold pas
  rw [← sumN_at (f := D) hk]
  refine sumN_congr (fun j _ => ?_)
  simp [cFall, tal_cons, tal_nil, Nat.zero_div]
def pN (b j : Nat) : Prop := pO b j ∨ pE 310 b j
/-- a VISIT begins -/
theorem c7_enter {g : fm_g} {d q v : Nat} {w : WD} {s : fm_S} (hF : FX s) (hB : TB s) (hO : OS s D) (hD : sumN D NS ≤ ONE) (hC : CW s w) (hw : wOK w) (hv : v < wn w) (hq : q ≤ 16) (h10 : gI s 307 10 = Int32.ofNat q) : ∃ s', ev g (d + 4) mX7_enter 0 [some (.ref (307 : Nat)), some (.ref (4 : Nat)), some (.int (Int32.ofNat v)), none, none, none, none, none] [] s = some (.inl none, s') ∧ RM pN qO rsw s s' ∧ OS s' (pas (cFall q) D) ∧ CN s s' ∧ HE s' 310 w v := by
  obtain ⟨A, A', l, o1, o2, o3⟩ := hO
  obtain ⟨a1, a2, a3⟩ := od_A o1
  obtain ⟨s1, e1, hM1, hE1⟩ := c2_enter (g := g) (d := d) (c := 310) (by decide) hF hC hw hv
  have r2 := hF.u 307 2 310 (by decide +kernel)
  have hF1 := hM1.fx hF
  have y6 : gI s1 307 10 = Int32.ofNat q := by rw [hM1.2.1 _ _ (by unfold pE; omega), h10]
  have c1 : CL s1 A l D := o2.of (hM1.2.1 _ _ (by unfold pE; omega)) (fun j => hM1.2.1 _ _ (by unfold pE; omega)) (fun j => hM1.2.2 _ _ (fun h => h))
  have c2 : CL s1 A' [] (fun _ => 0) := o3.of (hM1.2.1 _ _ (by unfold pE; omega)) (fun j => hM1.2.1 _ _ (by unfold pE; omega)) (fun j => hM1.2.2 _ _ (fun h => h))
  have hB1 : TB s1 := hB.of (fun j => ⟨hM1.2.1 _ _ (by unfold pE; omega), hM1.2.1 _ _ (by unfold pE; omega)⟩)
  have hR1 : RM pN qO rsw s s1 := hM1.rm.mono (fun b j h => Or.inr h) (fun _ _ h => h.elim) (fun _ _ h => h)
  by_cases q0 : q = 0
  · subst q0
    refine ⟨s1, ?_, hR1, OS.congr ⟨A, A', l, o1.fm hM1, c1, c2⟩ (fun k hk => fall_0 hk), CN.h hM1, hE1⟩
    simp (disch := first | exact jm_lt0 | (apply jm_ltx; (repeat (first | exact jw_0 | apply jw_i | apply jw_r | apply jw_l)); omega) | omega | assumption | exact sa_307 | exact n32_inA sb_307 (by omega) (by omega) | (refine n32_inA (by assumption) ?_ ?_ <;> omega) | exact bi01 | (rw [sa_307]; omega) | decide) only [sX7_enter_0, sX7_enter_1, sX7_enter_4, sX7_enter_5, sX7_enter_6, sX7_enter_9, sX7_enter_10, sX7_enter_13, sX7_enter_16, kX7_enter_17_AAINNNNN, sX7_enter_17, sX7_enter_18, kX7_enter_19_ANNIJNJN, sX7_enter_20, sX7_enter_21, sX7_enter_24, sX7_enter_27, sX7_enter_30, sX7_enter_31, sX7_enter_32, sX7_enter_35, sX7_enter_37, sX7_enter_39, sX7_enter_40, sX7_enter_43, sX7_enter_44, sX7_enter_45, sX7_enter_48, sX7_enter_49, sX7_enter_51, sX7_enter_52, sX7_enter_55, sX7_enter_56, sX7_enter_59, sX7_enter_60, sX7_enter_63, sX7_enter_65, sX7_enter_67, sX7_enter_68, sX7_enter_71, sX7_enter_72, sX7_enter_75, sX7_enter_76, sX7_enter_77, sX7_enter_80, sX7_enter_83, sX7_enter_84, sX7_enter_87, sX7_enter_88, sX7_enter_91, sX7_enter_92, sX7_enter_95, sX7_enter_98, sX7_enter_100, sX7_enter_103, sX7_enter_106, kX7_enter_109_ANNINNNN, sX7_enter_109, sX7_enter_110, sX7_enter_113, evK_n, evK_v, evK_x, gI_pI, gJ_pI, gR_pI, gI_pJ, gJ_pJ, gR_pJ, gI_pR, gJ_pR, gR_pR, n32_le, n32_lt, n32_add, n32_mul, n32_cl, if_true, if_false, not_true_eq_false, not_false_eq_true, and_true, true_and, and_false, false_and, and_self, or_true, true_or, or_false, false_or, or_self, ne_eq, Decidable.not_not, Nat.reduceEqDiff, Nat.reduceEqDiff, sa_307, sb_307, r2, e1, y6, show ¬ ((0 : Int32) < Int32.ofNat 0) by decide]
  · obtain ⟨s', f1, f2, f3, f4⟩ := c7_fallLoop (g := g) (d := d + 1) (s0 := s1) ⟨hF1, o1.fm hM1, hB1, c1, c2, hD⟩ hq y6 l.length 0 s1 (by omega) (WB.ps ⟨hF1, o1.fm hM1, hB1, c1, c2, hD⟩) CN.rf
    refine ⟨s', ?_, hR1.tr (f2.mono (fun b j h => Or.inl h) (fun _ _ h => h) (fun _ _ h => h)), f3, (CN.h hM1).tr f4, hE1.of f2.2.1⟩
    have : (0 : Int32) < Int32.ofNat q := by rw [n32_0lt (by omega)]; omega
    simp (disch := first | exact jm_lt0 | (apply jm_ltx; (repeat (first | exact jw_0 | apply jw_i | apply jw_r | apply jw_l)); omega) | omega | assumption | exact sa_307 | exact n32_inA sb_307 (by omega) (by omega) | (refine n32_inA (by assumption) ?_ ?_ <;> omega) | exact bi01 | (rw [sa_307]; omega) | decide) only [sX7_enter_0, sX7_enter_1, sX7_enter_4, sX7_enter_5, sX7_enter_6, sX7_enter_9, sX7_enter_10, sX7_enter_13, sX7_enter_16, kX7_enter_17_AAINNNNN, sX7_enter_17, sX7_enter_18, kX7_enter_19_ANNIJNJN, sX7_enter_20, sX7_enter_21, sX7_enter_24, sX7_enter_27, sX7_enter_30, sX7_enter_31, sX7_enter_32, sX7_enter_35, sX7_enter_37, sX7_enter_39, sX7_enter_40, sX7_enter_43, sX7_enter_44, sX7_enter_45, sX7_enter_48, sX7_enter_49, sX7_enter_51, sX7_enter_52, sX7_enter_55, sX7_enter_56, sX7_enter_59, sX7_enter_60, sX7_enter_63, sX7_enter_65, sX7_enter_67, sX7_enter_68, sX7_enter_71, sX7_enter_72, sX7_enter_75, sX7_enter_76, sX7_enter_77, sX7_enter_80, sX7_enter_83, sX7_enter_84, sX7_enter_87, sX7_enter_88, sX7_enter_91, sX7_enter_92, sX7_enter_95, sX7_enter_98, sX7_enter_100, sX7_enter_103, sX7_enter_106, kX7_enter_109_ANNINNNN, sX7_enter_109, sX7_enter_110, sX7_enter_113, evK_n, evK_v, evK_x, gI_pI, gJ_pI, gR_pI, gI_pJ, gJ_pJ, gR_pJ, gI_pR, gJ_pR, gR_pR, n32_le, n32_lt, n32_add, n32_mul, n32_cl, if_true, if_false, not_true_eq_false, not_false_eq_true, and_true, true_and, and_false, false_and, and_self, or_true, true_or, or_false, false_or, or_self, ne_eq, Decidable.not_not, Nat.reduceEqDiff, Nat.reduceEqDiff, sa_307, sb_307, r2, e1, y6, this, f1]
end FL
