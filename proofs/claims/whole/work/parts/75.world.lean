/-! any stack beneath a call -/
def jw (n : Nat) (st : List Value) : Prop := (st.map jm_w).sum = n
theorem jw_0 : jw 0 [] := rfl
theorem jw_i {n : Nat} {st : List Value} {x : Int32} (h : jw n st) : jw (n + 1) (.int x :: st) := by
  unfold jw at *
  simp only [List.map_cons, List.sum_cons, h, jm_w]
  omega
theorem jw_r {n : Nat} {st : List Value} {x : Nat} (h : jw n st) : jw (n + 1) (.ref x :: st) := by
  unfold jw at *
  simp only [List.map_cons, List.sum_cons, h, jm_w]
  omega
theorem jw_l {n : Nat} {st : List Value} {x : Int64} (h : jw n st) : jw (n + 2) (.long x :: st) := by
  unfold jw at *
  simp only [List.map_cons, List.sum_cons, h, jm_w]
  omega
theorem jm_ltx {n : Nat} {st : List Value} (h : jw n st) (hn : n ≤ 8) : jm_lt st = true := by
  unfold jw at h
  unfold jm_lt
  rw [h]
  exact decide_eq_true hn
/-! the world that both have: tolds, prices, VISITS, HABITS (the RULE is the seventh), the BOOK -/
abbrev WD : Type := (Nat → Nat) × (Nat → Nat) × Nat × (Nat → Nat) × (Nat → Nat) × (Nat → HB) × Nat × (Nat → Nat × Nat × Nat)
abbrev wT (w : WD) : Nat → Nat := w.1
abbrev wP (w : WD) : Nat → Nat := w.2.1
abbrev wn (w : WD) : Nat := w.2.2.1
abbrev wW (w : WD) : Nat → Nat := w.2.2.2.1
abbrev wM (w : WD) : Nat → Nat := w.2.2.2.2.1
abbrev wH (w : WD) : Nat → HB := w.2.2.2.2.2.1
abbrev wl (w : WD) : Nat := w.2.2.2.2.2.2.1
abbrev wB (w : WD) : Nat → Nat × Nat × Nat := w.2.2.2.2.2.2.2
def wOK (w : WD) : Prop := (1 ≤ wT w 0 ∧ wT w 0 ≤ 12 ∧ wT w 1 + wT w 2 ≤ wT w 0 ∧ wT w 3 ≤ 1 ∧ wT w 4 ≤ 16 ∧ 1 ≤ wT w 5 ∧ wT w 5 ≤ 99 ∧ wT w 6 ≤ 16 ∧ wT w 7 ≤ 6) ∧ (∀ i, i < 5 → wP w i ≤ 99) ∧ wn w ≤ 24 ∧ (∀ v, v < wn w → wW w v < 6 ∧ wM w v ≤ 480) ∧ (∀ p, p < 7 → hOK (wH w p)) ∧ wl w ≤ 10 ∧ ∀ i, i < wl w → (wB w i).1 < 24 ∧ (wB w i).2.1 < 3 ∧ (wB w i).2.2 ≤ 12
theorem wOK.T {w : WD} (h : wOK w) {i : Nat} (hi : i < 8) : wT w i ≤ 99 := by
  obtain ⟨h, -⟩ := h
  have : i = 0 ∨ i = 1 ∨ i = 2 ∨ i = 3 ∨ i = 4 ∨ i = 5 ∨ i = 6 ∨ i = 7 := by omega
  rcases this with rfl | rfl | rfl | rfl | rfl | rfl | rfl | rfl <;> omega
/-- the class's HABITS by number -/
def hcl (p : Nat) : Nat := if p < 6 then 65 + 7 * p else 54
theorem hcl_in {p : Nat} (h : p < 7) : hcl p ∈ hbL := by
  have : p = 0 ∨ p = 1 ∨ p = 2 ∨ p = 3 ∨ p = 4 ∨ p = 5 ∨ p = 6 := by omega
  rcases this with rfl | rfl | rfl | rfl | rfl | rfl | rfl <;> decide
/-- the class's world is this one -/
def CW (s : fm_S) (w : WD) : Prop := (∀ i, i < 8 → gI s 51 i = Int32.ofNat (wT w i)) ∧ (∀ i, i < 5 → gI s 52 i = Int32.ofNat (wP w i)) ∧ (∃ c, DI s 5 c (wn w) (wW w) (wM w)) ∧ (∀ p, p < 7 → HC s (hcl p) (wH w p)) ∧ gI s 61 0 = Int32.ofNat (wl w) ∧ ∀ i, i < wl w → gI s 62 i = Int32.ofNat (wB w i).1 ∧ gI s 63 i = Int32.ofNat (wB w i).2.1 ∧ gI s 64 i = Int32.ofNat (wB w i).2.2
/-- the cells that reckoning changes: those behind 306 and the HABITS' stacks -/
def TC (b j : Nat) : Prop := (306 ≤ b ∧ b < 432) ∨ ((b = 60 ∨ b = 71 ∨ b = 78 ∨ b = 85 ∨ b = 92 ∨ b = 99 ∨ b = 106) ∨ (j = 8 ∧ (b = 54 ∨ b = 65 ∨ b = 72 ∨ b = 79 ∨ b = 86 ∨ b = 93 ∨ b = 100)))
theorem CW.of {s s' : fm_S} {w : WD} (h : CW s w) (hw : wOK w) (e : ∀ b j, ¬ TC b j → gI s' b j = gI s b j) : CW s' w := by
  obtain ⟨h1, h2, ⟨c, h3⟩, h4, h5, h6⟩ := h
  obtain ⟨-, -, -, -, hH, hl, -⟩ := hw
  refine ⟨fun i hi => by rw [e _ _ (by unfold TC; omega), h1 i hi], fun i hi => by rw [e _ _ (by unfold TC; omega), h2 i hi], ⟨c, ?_⟩, fun p hp => ?_, by rw [e _ _ (by unfold TC; omega), h5], fun i hi => ?_⟩
  · obtain ⟨d1, d2, d3, d4, d5⟩ := h3
    refine ⟨by rw [e _ _ (by unfold TC; omega), d1], d2, by rw [e _ _ (by unfold TC; omega), d3], d4, fun v hv => ?_⟩
    obtain ⟨⟨k1, k2⟩, k3, k4⟩ := d5 v hv
    exact ⟨⟨by rw [e _ _ (by unfold TC; omega), k1], k2⟩, by rw [e _ _ (by unfold TC; omega), k3], k4⟩
  · obtain ⟨c1, c2, c3, c4⟩ := h4 p hp
    obtain ⟨o1, o2, -⟩ := hH p hp
    have hc : hcl p = 54 ∨ hcl p = 65 ∨ hcl p = 72 ∨ hcl p = 79 ∨ hcl p = 86 ∨ hcl p = 93 ∨ hcl p = 100 := by unfold hcl; split <;> omega
    refine ⟨by rw [e _ _ (by unfold TC; omega), c1], by rw [e _ _ (by unfold TC; omega), c2], fun i hi => ?_, fun i hi => by rw [e _ _ (by unfold TC; omega), c4 i hi]⟩
    obtain ⟨q1, q2, q3, q4⟩ := c3 i hi
    exact ⟨by rw [e _ _ (by unfold TC; omega), q1], by rw [e _ _ (by unfold TC; omega), q2], by rw [e _ _ (by unfold TC; omega), q3], by rw [e _ _ (by unfold TC; omega), q4]⟩
  · obtain ⟨q1, q2, q3⟩ := h6 i hi
    exact ⟨by rw [e _ _ (by unfold TC; omega), q1], by rw [e _ _ (by unfold TC; omega), q2], by rw [e _ _ (by unfold TC; omega), q3]⟩
theorem c8_toldOf {g : fm_g} {d i : Nat} {s : fm_S} (hF : FX s) (hi : i < 8) : ev g d mX8_toldOf 0 [some (.ref (4 : Nat)), some (.int (Int32.ofNat i))] [] s = some (.inl (some (.int (gI s 51 i))), s) := by
  have r1 := hF.u 4 1 51 (by decide +kernel)
  simp (disch := first | exact jm_lt0 | exact jm_lti | exact jm_ltr | exact jm_ltl | exact jm_lti2 | exact jm_ltri | exact jm_ltir | exact jm_ltrr | exact jm_ltl2 | exact jm_ltrl | exact jm_ltlr | omega | assumption | exact sa_4 | exact sa_51 | exact n32_inA sb_4 (by omega) (by omega) | exact n32_inA sb_51 (by omega) (by omega) | exact bi01 | (rw [sa_4]; omega) | (rw [sa_51]; omega) | decide) only [sX8_toldOf_0, sX8_toldOf_1, sX8_toldOf_4, sX8_toldOf_5, sX8_toldOf_6, sX8_toldOf_9, sX8_toldOf_10, sX8_toldOf_13, sX8_toldOf_14, sX8_toldOf_17, sX8_toldOf_18, sX8_toldOf_19, kX8_toldOf_22_AI, sX8_toldOf_22, kX8_toldOf_23_AI, sX8_toldOf_23, evK_n, evK_v, evK_x, gI_pI, gJ_pI, gR_pI, gI_pJ, gJ_pJ, gR_pJ, gI_pR, gJ_pR, gR_pR, sa_4, sb_4, sa_51, sb_51, n32_le, n32_lt, n32_add, n32_mul, n32_cl, n32_lt0, r1, if_false]
  rw [if_neg (by omega)]
theorem c8_priceOf {g : fm_g} {d i : Nat} {s : fm_S} (hF : FX s) (hi : i < 5) : ev g d mX8_priceOf 0 [some (.ref (4 : Nat)), some (.int (Int32.ofNat i))] [] s = some (.inl (some (.int (gI s 52 i))), s) := by
  have r1 := hF.u 4 2 52 (by decide +kernel)
  simp (disch := first | exact jm_lt0 | exact jm_lti | exact jm_ltr | exact jm_ltl | exact jm_lti2 | exact jm_ltri | exact jm_ltir | exact jm_ltrr | exact jm_ltl2 | exact jm_ltrl | exact jm_ltlr | omega | assumption | exact sa_4 | exact sa_52 | exact n32_inA sb_4 (by omega) (by omega) | exact n32_inA sb_52 (by omega) (by omega) | exact bi01 | (rw [sa_4]; omega) | (rw [sa_52]; omega) | decide) only [sX8_priceOf_0, sX8_priceOf_1, sX8_priceOf_4, sX8_priceOf_5, sX8_priceOf_6, sX8_priceOf_9, sX8_priceOf_10, sX8_priceOf_13, sX8_priceOf_14, sX8_priceOf_17, sX8_priceOf_18, sX8_priceOf_19, kX8_priceOf_22_AI, sX8_priceOf_22, kX8_priceOf_23_AI, sX8_priceOf_23, evK_n, evK_v, evK_x, gI_pI, gJ_pI, gR_pI, gI_pJ, gJ_pJ, gR_pJ, gI_pR, gJ_pR, gR_pR, sa_4, sb_4, sa_52, sb_52, n32_le, n32_lt, n32_add, n32_mul, n32_cl, n32_lt0, r1, if_false]
  rw [if_neg (by omega)]
theorem w_told {g : fm_g} {d i : Nat} {w : WD} {s : fm_S} (hF : FX s) (hC : CW s w) (hi : i < 8) : ev g d mX8_toldOf 0 [some (.ref (4 : Nat)), some (.int (Int32.ofNat i))] [] s = some (.inl (some (.int (Int32.ofNat (wT w i)))), s) := by
  rw [c8_toldOf hF hi, hC.1 i hi]
theorem w_price {g : fm_g} {d i : Nat} {w : WD} {s : fm_S} (hF : FX s) (hC : CW s w) (hi : i < 5) : ev g d mX8_priceOf 0 [some (.ref (4 : Nat)), some (.int (Int32.ofNat i))] [] s = some (.inl (some (.int (Int32.ofNat (wP w i)))), s) := by
  rw [c8_priceOf hF hi, hC.2.1 i hi]
/-- cells that are touched: those of ints, those of longs -/
def FM (P Q : Nat → Nat → Prop) (s s' : fm_S) : Prop := s'.2.2 = s.2.2 ∧ (∀ b j, ¬ P b j → gI s' b j = gI s b j) ∧ ∀ b j, ¬ Q b j → gJ s' b j = gJ s b j
theorem FM.rf {P Q : Nat → Nat → Prop} {s : fm_S} : FM P Q s s := ⟨rfl, fun _ _ _ => rfl, fun _ _ _ => rfl⟩
theorem FM.tr {P Q : Nat → Nat → Prop} {a b c : fm_S} (x : FM P Q a b) (y : FM P Q b c) : FM P Q a c := ⟨y.1.trans x.1, fun b j h => (y.2.1 b j h).trans (x.2.1 b j h), fun b j h => (y.2.2 b j h).trans (x.2.2 b j h)⟩
theorem FM.mono {P Q P' Q' : Nat → Nat → Prop} {s s' : fm_S} (x : FM P Q s s') (hP : ∀ b j, P b j → P' b j) (hQ : ∀ b j, Q b j → Q' b j) : FM P' Q' s s' := ⟨x.1, fun b j h => x.2.1 b j (fun q => h (hP b j q)), fun b j h => x.2.2 b j (fun q => h (hQ b j q))⟩
theorem FM.fx {P Q : Nat → Nat → Prop} {s s' : fm_S} (x : FM P Q s s') (hF : FX s) : FX s' := hF.of (by rw [x.1])
theorem FM.pI {P Q : Nat → Nat → Prop} {s : fm_S} {a k : Nat} {v : Int32} (h : P a k) : FM P Q s (pI s a k v) := ⟨rfl, fun b j hb => by rw [gI_pI, if_neg (fun q => hb (by rw [q.1, q.2]; exact h))], fun b j _ => by rw [gJ_pI]⟩
theorem FM.pJ {P Q : Nat → Nat → Prop} {s : fm_S} {a k : Nat} {v : Int64} (h : Q a k) : FM P Q s (pJ s a k v) := ⟨rfl, fun b j _ => by rw [gI_pJ], fun b j hb => by rw [gJ_pJ, if_neg (fun q => hb (by rw [q.1, q.2]; exact h))]⟩
theorem FM.gR {P Q : Nat → Nat → Prop} {s s' : fm_S} (x : FM P Q s s') (b j : Nat) : gR s' b j = gR s b j := by
  show s'.2.2.1 b j = s.2.2.1 b j
  rw [x.1]
theorem SF.fm {h : Nat} {s s' : fm_S} (x : SF h s s') {P Q : Nat → Nat → Prop} (h1 : ∀ j, P (h + 6) j) (h2 : P h 8) : FM P Q s s' := ⟨by rw [x.1], fun b j hb => x.2 b j (fun q => hb (by rw [q]; exact h1 j)) (fun q => hb (by rw [q.1, q.2]; exact h2)), fun b j _ => by show s'.2.1 b j = s.2.1 b j; rw [x.1]⟩
/-- warm in the MINUTE of the VISIT v, when started at the VISIT u -/
def wrm (w : WD) (v u : Nat) : Bool := decide (wM w v < wT w 5 + wM w u)
theorem wrm_i {w : WD} {v u : Nat} (hw : wOK w) (hv : v < wn w) (hu : u < wn w) : (Int32.ofNat (wT w 5) ≤ Int32.ofNat (wM w v) - Int32.ofNat (wM w u)) = (wrm w v u = false) := by
  obtain ⟨h1, -, -, h4, -⟩ := hw
  have m1 := (h4 v hv).2
  have m2 := (h4 u hu).2
  unfold wrm
  rw [decide_eq_false_iff_not, Int32.le_iff_toInt_le, n32_toInt (by omega), Int32.toInt_sub, n32_toInt (by omega), n32_toInt (by omega), Int.bmod_eq_of_le (by omega) (by omega)]
  refine propext ⟨fun h => by omega, fun h => by omega⟩
def kwm (w : WD) (v k : Nat) : Bool := decide (0 < kst k) && wrm w v (kst k - 1)
/-- what the words of a condition are worth in the VISIT v -/
def wX (w : WD) (v k : Nat) : Nat → Int32 := fun j => if j = 0 then Int32.ofNat (kcard k) else if j = 1 then bi (kwm w v k = true) else if j = 2 then Int32.ofNat (kc k + kd k) else if j = 3 then Int32.ofNat (wT w 0) - Int32.ofNat (kc k) - Int32.ofNat (kd k) else if j = 4 then Int32.ofNat (wM w v) else if j = 5 then Int32.ofNat (kseen k) else if j = 6 then sncW (wW w) (wM w) v v else Int32.ofNat (cntW (wW w) (wW w v) (v + 1))
