/-! the model: a state in hand; the card falls -/
def MH (t : fm_S) (k : Nat) : Prop := gI t 432 51 = Int32.ofNat (kc k) ∧ gI t 432 52 = Int32.ofNat (kd k) ∧ gI t 432 53 = Int32.ofNat (kcard k) ∧ gI t 432 54 = Int32.ofNat (kst k) ∧ gI t 432 55 = Int32.ofNat (kseen k)
theorem MH.of {t t' : fm_S} {k : Nat} (h : MH t k) (e : ∀ j, 51 ≤ j → j ≤ 55 → gI t' 432 j = gI t 432 j) : MH t' k := ⟨by rw [e _ (by omega) (by omega), h.1], by rw [e _ (by omega) (by omega), h.2.1], by rw [e _ (by omega) (by omega), h.2.2.1], by rw [e _ (by omega) (by omega), h.2.2.2.1], by rw [e _ (by omega) (by omega), h.2.2.2.2]⟩
def pMh (b j : Nat) : Prop := b = 432 ∧ 51 ≤ j ∧ j ≤ 55
theorem dv32 {a b : Nat} (ha : a < 100000) (hb : b < 100000) : Int32.ofNat a / Int32.ofNat b = Int32.ofNat (a / b) := n32_div (by omega) (by omega)
theorem rm32 {a b : Nat} (ha : a < 100000) : Int32.ofNat a - Int32.ofNat (a / b * b) = Int32.ofNat (a % b) := by
  have := Nat.div_mul_le_self a b
  rw [n32_sub this]
  congr 1
  have := Nat.div_add_mod a b
  rw [Nat.mul_comm] at this
  omega
theorem m_stateOf {g : fm_g} {d k : Nat} {t : fm_S} (hk : k < NS) : ∃ t', ev g d mX12_stateOf 0 [some (.ref (432 : Nat)), some (.int (Int32.ofNat (mix k)))] [] t = some (.inl none, t') ∧ FM pMh nO t t' ∧ MH t' k := by
  have hm := mix_lt hk
  obtain ⟨kl1, kl2, kl3⟩ := k_lt hk
  have hkcd := k_cd k
  obtain ⟨x1, x2, x3, x4, x5⟩ := mx_dec (c := kc k) (show kd k ≤ 12 by omega) kl1 kl2 kl3
  have hmk : mx (kc k) (kd k) (kcard k) (kst k) (kseen k) = mix k := rfl
  rw [hmk] at x1 x2 x3 x4 x5
  generalize mix k = q at *
  refine ⟨pI (pI (pI (pI (pI t 432 55 (Int32.ofNat (kseen k))) 432 54 (Int32.ofNat (kst k))) 432 53 (Int32.ofNat (kcard k))) 432 52 (Int32.ofNat (kd k))) 432 51 (Int32.ofNat (kc k)), ?_, ?_, ?_⟩
  · have d2 := dv32 (a := q) (b := 2) (by omega) (by decide)
    have d50 := dv32 (a := q) (b := 50) (by omega) (by decide)
    have d100 := dv32 (a := q) (b := 100) (by omega) (by decide)
    have d1300 := dv32 (a := q) (b := 1300) (by omega) (by decide)
    have d25 := dv32 (a := q / 2) (b := 25) (by omega) (by decide)
    have d52 := dv32 (a := q / 50) (b := 2) (by omega) (by decide)
    have d13 := dv32 (a := q / 100) (b := 13) (by omega) (by decide)
    have s2 := rm32 (a := q) (b := 2) (by omega)
    have s25 := rm32 (a := q / 2) (b := 25) (by omega)
    have s52 := rm32 (a := q / 50) (b := 2) (by omega)
    have s13 := rm32 (a := q / 100) (b := 13) (by omega)
    rw [x5] at s2
    rw [x4] at s25
    rw [x3] at s52
    rw [x2] at s13
    rw [x1] at d1300
    simp (disch := first | exact jm_lt0 | (apply jm_ltx; (repeat (first | exact jw_0 | apply jw_i | apply jw_r | apply jw_l)); omega) | omega | assumption | exact sa_432 | exact n32_inA sb_432 (by omega) (by omega) | (refine n32_inA (by assumption) ?_ ?_ <;> omega) | exact bi01 | (rw [sa_432]; omega) | decide) only [sX12_stateOf_0, sX12_stateOf_1, sX12_stateOf_2, sX12_stateOf_3, sX12_stateOf_4, sX12_stateOf_7, sX12_stateOf_8, sX12_stateOf_9, sX12_stateOf_10, sX12_stateOf_11, sX12_stateOf_13, sX12_stateOf_14, sX12_stateOf_17, sX12_stateOf_18, sX12_stateOf_19, sX12_stateOf_21, sX12_stateOf_22, sX12_stateOf_23, sX12_stateOf_24, sX12_stateOf_27, sX12_stateOf_28, sX12_stateOf_29, sX12_stateOf_31, sX12_stateOf_32, sX12_stateOf_34, sX12_stateOf_35, sX12_stateOf_38, sX12_stateOf_39, sX12_stateOf_40, sX12_stateOf_43, sX12_stateOf_44, sX12_stateOf_47, evK_n, evK_v, evK_x, gI_pI, gJ_pI, gR_pI, gI_pJ, gJ_pJ, gR_pJ, gI_pR, gJ_pR, gR_pR, n32_mul, if_true, if_false, not_true_eq_false, not_false_eq_true, and_true, true_and, and_false, false_and, and_self, or_true, true_or, or_false, false_or, or_self, ne_eq, Decidable.not_not, Nat.reduceEqDiff, Nat.reduceEqDiff, sa_432, sb_432, d2, d50, d100, d1300, d25, d52, d13, s2, s25, s52, s13, show ¬ (Int32.ofNat 2 = 0) by decide, show ¬ (Int32.ofNat 25 = 0) by decide, show ¬ (Int32.ofNat 50 = 0) by decide, show ¬ (Int32.ofNat 100 = 0) by decide, show ¬ (Int32.ofNat 13 = 0) by decide, show ¬ (Int32.ofNat 1300 = 0) by decide, ne_eq, not_false_eq_true]
  · refine FM.tr ?_ (FM.pI ⟨rfl, by omega, by omega⟩)
    refine FM.tr ?_ (FM.pI ⟨rfl, by omega, by omega⟩)
    refine FM.tr ?_ (FM.pI ⟨rfl, by omega, by omega⟩)
    refine FM.tr ?_ (FM.pI ⟨rfl, by omega, by omega⟩)
    refine FM.tr ?_ (FM.pI ⟨rfl, by omega, by omega⟩)
    exact FM.rf
  · unfold MH
    simp [gI_pI]
theorem m_isWarm {g : fm_g} {d k v : Nat} {w : WD} {t : fm_S} (hF : FX t) (hW : MW t w) (hw : wOK w) (hH : MH t k) (hv : v < wn w) (hst : kst k ≤ wn w) : ev g d mX12_isWarm 0 [some (.ref (432 : Nat)), some (.int (Int32.ofNat v))] [] t = some (.inl (some (.int (bi (kwm w v k = true)))), t) := by
  obtain ⟨w1, w2, w3, w4, w5⟩ := hW
  have hn : wn w ≤ 24 := hw.2.2.1
  have r15 := hF.u 432 15 440 (by decide +kernel)
  have r11 := hF.u 432 11 436 (by decide +kernel)
  have h54 := hH.2.2.2.1
  have mv := (w4.2.2 v hv).2.1
  have o5 := w1 5 (by decide)
  rcases Nat.eq_zero_or_pos (kst k) with hu | hu
  · have hn' : ¬ kwm w v k = true := by unfold kwm; rw [hu]; simp
    rw [hu] at h54
    simp (disch := first | exact jm_lt0 | (apply jm_ltx; (repeat (first | exact jw_0 | apply jw_i | apply jw_r | apply jw_l)); omega) | omega | assumption | exact sa_432 | exact n32_inA sb_432 (by omega) (by omega) | (refine n32_inA (by assumption) ?_ ?_ <;> omega) | exact bi01 | (rw [sa_432]; omega) | decide) only [sX12_isWarm_0, sX12_isWarm_1, sX12_isWarm_4, sX12_isWarm_7, sX12_isWarm_8, sX12_isWarm_11, sX12_isWarm_12, sX12_isWarm_13, sX12_isWarm_14, sX12_isWarm_17, sX12_isWarm_18, sX12_isWarm_21, sX12_isWarm_22, sX12_isWarm_23, sX12_isWarm_24, sX12_isWarm_25, sX12_isWarm_26, sX12_isWarm_29, sX12_isWarm_30, sX12_isWarm_31, sX12_isWarm_34, sX12_isWarm_35, kX12_isWarm_38_AI, sX12_isWarm_38, kX12_isWarm_39_AI, sX12_isWarm_39, evK_n, evK_v, evK_x, gI_pI, gJ_pI, gR_pI, gI_pJ, gJ_pJ, gR_pJ, gI_pR, gJ_pR, gR_pR, n32_le, n32_lt, n32_add, n32_mul, n32_cl, if_true, if_false, not_true_eq_false, not_false_eq_true, and_true, true_and, and_false, false_and, and_self, or_true, true_or, or_false, false_or, or_self, ne_eq, Decidable.not_not, Nat.reduceEqDiff, Nat.reduceEqDiff, sa_432, sb_432, h54, show (Int32.ofNat 0 ≤ 0) = True from eq_true (by decide), bi_f hn']
  · obtain ⟨u, hu⟩ : ∃ u, kst k = u + 1 := ⟨kst k - 1, by omega⟩
    rw [hu] at h54 hst
    have mu := (w4.2.2 u (by omega)).2.1
    have hz : ¬ u + 1 = 0 := by omega
    have hs : Int32.ofNat (u + 1) - Int32.ofNat 1 = Int32.ofNat u := n32_sub (a := u + 1) (b := 1) (by omega)
    have hb : kwm w v k = wrm w v u := by unfold kwm; rw [hu]; simp
    rw [hb]
    have hwr := wrm_i hw hv (show u < wn w by omega)
    cases c : wrm w v u with
    | true =>
      rw [c] at hwr
      simp (disch := first | exact jm_lt0 | (apply jm_ltx; (repeat (first | exact jw_0 | apply jw_i | apply jw_r | apply jw_l)); omega) | omega | assumption | exact sa_432 | exact sa_440 | exact sa_436 | exact n32_inA sb_432 (by omega) (by omega) | exact n32_inA sb_440 (by omega) (by omega) | exact n32_inA sb_436 (by omega) (by omega) | (refine n32_inA (by assumption) ?_ ?_ <;> omega) | exact bi01 | (rw [sa_432]; omega) | (rw [sa_440]; omega) | (rw [sa_436]; omega) | decide) only [sX12_isWarm_0, sX12_isWarm_1, sX12_isWarm_4, sX12_isWarm_7, sX12_isWarm_8, sX12_isWarm_11, sX12_isWarm_12, sX12_isWarm_13, sX12_isWarm_14, sX12_isWarm_17, sX12_isWarm_18, sX12_isWarm_21, sX12_isWarm_22, sX12_isWarm_23, sX12_isWarm_24, sX12_isWarm_25, sX12_isWarm_26, sX12_isWarm_29, sX12_isWarm_30, sX12_isWarm_31, sX12_isWarm_34, sX12_isWarm_35, kX12_isWarm_38_AI, sX12_isWarm_38, kX12_isWarm_39_AI, sX12_isWarm_39, evK_n, evK_v, evK_x, gI_pI, gJ_pI, gR_pI, gI_pJ, gJ_pJ, gR_pJ, gI_pR, gJ_pR, gR_pR, n32_le, n32_lt, n32_add, n32_mul, n32_cl, if_true, if_false, not_true_eq_false, not_false_eq_true, and_true, true_and, and_false, false_and, and_self, or_true, true_or, or_false, false_or, or_self, ne_eq, Decidable.not_not, Nat.reduceEqDiff, Nat.reduceEqDiff, sa_432, sb_432, sa_440, sb_440, sa_436, sb_436, h54, n32_le0, hz, r15, r11, mv, mu, hs, o5, hwr, Bool.true_eq_false, bi]
    | false =>
      rw [c] at hwr
      simp (disch := first | exact jm_lt0 | (apply jm_ltx; (repeat (first | exact jw_0 | apply jw_i | apply jw_r | apply jw_l)); omega) | omega | assumption | exact sa_432 | exact sa_440 | exact sa_436 | exact n32_inA sb_432 (by omega) (by omega) | exact n32_inA sb_440 (by omega) (by omega) | exact n32_inA sb_436 (by omega) (by omega) | (refine n32_inA (by assumption) ?_ ?_ <;> omega) | exact bi01 | (rw [sa_432]; omega) | (rw [sa_440]; omega) | (rw [sa_436]; omega) | decide) only [sX12_isWarm_0, sX12_isWarm_1, sX12_isWarm_4, sX12_isWarm_7, sX12_isWarm_8, sX12_isWarm_11, sX12_isWarm_12, sX12_isWarm_13, sX12_isWarm_14, sX12_isWarm_17, sX12_isWarm_18, sX12_isWarm_21, sX12_isWarm_22, sX12_isWarm_23, sX12_isWarm_24, sX12_isWarm_25, sX12_isWarm_26, sX12_isWarm_29, sX12_isWarm_30, sX12_isWarm_31, sX12_isWarm_34, sX12_isWarm_35, kX12_isWarm_38_AI, sX12_isWarm_38, kX12_isWarm_39_AI, sX12_isWarm_39, evK_n, evK_v, evK_x, gI_pI, gJ_pI, gR_pI, gI_pJ, gJ_pJ, gR_pJ, gI_pR, gJ_pR, gR_pR, n32_le, n32_lt, n32_add, n32_mul, n32_cl, if_true, if_false, not_true_eq_false, not_false_eq_true, and_true, true_and, and_false, false_and, and_self, or_true, true_or, or_false, false_or, or_self, ne_eq, Decidable.not_not, Nat.reduceEqDiff, Nat.reduceEqDiff, sa_432, sb_432, sa_440, sb_440, sa_436, sb_436, h54, n32_le0, hz, r15, r11, mv, mu, hs, o5, hwr, Bool.false_eq_true, bi]
/-- in the midst of a way of the model's -/
def QS (t0 t : fm_S) (l : List Nat) (D F : Nat → Nat) : Prop := FM pM qM t0 t ∧ ML t l D ∧ ∃ l', MX t l' F
def MB (t0 : fm_S) (l : List Nat) (D : Nat → Nat) : Prop := FX t0 ∧ ML t0 l D ∧ MX t0 [] (fun _ => 0) ∧ sumN D NS ≤ ONE
def OM (t : fm_S) (D : Nat → Nat) : Prop := ∃ l, ML t l D ∧ MX t [] (fun _ => 0) ∧ ∀ k ∈ l, D k ≠ 0
/-- .. states without parts may be in the row too -/
def OMw (t : fm_S) (D : Nat → Nat) (u : Nat) : Prop := ∃ l, ML t l D ∧ MX t [] (fun _ => 0) ∧ ∀ k ∈ l, kst k ≤ u
theorem OM.w {t : fm_S} {D : Nat → Nat} {u : Nat} (h : OM t D) (hS : SUP u D) : OMw t D u := by
  obtain ⟨l, h1, h2, h3⟩ := h
  exact ⟨l, h1, h2, fun k hk => (hS k (h3 k hk)).2⟩
/-- the model's counts are as they were -/
def CM (t t' : fm_S) : Prop := (∀ j, gJ t' 455 j = gJ t 455 j) ∧ gJ t' 432 41 = gJ t 432 41 ∧ gJ t' 432 42 = gJ t 432 42
theorem CM.rf {s : fm_S} : CM s s := ⟨fun _ => rfl, rfl, rfl⟩
theorem CM.tr {a b c : fm_S} (x : CM a b) (y : CM b c) : CM a c := ⟨fun j => (y.1 j).trans (x.1 j), y.2.1.trans x.2.1, y.2.2.trans x.2.2⟩
theorem CM.fm {P Q : Nat → Nat → Prop} {s s' : fm_S} (x : FM P Q s s') (h1 : ∀ j, ¬ Q 455 j) (h2 : ¬ Q 432 41) (h3 : ¬ Q 432 42) : CM s s' := ⟨fun j => x.2.2 _ _ (h1 j), x.2.2 _ _ h2, x.2.2 _ _ h3⟩
theorem CM.n {s s' : fm_S} (x : FM pNx qNx s s') : CM s s' := CM.fm x (fun j => by unfold qNx; omega) (by unfold qNx; omega) (by unfold qNx; omega)
theorem CM.h {P : Nat → Nat → Prop} {s s' : fm_S} (x : FM P nO s s') : CM s s' := CM.fm x (fun _ h => h) (fun h => h) (fun h => h)
section QSs
variable {t0 t : fm_S} {l : List Nat} {D F : Nat → Nat}
theorem QS.give {g : fm_g} {d k m : Nat} (h : QS t0 t l D F) (hF : FX t0) (hk : k < NS) (hm : F k + m < BIG) : ∃ t', ev g d mX12_gives 0 [some (.ref (432 : Nat)), some (.int (Int32.ofNat (mix k))), some (.long (Int64.ofNat m)), none] [] t = some (.inl none, t') ∧ QS t0 t' l D (updD F k m) ∧ FM pNx qNx t t' := by
  obtain ⟨h1, h2, l', h3⟩ := h
  obtain ⟨t', l'', f1, f2, f3⟩ := m_gives (g := g) (d := d) (h1.fx hF) h3 hk hm
  refine ⟨t', f1, ⟨h1.tr (f2.mono (fun b j q => by unfold pNx at q; unfold pM; omega) (fun b j q => by unfold qNx at q; unfold qM; omega)), ?_, l'', f3⟩, f2⟩
  exact h2.of (f2.2.1 _ _ (by unfold pNx; omega)) (fun j => f2.2.1 _ _ (by unfold pNx; omega)) (fun j => f2.2.2 _ _ (by unfold qNx; omega))
theorem QS.fm {t' : fm_S} (h : QS t0 t l D F) (x : FM (fun b j => (b = 432 ∧ 43 ≤ j ∧ j ≤ 60) ∨ b = 444 ∨ b = 457) nO t t') : QS t0 t' l D F := by
  obtain ⟨h1, h2, l', h3⟩ := h
  refine ⟨h1.tr (x.mono (fun b j q => by unfold pM; omega) (fun b j q => q.elim)), h2.of (x.2.1 _ _ (by omega)) (fun j => x.2.1 _ _ (by omega)) (fun j => x.2.2 _ _ (fun q => q)), l', h3.of (x.2.1 _ _ (by omega)) (fun j => x.2.1 _ _ (by omega)) (fun j => x.2.2 _ _ (fun q => q))⟩
theorem QS.state {g : fm_g} {d k : Nat} (h : QS t0 t l D F) (hk : k < NS) : ∃ t', ev g d mX12_stateOf 0 [some (.ref (432 : Nat)), some (.int (Int32.ofNat (mix k)))] [] t = some (.inl none, t') ∧ QS t0 t' l D F ∧ FM pMh nO t t' ∧ MH t' k := by
  obtain ⟨t', f1, f2, f3⟩ := m_stateOf (g := g) (d := d) (t := t) hk
  exact ⟨t', f1, h.fm (f2.mono (fun b j q => by unfold pMh at q; omega) (fun _ _ q => q)), f2, f3⟩
theorem QS.refs (h : QS t0 t l D F) (hF : FX t0) : FX t ∧ gR t 432 33 = 451 ∧ gR t 432 37 = 453 ∧ gI t 432 35 = Int32.ofNat l.length ∧ (∀ i k, l[i]? = some k → gI t 451 i = Int32.ofNat (mix k) ∧ gJ t 453 (mix k) = Int64.ofNat (D k)) := by
  obtain ⟨h1, h2, -⟩ := h
  have hFt := h1.fx hF
  refine ⟨hFt, hFt.u 432 33 451 (by decide +kernel), hFt.u 432 37 453 (by decide +kernel), h2.1, fun i k hik => ?_⟩
  have hk := h2.2.2.1 k (List.mem_of_getElem? hik)
  exact ⟨h2.2.2.2.1 i k hik, by rw [h2.2.2.2.2.1 _ (mix_lt hk), pq_mix hk]⟩
theorem QS.next {g : fm_g} {d : Nat} (h : QS t0 t l D F) (hF : FX t0) : ∃ t', ev g d mX12_takesNext 0 [some (.ref (432 : Nat)), none] [] t = some (.inl none, t') ∧ FM pM qM t0 t' ∧ OM t' F ∧ CM t t' ∧ ∀ j, 37 ≤ j → gI t' 432 j = gI t 432 j := by
  obtain ⟨h1, h2, l', h3⟩ := h
  obtain ⟨t', f1, f2, f3, f4⟩ := m_takesNext (g := g) (d := d) (h1.fx hF) h2 h3
  exact ⟨t', f1, h1.tr (f2.mono (fun b j q => by unfold pTN at q; unfold pM; omega) (fun b j q => by unfold qT at q; unfold qM; omega)), ⟨l', f3, f4, fun k hk => (h3.2.2.2.2.2 k (h3.2.2.1 k hk)).2.mp hk⟩, CM.fm f2 (fun j => by unfold qT; omega) (by unfold qT; omega) (by unfold qT; omega), fun j hj => f2.2.1 _ _ (by unfold pTN; omega)⟩
theorem MB.it (h : MB t0 l D) {i k : Nat} (hi : l[i]? = some k) : k < NS ∧ D k ≤ ONE := by
  have hk := h.2.1.2.2.1 k (List.mem_of_getElem? hi)
  exact ⟨hk, Nat.le_trans (sumN_one_le hk) h.2.2.2⟩
theorem MB.pr (h : MB t0 l D) {con : Nat → Nat → List (Nat × Nat)} (hc : ∀ k, k < NS → amt (con k (D k)) ≤ D k) (i τ : Nat) : prt con D l i τ ≤ ONE := Nat.le_trans (prt_le h.2.1.2.1 h.2.1.2.2.1 hc) h.2.2.2
theorem MB.all (h : MB t0 l D) {f : Nat → Nat} (hf : ∀ k, D k = 0 → f k = 0) : sumL f l = sumN f NS := by
  refine sumL_all h.2.1.2.1 h.2.1.2.2.1 (fun k hk hn => hf k ?_)
  rcases Nat.eq_zero_or_pos (D k) with h0 | h0
  · exact h0
  · exact absurd ((h.2.1.2.2.2.2.2 k hk).2 (by omega)) hn
theorem MB.fin (h : MB t0 l D) {con : Nat → Nat → List (Nat × Nat)} (hc : ∀ k, amt (con k 0) = 0) : prt con D l l.length = pas con D := by
  funext τ
  have h1 := h.all (f := fun k => tal (con k (D k)) τ) (fun k hk => by rw [hk]; exact Nat.le_zero.mp (Nat.le_trans tal_le (Nat.le_of_eq (hc k))))
  show sumL (fun k => tal (con k (D k)) τ) (l.take l.length) = _
  rw [List.take_length]
  exact h1
theorem MB.qs (h : MB t0 l D) {con : Nat → Nat → List (Nat × Nat)} : QS t0 t0 l D (prt con D l 0) := ⟨FM.rf, h.2.1, [], by rw [prt_0]; exact h.2.2.1⟩
theorem m_fallLoop {g : fm_g} {d q : Nat} (hW : MB t0 l D) (hq : q ≤ 16) (h43 : gI t0 432 43 = Int32.ofNat q) : ∀ (m i : Nat) (t : fm_S), i + m = l.length → QS t0 t l D (prt (cFall q) D l i) → CM t0 t → (∀ j, 43 ≤ j → j ≤ 50 → gI t 432 j = gI t0 432 j) → ∃ t', ev g (d + 1) mX12_falls 2 [some (.ref (432 : Nat)), some (.int (Int32.ofNat i)), none, none, none] [] t = some (.inl none, t') ∧ FM pM qM t0 t' ∧ OM t' (pas (cFall q) D) ∧ CM t0 t' ∧ ∀ j, 43 ≤ j → j ≤ 50 → gI t' 432 j = gI t0 432 j := by
  have hF := hW.1
  have hB2 : BIG = 4611686018427387904 := rfl
  have hO2 : ONE = 1099511627776 := rfl
  have hlen := hW.2.1.len
  have hamt : ∀ k, k < NS → amt (cFall q k (D k)) ≤ D k := fun k hk => Nat.le_of_eq (cFall_ok hq k (D k) hk trivial).1
  intro m
  induction m with
  | zero =>
    intro i t hi hQ hN hV
    have hil : i = l.length := by omega
    subst hil
    obtain ⟨x1, x2, x3, x4, x5⟩ := hQ.refs hF
    obtain ⟨t', f1, f2, f3, f4, f5⟩ := hQ.next (g := g) (d := d) hF
    refine ⟨t', ?_, f2, by rw [← hW.fin (fun k => cFall_0)]; exact f3, hN.tr f4, fun j h1 h2 => by rw [f5 j (by omega), hV j h1 h2]⟩
    rw [sX12_falls_2]
    simp (disch := first | exact jm_lt0 | (apply jm_ltx; (repeat (first | exact jw_0 | apply jw_i | apply jw_r | apply jw_l)); omega) | omega | assumption | exact sa_432 | exact n32_inA sb_432 (by omega) (by omega) | (refine n32_inA (by assumption) ?_ ?_ <;> omega) | exact bi01 | (rw [sa_432]; omega) | decide) only [sX12_falls_0, sX12_falls_1, kX12_falls_2_AIIJN, sX12_falls_3, sX12_falls_4, sX12_falls_7, sX12_falls_10, sX12_falls_11, sX12_falls_14, sX12_falls_15, sX12_falls_16, sX12_falls_17, sX12_falls_18, sX12_falls_19, sX12_falls_22, sX12_falls_23, sX12_falls_26, sX12_falls_27, sX12_falls_28, sX12_falls_29, sX12_falls_32, sX12_falls_33, sX12_falls_34, sX12_falls_37, sX12_falls_38, sX12_falls_39, sX12_falls_40, sX12_falls_41, sX12_falls_42, sX12_falls_45, sX12_falls_46, sX12_falls_47, sX12_falls_48, sX12_falls_49, sX12_falls_52, sX12_falls_53, sX12_falls_54, sX12_falls_57, sX12_falls_58, sX12_falls_61, sX12_falls_62, sX12_falls_63, sX12_falls_66, sX12_falls_67, sX12_falls_68, sX12_falls_71, sX12_falls_72, sX12_falls_75, sX12_falls_78, sX12_falls_79, sX12_falls_82, sX12_falls_85, kX12_falls_88_AINNN, sX12_falls_88, sX12_falls_89, sX12_falls_92, evK_n, evK_v, evK_x, gI_pI, gJ_pI, gR_pI, gI_pJ, gJ_pJ, gR_pJ, gI_pR, gJ_pR, gR_pR, n32_le, n32_lt, n32_add, n32_mul, n32_cl, if_true, if_false, not_true_eq_false, not_false_eq_true, and_true, true_and, and_false, false_and, and_self, or_true, true_or, or_false, false_or, or_self, ne_eq, Decidable.not_not, Nat.reduceEqDiff, Nat.reduceEqDiff, sa_432, sb_432, x4]
    rw [if_pos (by omega), f1, evK_n, sX12_falls_92]
  | succ m ih =>
    intro i t hi hQ hN hV
    have hil : i < l.length := by omega
    have hik : l[i]? = some l[i] := List.getElem?_eq_getElem hil
    generalize l[i] = k at hik
    obtain ⟨hk, hDk⟩ := hW.it hik
    have hmx := mix_lt hk
    have hpl := hW.pr hamt i
    obtain ⟨kl1, kl2, kl3⟩ := k_lt hk
    have hkcd := k_cd k
    have ht := tq (p := D k) hq
    obtain ⟨x1, x2, x3, x4, x5⟩ := hQ.refs hF
    obtain ⟨x6, x7⟩ := x5 i k hik
    obtain ⟨t1, e1, hQ1, hM1, hH1⟩ := hQ.state (g := g) (d := d) hk
    obtain ⟨y1, y2, y3, y4, y5⟩ := hQ1.refs hF
    obtain ⟨y6, y7⟩ := y5 i k hik
    have y8 : gI t1 432 43 = Int32.ofNat q := by rw [hM1.2.1 _ _ (by unfold pMh; omega), hV _ (by omega) (by omega), h43]
    obtain ⟨t2, e3, hQ2, hM2⟩ := hQ1.give (g := g) (d := d) (k := k) (m := D k - D k * q / 16) hF hk (by have := hpl k; omega)
    rw [upd_1] at hQ2
    have hH2 : MH t2 k := hH1.of (fun j h1 h2 => hM2.2.1 _ _ (by unfold pNx; omega))
    obtain ⟨h51, h52, h53, h54, h55⟩ := id hH2
    have hca : Int32.ofNat 1 - Int32.ofNat (kcard k) = Int32.ofNat (1 - kcard k) := n32_sub (by omega)
    have e4 := m_index (g := g) (d := d) (c := kc k) (di := kd k) (ca := 1 - kcard k) (st := kst k) (se := kseen k) (s := t2)
    have hmn : mx (kc k) (kd k) (1 - kcard k) (kst k) (kseen k) = mix (nm (kc k) (kd k) (1 - kcard k) (kseen k) (kst k)) := by
      obtain ⟨n1, n2, n3, n4, n5⟩ := k_nm (st := kst k) hkcd (show 1 - kcard k < 2 by omega) kl2
      unfold mix
      rw [n1, n2, n3, n4, n5]
    rw [hmn] at e4
    have htal : ∀ τ, addF (prt (cFall q) D l i) [(k, D k - D k * q / 16)] τ ≤ ONE + (D k - D k * q / 16) := fun τ => by
      unfold addF
      rw [tal_cons, tal_nil]
      have := hpl τ
      split <;> omega
    obtain ⟨t4, e5, hQ4, hM4⟩ := hQ2.give (g := g) (d := d) (k := nm (kc k) (kd k) (1 - kcard k) (kseen k) (kst k)) (m := D k * q / 16) hF (nm_lt hkcd (by omega) kl2 kl3) (by have := htal (nm (kc k) (kd k) (1 - kcard k) (kseen k) (kst k)); omega)
    rw [addF_upd] at hQ4
    have hnext : addF (prt (cFall q) D l i) ([(k, D k - D k * q / 16)] ++ [(nm (kc k) (kd k) (1 - kcard k) (kseen k) (kst k), D k * q / 16)]) = prt (cFall q) D l (i + 1) := by rw [prt_succ hik]; rfl
    rw [hnext] at hQ4
    obtain ⟨t', f1, f2, f3, f4, f5⟩ := ih (i + 1) t4 (by omega) hQ4 (((hN.tr (CM.h hM1)).tr (CM.n hM2)).tr (CM.n hM4)) (fun j h1 h2 => by rw [hM4.2.1 _ _ (by unfold pNx; omega), hM2.2.1 _ _ (by unfold pNx; omega), hM1.2.1 _ _ (by unfold pMh; omega), hV j h1 h2])
    refine ⟨t', ?_, f2, f3, f4, f5⟩
    have g1 : ¬ l.length ≤ i := by omega
    have q1' : Int64.ofNat (D k * q) / Int64.ofNat 16 = Int64.ofNat (D k * q / 16) := by rw [← n64_mul, lp_q hDk (by omega)]
    have q2 : Int64.ofNat (D k) - Int64.ofNat (D k * q / 16) = Int64.ofNat (D k - D k * q / 16) := n64_sub ht
    rw [sX12_falls_2]
    simp (disch := first | exact jm_lt0 | (apply jm_ltx; (repeat (first | exact jw_0 | apply jw_i | apply jw_r | apply jw_l)); omega) | omega | assumption | exact sa_432 | exact sa_451 | exact sa_453 | exact n32_inA sb_432 (by omega) (by omega) | exact n32_inA sb_451 (by omega) (by omega) | exact n32_inA sb_453 (by omega) (by omega) | (refine n32_inA (by assumption) ?_ ?_ <;> omega) | exact bi01 | (rw [sa_432]; omega) | (rw [sa_451]; omega) | (rw [sa_453]; omega) | decide) only [sX12_falls_0, sX12_falls_1, kX12_falls_2_AIIJN, sX12_falls_3, sX12_falls_4, sX12_falls_7, sX12_falls_10, sX12_falls_11, sX12_falls_14, sX12_falls_15, sX12_falls_16, sX12_falls_17, sX12_falls_18, sX12_falls_19, sX12_falls_22, sX12_falls_23, sX12_falls_26, sX12_falls_27, sX12_falls_28, sX12_falls_29, sX12_falls_32, sX12_falls_33, sX12_falls_34, sX12_falls_37, sX12_falls_38, sX12_falls_39, sX12_falls_40, sX12_falls_41, sX12_falls_42, sX12_falls_45, sX12_falls_46, sX12_falls_47, sX12_falls_48, sX12_falls_49, sX12_falls_52, sX12_falls_53, sX12_falls_54, sX12_falls_57, sX12_falls_58, sX12_falls_61, sX12_falls_62, sX12_falls_63, sX12_falls_66, sX12_falls_67, sX12_falls_68, sX12_falls_71, sX12_falls_72, sX12_falls_75, sX12_falls_78, sX12_falls_79, sX12_falls_82, sX12_falls_85, kX12_falls_88_AINNN, sX12_falls_88, sX12_falls_89, sX12_falls_92, evK_n, evK_v, evK_x, gI_pI, gJ_pI, gR_pI, gI_pJ, gJ_pJ, gR_pJ, gI_pR, gJ_pR, gR_pR, n32_le, n32_lt, n32_add, n32_mul, n32_cl, if_true, if_false, not_true_eq_false, not_false_eq_true, and_true, true_and, and_false, false_and, and_self, or_true, true_or, or_false, false_or, or_self, ne_eq, Decidable.not_not, Nat.reduceEqDiff, Nat.reduceEqDiff, sa_432, sb_432, sa_451, sb_451, sa_453, sb_453, x2, x4, g1, x6, e1, y3, y7, y8, n32_64, n64_mul, q1', q2, e3, h51, h52, h53, h54, h55, hca, e4, e5, f1, show ¬ (Int64.ofNat 16 = 0) by decide, ne_eq]
end QSs
theorem m_falls {g : fm_g} {d q : Nat} {D : Nat → Nat} {t : fm_S} (hF : FX t) (hO : OM t D) (hD : sumN D NS ≤ ONE) (hq : q ≤ 16) (h43 : gI t 432 43 = Int32.ofNat q) : ∃ t', ev g (d + 1) mX12_falls 0 [some (.ref (432 : Nat)), none, none, none, none] [] t = some (.inl none, t') ∧ FM pM qM t t' ∧ OM t' (pas (cFall q) D) ∧ CM t t' ∧ ∀ j, 43 ≤ j → j ≤ 50 → gI t' 432 j = gI t 432 j := by
  obtain ⟨l, o1, o2, -⟩ := hO
  have hW : MB t l D := ⟨hF, o1, o2, hD⟩
  obtain ⟨t', f1, f2⟩ := m_fallLoop (g := g) (d := d) hW hq h43 l.length 0 t (by omega) hW.qs CM.rf (fun _ _ _ => rfl)
  refine ⟨t', ?_, f2⟩
  rw [sX12_falls_0, sX12_falls_1]
  exact f1
