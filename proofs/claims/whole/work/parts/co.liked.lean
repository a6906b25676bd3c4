/-! likeliest on both sides -/
section CO0
variable {g : fm_g} {d c ver : Nat} {w : WD} {G : GS} {s t : fm_S}
def upR (R : Nat × Int32) (p : Nat) (a : Int32) : Nat × Int32 := if R.1 < p then (p, a) else R
def lkI (P : Nat → Nat → Nat → Nat) (c : Nat) : Nat → Nat → Nat × Int32 → Nat × Int32
  | 0, _, R => R
  | m + 1, i, R => lkI P c m (i + 1) (upR R (P c (i / 2) (i % 2)) (Int32.ofNat (100 * c + i)))
def lkO (P : Nat → Nat → Nat → Nat) : Nat → Nat → Nat × Int32 → Nat × Int32
  | 0, _, R => R
  | m + 1, c, R => lkO P m (c + 1) (lkI P c (2 * (12 - c + 1)) 0 R)
theorem lkI_add {P : Nat → Nat → Nat → Nat} {c : Nat} : ∀ (a b i : Nat) (R : Nat × Int32), lkI P c (a + b) i R = lkI P c b (i + a) (lkI P c a i R)
  | 0, b, i, R => by rw [Nat.zero_add]; rfl
  | a + 1, b, i, R => by
    rw [show a + 1 + b = (a + b) + 1 by omega, lkI, lkI_add a b (i + 1), show i + 1 + a = i + (a + 1) by omega]
    rfl
def rlR (R R' : Nat × Int32) : Prop := R = R' ∨ (R.1 = 0 ∧ R'.1 = 0)
theorem rlR.up {R R' : Nat × Int32} {p : Nat} {a : Int32} (h : rlR R R') : rlR (upR R p a) (upR R' p a) := by
  rcases h with h | ⟨h1, h2⟩
  · rw [h]; exact Or.inl rfl
  · unfold upR
    rw [h1, h2]
    by_cases c : 0 < p
    · rw [if_pos c, if_pos c]; exact Or.inl rfl
    · rw [if_neg c, if_neg c]; exact Or.inr ⟨h1, h2⟩
theorem rlR.i {P : Nat → Nat → Nat → Nat} {c : Nat} : ∀ (m i : Nat) {R R' : Nat × Int32}, rlR R R' → rlR (lkI P c m i R) (lkI P c m i R')
  | 0, _, _, _, h => h
  | m + 1, i, _, _, h => rlR.i m (i + 1) h.up
theorem rlR.o {P : Nat → Nat → Nat → Nat} : ∀ (m c : Nat) {R R' : Nat × Int32}, rlR R R' → rlR (lkO P m c R) (lkO P m c R')
  | 0, _, _, _, h => h
  | m + 1, c, _, _, h => rlR.o m (c + 1) (rlR.i _ 0 h)
theorem up_ge {R : Nat × Int32} {p : Nat} {a : Int32} : R.1 ≤ (upR R p a).1 ∧ p ≤ (upR R p a).1 := by
  unfold upR
  split
  · exact ⟨by dsimp only; omega, Nat.le_refl _⟩
  · exact ⟨Nat.le_refl _, by omega⟩
theorem lkI_ge {P : Nat → Nat → Nat → Nat} {c : Nat} : ∀ (m i : Nat) (R : Nat × Int32), R.1 ≤ (lkI P c m i R).1 ∧ ∀ j, i ≤ j → j < i + m → P c (j / 2) (j % 2) ≤ (lkI P c m i R).1
  | 0, i, R => ⟨Nat.le_refl _, fun j h1 h2 => by omega⟩
  | m + 1, i, R => by
    have h := lkI_ge (P := P) (c := c) m (i + 1) (upR R (P c (i / 2) (i % 2)) (Int32.ofNat (100 * c + i)))
    have u := up_ge (R := R) (p := P c (i / 2) (i % 2)) (a := Int32.ofNat (100 * c + i))
    rw [lkI]
    refine ⟨Nat.le_trans u.1 h.1, fun j h1 h2 => ?_⟩
    by_cases cj : j = i
    · rw [cj]; exact Nat.le_trans u.2 h.1
    · exact h.2 j (by omega) (by omega)
theorem lkO_ge {P : Nat → Nat → Nat → Nat} : ∀ (m c : Nat) (R : Nat × Int32), R.1 ≤ (lkO P m c R).1 ∧ ∀ e i, c ≤ e → e < c + m → i < 2 * (12 - e + 1) → P e (i / 2) (i % 2) ≤ (lkO P m c R).1
  | 0, c, R => ⟨Nat.le_refl _, fun e i h1 h2 _ => by omega⟩
  | m + 1, c, R => by
    have h := lkO_ge (P := P) m (c + 1) (lkI P c (2 * (12 - c + 1)) 0 R)
    have u := lkI_ge (P := P) (c := c) (2 * (12 - c + 1)) 0 R
    rw [lkO]
    refine ⟨Nat.le_trans u.1 h.1, fun e i h1 h2 h3 => ?_⟩
    by_cases ce : e = c
    · subst ce
      exact Nat.le_trans (u.2 i (Nat.zero_le _) (by omega)) h.1
    · exact h.2 e i (by omega) (by omega) h3
theorem up_lt {R : Nat × Int32} {p : Nat} {a : Int32} (h : R.1 < BIG) (hp : p < BIG) : (upR R p a).1 < BIG := by
  unfold upR
  split
  · exact hp
  · exact h
theorem lkI_lt {P : Nat → Nat → Nat → Nat} {c : Nat} (hP : ∀ a b e, P a b e < BIG) : ∀ (m i : Nat) (R : Nat × Int32), R.1 < BIG → (lkI P c m i R).1 < BIG
  | 0, _, _, h => h
  | m + 1, i, _, h => lkI_lt hP m (i + 1) _ (up_lt h (hP _ _ _))
def lkP (w : WD) (v a b e : Nat) : Nat := behS (zGo w (o00 w) (v + 1)).1 (pno a b * 2 + e)
theorem lkP_lt {v : Nat} (hw : wOK w) (hv : v < wn w) (a b e : Nat) : lkP w v a b e < BIG := by
  have i3 := (go_ok hw (o00_ok hw) (v + 1) (by omega)).2.2
  refine Nat.lt_of_le_of_lt ?_ one_big
  rw [← i3]
  exact sumN_le (fun k _ => by split <;> omega)
/-- one look of the class -/
theorem c_lk1 {v c i : Nat} {best : Int64} {ans : Int32} (hw : wOK w) (hv : v < wn w) (hc : c ≤ 12) (hi : i < 2 * (12 - c + 1)) (h : LI s w ver) : ∃ s1, ev g (d + 34) mX11_likeliest 25 [some (.ref (0 : Nat)), some (.int (Int32.ofNat v)), some (.long best), none, some (.int ans), some (.int (Int32.ofNat c)), some (.int (Int32.ofNat i)), none, none] [] s = ev g (d + 34) mX11_likeliest 25 [some (.ref (0 : Nat)), some (.int (Int32.ofNat v)), some (.long (if Int64.ofNat (lkP w v c (i / 2) (i % 2)) ≤ best then best else Int64.ofNat (lkP w v c (i / 2) (i % 2)))), none, some (.int (if Int64.ofNat (lkP w v c (i / 2) (i % 2)) ≤ best then ans else Int32.ofNat (100 * c + i))), some (.int (Int32.ofNat c)), some (.int (Int32.ofNat (i + 1))), none, none] [] s1 ∧ LQ s s1 w ver := by
  have r01 := h.1.u 0 1 3 (by decide +kernel)
  have r06 := h.1.u 0 6 306 (by decide +kernel)
  obtain ⟨s1, e1, q1⟩ := c6_parts (g := g) (d := d + 27) h hv (c := c) (di := i / 2) (ca := i % 2) (by omega) (by omega)
  have e1' : ev g (d + 33) mX6_partsBehind 0 [some (.ref (306 : Nat)), some (.ref (3 : Nat)), some (.int (Int32.ofNat v)), some (.int (Int32.ofNat c)), some (.int (Int32.ofNat (i / 2))), some (.int (Int32.ofNat (i % 2))), none] [] s = some (.inl (some (.long (Int64.ofNat (lkP w v c (i / 2) (i % 2))))), s1) := e1
  refine ⟨s1, ?_, q1⟩
  have h12 : Int32.ofNat 12 - Int32.ofNat c = Int32.ofNat (12 - c) := n32_sub (by omega)
  have g1 : ¬ 2 * (12 - c + 1) ≤ i := by omega
  have hq : Int32.ofNat i / Int32.ofNat 2 = Int32.ofNat (i / 2) := n32_div (by omega) (by decide)
  have hr : Int32.ofNat i - Int32.ofNat i / Int32.ofNat 2 * Int32.ofNat 2 = Int32.ofNat (i % 2) := n32_mod (by omega) (by decide)
  have hr' : Int32.ofNat i - Int32.ofNat (i / 2) * Int32.ofNat 2 = Int32.ofNat (i % 2) := by rw [← hq]; exact hr
  have hr'' : Int32.ofNat i - Int32.ofNat (i / 2 * 2) = Int32.ofNat (i % 2) := by rw [← hr', n32_mul]
  have hne : ¬ Int32.ofNat 2 = 0 := by decide
  rw [sX11_likeliest_25]
  by_cases cc : Int64.ofNat (lkP w v c (i / 2) (i % 2)) ≤ best
  · rw [if_pos cc, if_pos cc]
    simp (disch := first | exact jm_lt0 | (apply jm_ltx; (repeat (first | exact jw_0 | apply jw_i | apply jw_r | apply jw_l)); omega) | omega | assumption | exact sa_0 | exact sa_3 | exact sa_306 | exact n32_inA sb_0 (by omega) (by omega) | exact n32_inA sb_3 (by omega) (by omega) | exact n32_inA sb_306 (by omega) (by omega) | (refine n32_inA (by assumption) ?_ ?_ <;> omega) | exact bi01 | (rw [sa_0]; omega) | (rw [sa_3]; omega) | (rw [sa_306]; omega) | decide) only [sX11_likeliest_0, sX11_likeliest_1, sX11_likeliest_2, sX11_likeliest_5, sX11_likeliest_8, sX11_likeliest_9, sX11_likeliest_10, sX11_likeliest_12, sX11_likeliest_13, sX11_likeliest_17, sX11_likeliest_19, sX11_likeliest_22, sX11_likeliest_23, sX11_likeliest_27, sX11_likeliest_28, sX11_likeliest_30, sX11_likeliest_32, sX11_likeliest_33, sX11_likeliest_34, sX11_likeliest_35, sX11_likeliest_36, sX11_likeliest_39, sX11_likeliest_40, sX11_likeliest_43, sX11_likeliest_44, sX11_likeliest_47, sX11_likeliest_48, sX11_likeliest_50, sX11_likeliest_52, sX11_likeliest_53, sX11_likeliest_54, sX11_likeliest_56, sX11_likeliest_57, sX11_likeliest_58, sX11_likeliest_61, sX11_likeliest_63, sX11_likeliest_65, sX11_likeliest_66, sX11_likeliest_67, sX11_likeliest_70, sX11_likeliest_72, sX11_likeliest_73, sX11_likeliest_75, sX11_likeliest_77, sX11_likeliest_78, sX11_likeliest_80, sX11_likeliest_81, kX11_likeliest_83_AIJNIIIJN, sX11_likeliest_83, sX11_likeliest_86, kX11_likeliest_89_AIJNIIINN, sX11_likeliest_89, sX11_likeliest_92, kX11_likeliest_95_AIJNIINNN, sX11_likeliest_95, sX11_likeliest_97, evK_n, evK_v, evK_x, gI_pI, gJ_pI, gR_pI, gI_pJ, gJ_pJ, gR_pJ, gI_pR, gJ_pR, gR_pR, if_true, if_false, not_true_eq_false, not_false_eq_true, and_true, true_and, and_false, false_and, and_self, or_true, true_or, or_false, false_or, or_self, ne_eq, Decidable.not_not, Nat.reduceEqDiff, Nat.reduceEqDiff, n32_le, n32_lt, n32_add, n32_mul, n32_cl, sa_0, sb_0, sa_3, sb_3, sa_306, sb_306, h12, g1, r01, r06, hne, hq, hr, hr', hr'', e1', n64_cle, cc]
  · rw [if_neg cc, if_neg cc]
    simp (disch := first | exact jm_lt0 | (apply jm_ltx; (repeat (first | exact jw_0 | apply jw_i | apply jw_r | apply jw_l)); omega) | omega | assumption | exact sa_0 | exact sa_3 | exact sa_306 | exact n32_inA sb_0 (by omega) (by omega) | exact n32_inA sb_3 (by omega) (by omega) | exact n32_inA sb_306 (by omega) (by omega) | (refine n32_inA (by assumption) ?_ ?_ <;> omega) | exact bi01 | (rw [sa_0]; omega) | (rw [sa_3]; omega) | (rw [sa_306]; omega) | decide) only [sX11_likeliest_0, sX11_likeliest_1, sX11_likeliest_2, sX11_likeliest_5, sX11_likeliest_8, sX11_likeliest_9, sX11_likeliest_10, sX11_likeliest_12, sX11_likeliest_13, sX11_likeliest_17, sX11_likeliest_19, sX11_likeliest_22, sX11_likeliest_23, sX11_likeliest_27, sX11_likeliest_28, sX11_likeliest_30, sX11_likeliest_32, sX11_likeliest_33, sX11_likeliest_34, sX11_likeliest_35, sX11_likeliest_36, sX11_likeliest_39, sX11_likeliest_40, sX11_likeliest_43, sX11_likeliest_44, sX11_likeliest_47, sX11_likeliest_48, sX11_likeliest_50, sX11_likeliest_52, sX11_likeliest_53, sX11_likeliest_54, sX11_likeliest_56, sX11_likeliest_57, sX11_likeliest_58, sX11_likeliest_61, sX11_likeliest_63, sX11_likeliest_65, sX11_likeliest_66, sX11_likeliest_67, sX11_likeliest_70, sX11_likeliest_72, sX11_likeliest_73, sX11_likeliest_75, sX11_likeliest_77, sX11_likeliest_78, sX11_likeliest_80, sX11_likeliest_81, kX11_likeliest_83_AIJNIIIJN, sX11_likeliest_83, sX11_likeliest_86, kX11_likeliest_89_AIJNIIINN, sX11_likeliest_89, sX11_likeliest_92, kX11_likeliest_95_AIJNIINNN, sX11_likeliest_95, sX11_likeliest_97, evK_n, evK_v, evK_x, gI_pI, gJ_pI, gR_pI, gI_pJ, gJ_pJ, gR_pJ, gI_pR, gJ_pR, gR_pR, if_true, if_false, not_true_eq_false, not_false_eq_true, and_true, true_and, and_false, false_and, and_self, or_true, true_or, or_false, false_or, or_self, ne_eq, Decidable.not_not, Nat.reduceEqDiff, Nat.reduceEqDiff, n32_le, n32_lt, n32_add, n32_mul, n32_cl, sa_0, sb_0, sa_3, sb_3, sa_306, sb_306, h12, g1, r01, r06, hne, hq, hr, hr', hr'', e1', n64_cle, cc]
theorem c_lkI {v c : Nat} (hw : wOK w) (hv : v < wn w) (hc : c ≤ 12) : ∀ (m i : Nat) (R : Nat × Int32) (s : fm_S), i + m = 2 * (12 - c + 1) → R.1 < BIG → LI s w ver → ∃ s', ev g (d + 34) mX11_likeliest 25 [some (.ref (0 : Nat)), some (.int (Int32.ofNat v)), some (.long (Int64.ofNat R.1)), none, some (.int R.2), some (.int (Int32.ofNat c)), some (.int (Int32.ofNat i)), none, none] [] s = ev g (d + 34) mX11_likeliest 15 [some (.ref (0 : Nat)), some (.int (Int32.ofNat v)), some (.long (Int64.ofNat (lkI (lkP w v) c m i R).1)), none, some (.int (lkI (lkP w v) c m i R).2), some (.int (Int32.ofNat (c + 1))), none, none, none] [] s' ∧ LQ s s' w ver := by
  intro m
  induction m with
  | zero =>
    intro i R s hi hR h
    have hil : i = 2 * (12 - c + 1) := by omega
    subst hil
    refine ⟨s, ?_, LQ.rf h⟩
    have h12 : Int32.ofNat 12 - Int32.ofNat c = Int32.ofNat (12 - c) := n32_sub (by omega)
    rw [sX11_likeliest_25]
    simp (disch := first | exact jm_lt0 | (apply jm_ltx; (repeat (first | exact jw_0 | apply jw_i | apply jw_r | apply jw_l)); omega) | omega | assumption | exact sa_0 | exact n32_inA sb_0 (by omega) (by omega) | (refine n32_inA (by assumption) ?_ ?_ <;> omega) | exact bi01 | (rw [sa_0]; omega) | decide) only [sX11_likeliest_0, sX11_likeliest_1, sX11_likeliest_2, sX11_likeliest_5, sX11_likeliest_8, sX11_likeliest_9, sX11_likeliest_10, sX11_likeliest_12, sX11_likeliest_13, sX11_likeliest_17, sX11_likeliest_19, sX11_likeliest_22, sX11_likeliest_23, sX11_likeliest_27, sX11_likeliest_28, sX11_likeliest_30, sX11_likeliest_32, sX11_likeliest_33, sX11_likeliest_34, sX11_likeliest_35, sX11_likeliest_36, sX11_likeliest_39, sX11_likeliest_40, sX11_likeliest_43, sX11_likeliest_44, sX11_likeliest_47, sX11_likeliest_48, sX11_likeliest_50, sX11_likeliest_52, sX11_likeliest_53, sX11_likeliest_54, sX11_likeliest_56, sX11_likeliest_57, sX11_likeliest_58, sX11_likeliest_61, sX11_likeliest_63, sX11_likeliest_65, sX11_likeliest_66, sX11_likeliest_67, sX11_likeliest_70, sX11_likeliest_72, sX11_likeliest_73, sX11_likeliest_75, sX11_likeliest_77, sX11_likeliest_78, sX11_likeliest_80, sX11_likeliest_81, kX11_likeliest_83_AIJNIIIJN, sX11_likeliest_83, sX11_likeliest_86, kX11_likeliest_89_AIJNIIINN, sX11_likeliest_89, sX11_likeliest_92, kX11_likeliest_95_AIJNIINNN, sX11_likeliest_95, sX11_likeliest_97, evK_n, evK_v, evK_x, gI_pI, gJ_pI, gR_pI, gI_pJ, gJ_pJ, gR_pJ, gI_pR, gJ_pR, gR_pR, if_true, if_false, not_true_eq_false, not_false_eq_true, and_true, true_and, and_false, false_and, and_self, or_true, true_or, or_false, false_or, or_self, ne_eq, Decidable.not_not, Nat.reduceEqDiff, Nat.reduceEqDiff, n32_le, n32_lt, n32_add, n32_mul, n32_cl, h12, Nat.le_refl, lkI]
  | succ m ih =>
    intro i R s hi hR h
    obtain ⟨s1, e1, q1⟩ := c_lk1 (g := g) (d := d) (v := v) (c := c) (i := i) (best := Int64.ofNat R.1) (ans := R.2) hw hv hc (by omega) h
    have hp := lkP_lt hw hv c (i / 2) (i % 2)
    obtain ⟨s2, e2, q2⟩ := ih (i + 1) (upR R (lkP w v c (i / 2) (i % 2)) (Int32.ofNat (100 * c + i))) s1 (by omega) (up_lt hR hp) q1.2
    refine ⟨s2, ?_, q1.tr q2⟩
    have hB : BIG = 4611686018427387904 := rfl
    have hlt : (Int64.ofNat (lkP w v c (i / 2) (i % 2)) ≤ Int64.ofNat R.1) = (lkP w v c (i / 2) (i % 2) ≤ R.1) := n64_le (by omega) (by omega)
    rw [lkI]
    refine Eq.trans (e1.trans ?_) e2
    unfold upR
    by_cases cc : R.1 < lkP w v c (i / 2) (i % 2)
    · rw [if_pos cc, if_neg (by rw [hlt]; omega), if_neg (by rw [hlt]; omega)]
    · rw [if_neg cc, if_pos (by rw [hlt]; omega), if_pos (by rw [hlt]; omega)]
theorem c_lkO {v : Nat} (hw : wOK w) (hv : v < wn w) : ∀ (m c : Nat) (R : Nat × Int32) (s : fm_S), c + m = 13 → R.1 < BIG → LI s w ver → ∃ s', ev g (d + 34) mX11_likeliest 15 [some (.ref (0 : Nat)), some (.int (Int32.ofNat v)), some (.long (Int64.ofNat R.1)), none, some (.int R.2), some (.int (Int32.ofNat c)), none, none, none] [] s = some (.inl (some (.int (lkO (lkP w v) m c R).2)), s') ∧ LQ s s' w ver := by
  intro m
  induction m with
  | zero =>
    intro c R s hc hR h
    have hil : c = 13 := by omega
    subst hil
    refine ⟨s, ?_, LQ.rf h⟩
    rw [sX11_likeliest_15]
    simp (disch := first | exact jm_lt0 | (apply jm_ltx; (repeat (first | exact jw_0 | apply jw_i | apply jw_r | apply jw_l)); omega) | omega | assumption | exact sa_0 | exact n32_inA sb_0 (by omega) (by omega) | (refine n32_inA (by assumption) ?_ ?_ <;> omega) | exact bi01 | (rw [sa_0]; omega) | decide) only [sX11_likeliest_0, sX11_likeliest_1, sX11_likeliest_2, sX11_likeliest_5, sX11_likeliest_8, sX11_likeliest_9, sX11_likeliest_10, sX11_likeliest_12, sX11_likeliest_13, sX11_likeliest_17, sX11_likeliest_19, sX11_likeliest_22, sX11_likeliest_23, sX11_likeliest_27, sX11_likeliest_28, sX11_likeliest_30, sX11_likeliest_32, sX11_likeliest_33, sX11_likeliest_34, sX11_likeliest_35, sX11_likeliest_36, sX11_likeliest_39, sX11_likeliest_40, sX11_likeliest_43, sX11_likeliest_44, sX11_likeliest_47, sX11_likeliest_48, sX11_likeliest_50, sX11_likeliest_52, sX11_likeliest_53, sX11_likeliest_54, sX11_likeliest_56, sX11_likeliest_57, sX11_likeliest_58, sX11_likeliest_61, sX11_likeliest_63, sX11_likeliest_65, sX11_likeliest_66, sX11_likeliest_67, sX11_likeliest_70, sX11_likeliest_72, sX11_likeliest_73, sX11_likeliest_75, sX11_likeliest_77, sX11_likeliest_78, sX11_likeliest_80, sX11_likeliest_81, kX11_likeliest_83_AIJNIIIJN, sX11_likeliest_83, sX11_likeliest_86, kX11_likeliest_89_AIJNIIINN, sX11_likeliest_89, sX11_likeliest_92, kX11_likeliest_95_AIJNIINNN, sX11_likeliest_95, sX11_likeliest_97, evK_n, evK_v, evK_x, gI_pI, gJ_pI, gR_pI, gI_pJ, gJ_pJ, gR_pJ, gI_pR, gJ_pR, gR_pR, if_true, if_false, not_true_eq_false, not_false_eq_true, and_true, true_and, and_false, false_and, and_self, or_true, true_or, or_false, false_or, or_self, ne_eq, Decidable.not_not, Nat.reduceEqDiff, Nat.reduceEqDiff, n32_le, n32_lt, n32_add, n32_mul, n32_cl, lkO, show (12 : Nat) < 13 by decide]
  | succ m ih =>
    intro c R s hc hR h
    obtain ⟨s1, e1, q1⟩ := c_lkI (g := g) (d := d) (v := v) (c := c) hw hv (by omega) (2 * (12 - c + 1)) 0 R s (by omega) hR h
    obtain ⟨s2, e2, q2⟩ := ih (c + 1) _ s1 (by omega) (lkI_lt (lkP_lt hw hv) (2 * (12 - c + 1)) 0 R hR) q1.2
    refine ⟨s2, ?_, q1.tr q2⟩
    rw [lkO]
    refine Eq.trans ?_ (e1.trans e2)
    have g1 : ¬ 12 < c := by omega
    rw [sX11_likeliest_15]
    simp (disch := first | exact jm_lt0 | (apply jm_ltx; (repeat (first | exact jw_0 | apply jw_i | apply jw_r | apply jw_l)); omega) | omega | assumption | exact sa_0 | exact n32_inA sb_0 (by omega) (by omega) | (refine n32_inA (by assumption) ?_ ?_ <;> omega) | exact bi01 | (rw [sa_0]; omega) | decide) only [sX11_likeliest_0, sX11_likeliest_1, sX11_likeliest_2, sX11_likeliest_5, sX11_likeliest_8, sX11_likeliest_9, sX11_likeliest_10, sX11_likeliest_12, sX11_likeliest_13, sX11_likeliest_17, sX11_likeliest_19, sX11_likeliest_22, sX11_likeliest_23, sX11_likeliest_27, sX11_likeliest_28, sX11_likeliest_30, sX11_likeliest_32, sX11_likeliest_33, sX11_likeliest_34, sX11_likeliest_35, sX11_likeliest_36, sX11_likeliest_39, sX11_likeliest_40, sX11_likeliest_43, sX11_likeliest_44, sX11_likeliest_47, sX11_likeliest_48, sX11_likeliest_50, sX11_likeliest_52, sX11_likeliest_53, sX11_likeliest_54, sX11_likeliest_56, sX11_likeliest_57, sX11_likeliest_58, sX11_likeliest_61, sX11_likeliest_63, sX11_likeliest_65, sX11_likeliest_66, sX11_likeliest_67, sX11_likeliest_70, sX11_likeliest_72, sX11_likeliest_73, sX11_likeliest_75, sX11_likeliest_77, sX11_likeliest_78, sX11_likeliest_80, sX11_likeliest_81, kX11_likeliest_83_AIJNIIIJN, sX11_likeliest_83, sX11_likeliest_86, kX11_likeliest_89_AIJNIIINN, sX11_likeliest_89, sX11_likeliest_92, kX11_likeliest_95_AIJNIINNN, sX11_likeliest_95, sX11_likeliest_97, evK_n, evK_v, evK_x, gI_pI, gJ_pI, gR_pI, gI_pJ, gJ_pJ, gR_pJ, gI_pR, gJ_pR, gR_pR, if_true, if_false, not_true_eq_false, not_false_eq_true, and_true, true_and, and_false, false_and, and_self, or_true, true_or, or_false, false_or, or_self, ne_eq, Decidable.not_not, Nat.reduceEqDiff, Nat.reduceEqDiff, n32_le, n32_lt, n32_add, n32_mul, n32_cl, g1]
end CO0
