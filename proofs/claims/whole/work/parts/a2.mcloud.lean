/-! the model: its world, its rows of parts -/
def MW (t : fm_S) (w : WD) : Prop := (∀ i, i < 7 → gI t 436 i = Int32.ofNat (wT w i)) ∧ (∀ i, i < 5 → gI t 436 (7 + i) = Int32.ofNat (wP w i)) ∧ gI t 432 18 = Int32.ofNat (wT w 7) ∧ MV t (wn w) (wW w) (wM w) ∧ (∀ p, p < 7 → HM t p (wH w p)) ∧ gI t 432 32 = Int32.ofNat (wl w) ∧ ∀ i, i < wl w → gI t 450 (3 * i) = Int32.ofNat (wB w i).1 ∧ gI t 450 (3 * i + 1) = Int32.ofNat (wB w i).2.1 ∧ gI t 450 (3 * i + 2) = Int32.ofNat (wB w i).2.2
/-- what the model's reckoning touches -/
def pM (b j : Nat) : Prop := (b = 432 ∧ ((35 ≤ j ∧ j ≤ 36) ∨ (43 ≤ j ∧ j ≤ 60))) ∨ b = 444 ∨ b = 451 ∨ b = 452 ∨ b = 457
def qM (b j : Nat) : Prop := (b = 432 ∧ (j = 41 ∨ j = 42)) ∨ b = 453 ∨ b = 454 ∨ b = 455
def qMT (b j : Nat) : Prop := qM b j ∨ b = 456
theorem FM.mt {P : Nat → Nat → Prop} {s s' : fm_S} (x : s'.2.2 = s.2.2 ∧ (∀ b j, ¬ P b j → gI s' b j = gI s b j) ∧ ∀ b j, ¬ qM b j → gJ s' b j = gJ s b j) : FM P qMT s s' := FM.mono (Q := qM) x (fun _ _ h => h) (fun _ _ h => Or.inl h)
theorem MW.of {t t' : fm_S} {w : WD} (h : MW t w) (e : ∀ b j, ¬ pM b j → gI t' b j = gI t b j) : MW t' w := by
  obtain ⟨h1, h2, h3, h4, h5, h6, h7⟩ := h
  refine ⟨fun i hi => by rw [e _ _ (by unfold pM; omega), h1 i hi], fun i hi => by rw [e _ _ (by unfold pM; omega), h2 i hi], by rw [e _ _ (by unfold pM; omega), h3], ?_, fun p hp => ?_, by rw [e _ _ (by unfold pM; omega), h6], fun i hi => ?_⟩
  · obtain ⟨m1, m2, m3⟩ := h4
    refine ⟨by rw [e _ _ (by unfold pM; omega), m1], m2, fun v hv => ?_⟩
    obtain ⟨⟨k1, k2⟩, k3, k4⟩ := m3 v hv
    exact ⟨⟨by rw [e _ _ (by unfold pM; omega), k1], k2⟩, by rw [e _ _ (by unfold pM; omega), k3], k4⟩
  · obtain ⟨c1, c2, c3⟩ := h5 p hp
    refine ⟨by rw [e _ _ (by unfold pM; omega), c1], fun i hi => ?_, fun i hi => ?_⟩
    · obtain ⟨q1, q2, q3, q4⟩ := c2 i hi
      exact ⟨by rw [e _ _ (by unfold pM; omega), q1], by rw [e _ _ (by unfold pM; omega), q2], by rw [e _ _ (by unfold pM; omega), q3], by rw [e _ _ (by unfold pM; omega), q4]⟩
    · obtain ⟨q1, q2⟩ := c3 i hi
      exact ⟨by rw [e _ _ (by unfold pM; omega), q1], by rw [e _ _ (by unfold pM; omega), q2]⟩
  · obtain ⟨q1, q2, q3⟩ := h7 i hi
    exact ⟨by rw [e _ _ (by unfold pM; omega), q1], by rw [e _ _ (by unfold pM; omega), q2], by rw [e _ _ (by unfold pM; omega), q3]⟩
/-- parts by the model's number -/
def pq (D : Nat → Nat) (q : Nat) : Nat := if kof q < NS then D (kof q) else 0
theorem pq_mix {D : Nat → Nat} {k : Nat} (hk : k < NS) : pq D (mix k) = D k := by
  unfold pq
  rw [kof_mix hk, if_pos hk]
theorem mix_eq {q k : Nat} (hq : q < 16900) (hk : k < NS) : (q = mix k) ↔ (kof q = k) := by
  constructor
  · intro h
    rw [h, kof_mix hk]
  · intro h
    rw [← h]
    exact (mix_kof hq (by rw [h]; exact hk)).symm
/-- the row in force, the next one -/
def ML (t : fm_S) (l : List Nat) (D : Nat → Nat) : Prop := gI t 432 35 = Int32.ofNat l.length ∧ l.Nodup ∧ (∀ k ∈ l, k < NS) ∧ (∀ i k, l[i]? = some k → gI t 451 i = Int32.ofNat (mix k)) ∧ (∀ q, q < 16900 → gJ t 453 q = Int64.ofNat (pq D q)) ∧ ∀ k, k < NS → D k < BIG ∧ (D k ≠ 0 → k ∈ l)
def MX (t : fm_S) (l : List Nat) (F : Nat → Nat) : Prop := gI t 432 36 = Int32.ofNat l.length ∧ l.Nodup ∧ (∀ k ∈ l, k < NS) ∧ (∀ i k, l[i]? = some k → gI t 452 i = Int32.ofNat (mix k)) ∧ (∀ q, q < 16900 → gJ t 454 q = Int64.ofNat (pq F q)) ∧ ∀ k, k < NS → F k < BIG ∧ (k ∈ l ↔ F k ≠ 0)
theorem ML.len {t : fm_S} {l : List Nat} {D : Nat → Nat} (h : ML t l D) : l.length ≤ 9100 := nodup_len h.2.1 h.2.2.1
theorem MX.len {t : fm_S} {l : List Nat} {D : Nat → Nat} (h : MX t l D) : l.length ≤ 9100 := nodup_len h.2.1 h.2.2.1
theorem ML.of {t t' : fm_S} {l : List Nat} {D : Nat → Nat} (h : ML t l D) (e0 : gI t' 432 35 = gI t 432 35) (e1 : ∀ j, gI t' 451 j = gI t 451 j) (e2 : ∀ j, gJ t' 453 j = gJ t 453 j) : ML t' l D := by
  obtain ⟨h1, h2, h3, h4, h5, h6⟩ := h
  exact ⟨by rw [e0, h1], h2, h3, fun i k hk => by rw [e1, h4 i k hk], fun q hq => by rw [e2]; exact h5 q hq, h6⟩
theorem MX.of {t t' : fm_S} {l : List Nat} {D : Nat → Nat} (h : MX t l D) (e0 : gI t' 432 36 = gI t 432 36) (e1 : ∀ j, gI t' 452 j = gI t 452 j) (e2 : ∀ j, gJ t' 454 j = gJ t 454 j) : MX t' l D := by
  obtain ⟨h1, h2, h3, h4, h5, h6⟩ := h
  exact ⟨by rw [e0, h1], h2, h3, fun i k hk => by rw [e1, h4 i k hk], fun q hq => by rw [e2]; exact h5 q hq, h6⟩
def pNx (b j : Nat) : Prop := (b = 432 ∧ j = 36) ∨ b = 452
def qNx (b _j : Nat) : Prop := b = 454
theorem m_index {g : fm_g} {d c di ca st se : Nat} {s : fm_S} : ev g d mX12_index 0 [some (.int (Int32.ofNat c)), some (.int (Int32.ofNat di)), some (.int (Int32.ofNat ca)), some (.int (Int32.ofNat st)), some (.int (Int32.ofNat se))] [] s = some (.inl (some (.int (Int32.ofNat (mx c di ca st se)))), s) := by
  simp (disch := first | exact jm_lt0 | (apply jm_ltx; (repeat (first | exact jw_0 | apply jw_i | apply jw_r | apply jw_l)); omega) | omega | assumption | (refine n32_inA (by assumption) ?_ ?_ <;> omega) | exact bi01 | decide) only [sX12_index_0, sX12_index_1, sX12_index_3, sX12_index_4, sX12_index_5, sX12_index_6, sX12_index_7, sX12_index_8, sX12_index_9, sX12_index_10, sX12_index_12, sX12_index_13, sX12_index_14, sX12_index_15, sX12_index_16, sX12_index_17, sX12_index_19, sX12_index_20, n32_add, n32_mul]
  rfl
theorem m_gives {g : fm_g} {d k m : Nat} {l : List Nat} {F : Nat → Nat} {t : fm_S} (hF : FX t) (h : MX t l F) (hk : k < NS) (hm : F k + m < BIG) : ∃ t' l', ev g d mX12_gives 0 [some (.ref (432 : Nat)), some (.int (Int32.ofNat (mix k))), some (.long (Int64.ofNat m)), none] [] t = some (.inl none, t') ∧ FM pNx qNx t t' ∧ MX t' l' (updD F k m) := by
  have r34 := hF.u 432 34 452 (by decide +kernel)
  have r38 := hF.u 432 38 454 (by decide +kernel)
  have hmx := mix_lt hk
  have hb : BIG = 4611686018427387904 := rfl
  by_cases m0 : m = 0
  · subst m0
    refine ⟨t, l, ?_, FM.rf, by rw [updD_0]; exact h⟩
    simp (disch := first | exact jm_lt0 | (apply jm_ltx; (repeat (first | exact jw_0 | apply jw_i | apply jw_r | apply jw_l)); omega) | omega | assumption | exact sa_432 | exact n32_inA sb_432 (by omega) (by omega) | (refine n32_inA (by assumption) ?_ ?_ <;> omega) | exact bi01 | (rw [sa_432]; omega) | decide) only [sX12_gives_0, sX12_gives_1, sX12_gives_2, sX12_gives_3, sX12_gives_6, sX12_gives_7, sX12_gives_8, sX12_gives_11, sX12_gives_12, sX12_gives_13, sX12_gives_14, sX12_gives_15, sX12_gives_18, sX12_gives_19, sX12_gives_22, sX12_gives_23, sX12_gives_26, sX12_gives_27, sX12_gives_28, sX12_gives_29, sX12_gives_30, sX12_gives_33, sX12_gives_34, sX12_gives_35, sX12_gives_38, sX12_gives_39, sX12_gives_42, sX12_gives_43, sX12_gives_44, sX12_gives_45, sX12_gives_46, sX12_gives_47, sX12_gives_48, evK_n, evK_v, evK_x, gI_pI, gJ_pI, gR_pI, gI_pJ, gJ_pJ, gR_pJ, gI_pR, gJ_pR, gR_pR, n32_le, n32_lt, n32_add, n32_mul, n32_cl, if_true, if_false, not_true_eq_false, not_false_eq_true, and_true, true_and, and_false, false_and, and_self, or_true, true_or, or_false, false_or, or_self, ne_eq, Decidable.not_not, Nat.reduceEqDiff, Nat.reduceEqDiff, n64_ceq]
  · obtain ⟨c1, c2, c3, c4, c5, c6⟩ := id h
    have hz0 : ¬ Int64.ofNat m = Int64.ofNat 0 := by rw [n64_eq (by omega) (by decide)]; exact m0
    have e1 := c5 _ hmx
    rw [pq_mix hk] at e1
    obtain ⟨e2, e3⟩ := c6 k hk
    have hl := h.len
    have upq : ∀ q, q < 16900 → pq (updD F k m) q = if q = mix k then F k + m else pq F q := fun q hq => by
      unfold pq updD
      by_cases cq : q = mix k
      · rw [if_pos cq, cq, kof_mix hk, if_pos hk, if_pos rfl]
      · rw [if_neg cq, if_neg (fun h => cq ((mix_eq hq hk).mpr h))]
    by_cases d0 : F k = 0
    · have hz : Int64.ofNat (F k) = Int64.ofNat 0 := by rw [d0]
      have hnk : k ∉ l := fun hm => e3.mp hm d0
      have hlen : l.length < 9100 := nodup_len (l := k :: l) (n := NS) (List.nodup_cons.mpr ⟨hnk, c2⟩) (fun x hx => by
        rcases List.mem_cons.mp hx with rfl | hx
        · exact hk
        · exact c3 x hx)
      refine ⟨pJ (pI (pI t 452 l.length (Int32.ofNat (mix k))) 432 36 (Int32.ofNat (l.length + 1))) 454 (mix k) (Int64.ofNat (F k + m)), l ++ [k], ?_, ((FM.pI (Or.inr rfl)).tr (FM.pI (Or.inl ⟨rfl, rfl⟩))).tr (FM.pJ rfl), ?_, ?_, ?_, ?_, ?_, ?_⟩
      · simp (disch := first | exact jm_lt0 | (apply jm_ltx; (repeat (first | exact jw_0 | apply jw_i | apply jw_r | apply jw_l)); omega) | omega | assumption | exact sa_432 | exact sa_452 | exact sa_454 | exact n32_inA sb_432 (by omega) (by omega) | exact n32_inA sb_452 (by omega) (by omega) | exact n32_inA sb_454 (by omega) (by omega) | (refine n32_inA (by assumption) ?_ ?_ <;> omega) | exact bi01 | (rw [sa_432]; omega) | (rw [sa_452]; omega) | (rw [sa_454]; omega) | decide) only [sX12_gives_0, sX12_gives_1, sX12_gives_2, sX12_gives_3, sX12_gives_6, sX12_gives_7, sX12_gives_8, sX12_gives_11, sX12_gives_12, sX12_gives_13, sX12_gives_14, sX12_gives_15, sX12_gives_18, sX12_gives_19, sX12_gives_22, sX12_gives_23, sX12_gives_26, sX12_gives_27, sX12_gives_28, sX12_gives_29, sX12_gives_30, sX12_gives_33, sX12_gives_34, sX12_gives_35, sX12_gives_38, sX12_gives_39, sX12_gives_42, sX12_gives_43, sX12_gives_44, sX12_gives_45, sX12_gives_46, sX12_gives_47, sX12_gives_48, evK_n, evK_v, evK_x, gI_pI, gJ_pI, gR_pI, gI_pJ, gJ_pJ, gR_pJ, gI_pR, gJ_pR, gR_pR, n32_le, n32_lt, n32_add, n32_mul, n32_cl, if_true, if_false, not_true_eq_false, not_false_eq_true, and_true, true_and, and_false, false_and, and_self, or_true, true_or, or_false, false_or, or_self, ne_eq, Decidable.not_not, Nat.reduceEqDiff, Nat.reduceEqDiff, sa_432, sb_432, sa_452, sb_452, sa_454, sb_454, n64_ceq, hz0, r34, r38, e1, hz, c1, Nat.reduceEqDiff, n64_add, show ¬ ((432 : Nat) = 452) by decide]
        rw [d0]
      · simp [gJ_pJ, gI_pJ, gI_pI]
      · rw [List.nodup_append]
        exact ⟨c2, by simp, fun x hx y hy => by rw [List.mem_singleton] at hy; rintro rfl; exact hnk (hy ▸ hx)⟩
      · intro x hx
        rcases List.mem_append.mp hx with hx | hx
        · exact c3 x hx
        · rw [List.mem_singleton] at hx; omega
      · intro i x hx
        rw [gI_pJ, gI_pI, if_neg (by omega), gI_pI]
        by_cases ci : i = l.length
        · subst ci
          rw [if_pos ⟨rfl, rfl⟩]
          have : x = k := by simpa using hx.symm
          rw [this]
        · rw [if_neg (by rintro ⟨-, h⟩; exact ci h)]
          refine c4 i x ?_
          have : i < (l ++ [k]).length := (List.getElem?_eq_some_iff.mp hx).1
          rw [List.length_append, List.length_singleton] at this
          rwa [List.getElem?_append_left (by omega)] at hx
      · intro q hq
        rw [gJ_pJ, gJ_pI, gJ_pI, upq q hq]
        by_cases cq : q = mix k
        · rw [if_pos ⟨rfl, cq⟩, if_pos cq]
        · rw [if_neg (by rintro ⟨-, h⟩; exact cq h), if_neg cq, c5 q hq]
      · intro x hx
        obtain ⟨y2, y3⟩ := c6 x hx
        unfold updD
        by_cases cx : x = k
        · subst cx
          rw [if_pos rfl]
          exact ⟨hm, by simp; omega⟩
        · rw [if_neg cx]
          exact ⟨y2, by rw [List.mem_append, List.mem_singleton, ← y3]; exact ⟨fun h => h.resolve_right cx, Or.inl⟩⟩
    · have hz : ¬ Int64.ofNat (F k) = Int64.ofNat 0 := by rw [n64_eq (by omega) (by decide)]; exact d0
      refine ⟨pJ t 454 (mix k) (Int64.ofNat (F k + m)), l, ?_, FM.pJ rfl, by rw [gI_pJ, c1], c2, c3, fun i x hx => by rw [gI_pJ, c4 i x hx], fun q hq => ?_, fun x hx => ?_⟩
      · simp (disch := first | exact jm_lt0 | (apply jm_ltx; (repeat (first | exact jw_0 | apply jw_i | apply jw_r | apply jw_l)); omega) | omega | assumption | exact sa_432 | exact sa_452 | exact sa_454 | exact n32_inA sb_432 (by omega) (by omega) | exact n32_inA sb_452 (by omega) (by omega) | exact n32_inA sb_454 (by omega) (by omega) | (refine n32_inA (by assumption) ?_ ?_ <;> omega) | exact bi01 | (rw [sa_432]; omega) | (rw [sa_452]; omega) | (rw [sa_454]; omega) | decide) only [sX12_gives_0, sX12_gives_1, sX12_gives_2, sX12_gives_3, sX12_gives_6, sX12_gives_7, sX12_gives_8, sX12_gives_11, sX12_gives_12, sX12_gives_13, sX12_gives_14, sX12_gives_15, sX12_gives_18, sX12_gives_19, sX12_gives_22, sX12_gives_23, sX12_gives_26, sX12_gives_27, sX12_gives_28, sX12_gives_29, sX12_gives_30, sX12_gives_33, sX12_gives_34, sX12_gives_35, sX12_gives_38, sX12_gives_39, sX12_gives_42, sX12_gives_43, sX12_gives_44, sX12_gives_45, sX12_gives_46, sX12_gives_47, sX12_gives_48, evK_n, evK_v, evK_x, gI_pI, gJ_pI, gR_pI, gI_pJ, gJ_pJ, gR_pJ, gI_pR, gJ_pR, gR_pR, n32_le, n32_lt, n32_add, n32_mul, n32_cl, if_true, if_false, not_true_eq_false, not_false_eq_true, and_true, true_and, and_false, false_and, and_self, or_true, true_or, or_false, false_or, or_self, ne_eq, Decidable.not_not, Nat.reduceEqDiff, Nat.reduceEqDiff, sa_432, sb_432, sa_452, sb_452, sa_454, sb_454, n64_ceq, hz0, r34, r38, e1, hz, n64_add]
      · rw [gJ_pJ, upq q hq]
        by_cases cq : q = mix k
        · rw [if_pos ⟨rfl, cq⟩, if_pos cq]
        · rw [if_neg (by rintro ⟨-, h⟩; exact cq h), if_neg cq, c5 q hq]
      · obtain ⟨y2, y3⟩ := c6 x hx
        unfold updD
        by_cases cx : x = k
        · subst cx
          rw [if_pos rfl]
          exact ⟨hm, by rw [y3]; omega⟩
        · rw [if_neg cx]
          exact ⟨y2, y3⟩
def qL (b _j : Nat) : Prop := b = 453
/-- the row in force is emptied, in two methods -/
theorem clr_row {l : List Nat} {i k q : Nat} {D : Nat → Nat} {x : Int64} (hq : q < 16900) (hik : l[i]? = some k) (hk : k < NS) (hx : x = Int64.ofNat (if kof q ∈ l.take i then 0 else pq D q)) : (if (453 : Nat) = 453 ∧ q = mix k then Int64.ofNat 0 else x) = Int64.ofNat (if kof q ∈ l.take (i + 1) then 0 else pq D q) := by
  have hm : kof q ∈ l.take (i + 1) ↔ kof q ∈ l.take i ∨ kof q = k := by
    rw [List.take_add_one, hik, List.mem_append]
    simp
  by_cases c : q = mix k
  · rw [if_pos ⟨rfl, c⟩, if_pos (hm.mpr (Or.inr ((mix_eq hq hk).mp c)))]
  · rw [if_neg (by rintro ⟨-, h⟩; exact c h), hx]
    by_cases c2 : kof q ∈ l.take i
    · rw [if_pos c2, if_pos (hm.mpr (Or.inl c2))]
    · rw [if_neg c2, if_neg (by rw [hm]; rintro (h | h); exact c2 h; exact c ((mix_eq hq hk).mpr h))]
theorem m_tkLoop1 {g : fm_g} {d : Nat} {l : List Nat} {D : Nat → Nat} {s0 : fm_S} (hF : FX s0) (h : ML s0 l D) : ∀ (m i : Nat) (s : fm_S), i + m = l.length → FM nO qL s0 s → (∀ q, q < 16900 → gJ s 453 q = Int64.ofNat (if kof q ∈ l.take i then 0 else pq D q)) → ∃ s', ev g d mX12_takesNext 2 [some (.ref (432 : Nat)), some (.int (Int32.ofNat i))] [] s = ev g d mX12_takesNext 28 [some (.ref (432 : Nat)), none] [] s' ∧ FM nO qL s0 s' ∧ ∀ q, q < 16900 → gJ s' 453 q = Int64.ofNat 0 := by
  have hl := h.len
  intro m
  induction m with
  | zero =>
    intro i s hi hM hJ
    have hil : i = l.length := by omega
    subst hil
    have e1 : gI s 432 35 = Int32.ofNat l.length := by rw [hM.2.1 _ _ (fun h => h), h.1]
    refine ⟨s, ?_, hM, fun q hq => ?_⟩
    · rw [sX12_takesNext_2]
      simp (disch := first | exact jm_lt0 | (apply jm_ltx; (repeat (first | exact jw_0 | apply jw_i | apply jw_r | apply jw_l)); omega) | omega | assumption | exact sa_432 | exact n32_inA sb_432 (by omega) (by omega) | (refine n32_inA (by assumption) ?_ ?_ <;> omega) | exact bi01 | (rw [sa_432]; omega) | decide) only [sX12_takesNext_0, sX12_takesNext_1, sX12_takesNext_3, sX12_takesNext_4, sX12_takesNext_7, sX12_takesNext_10, sX12_takesNext_11, sX12_takesNext_14, sX12_takesNext_15, sX12_takesNext_18, sX12_takesNext_19, sX12_takesNext_20, sX12_takesNext_21, sX12_takesNext_22, sX12_takesNext_25, kX12_takesNext_28_AI, sX12_takesNext_29, sX12_takesNext_31, sX12_takesNext_32, sX12_takesNext_35, sX12_takesNext_38, sX12_takesNext_39, sX12_takesNext_42, sX12_takesNext_43, sX12_takesNext_44, sX12_takesNext_47, sX12_takesNext_48, sX12_takesNext_49, sX12_takesNext_50, sX12_takesNext_51, sX12_takesNext_54, sX12_takesNext_55, sX12_takesNext_58, sX12_takesNext_59, sX12_takesNext_60, sX12_takesNext_61, sX12_takesNext_64, sX12_takesNext_65, sX12_takesNext_68, sX12_takesNext_69, sX12_takesNext_70, sX12_takesNext_71, sX12_takesNext_72, sX12_takesNext_73, sX12_takesNext_76, sX12_takesNext_77, sX12_takesNext_80, sX12_takesNext_81, sX12_takesNext_82, sX12_takesNext_83, sX12_takesNext_84, sX12_takesNext_87, kX12_takesNext_90_AI, sX12_takesNext_90, sX12_takesNext_91, sX12_takesNext_92, sX12_takesNext_95, sX12_takesNext_98, sX12_takesNext_99, sX12_takesNext_100, sX12_takesNext_103, evK_n, evK_v, evK_x, gI_pI, gJ_pI, gR_pI, gI_pJ, gJ_pJ, gR_pJ, gI_pR, gJ_pR, gR_pR, n32_le, n32_lt, n32_add, n32_mul, n32_cl, if_true, if_false, not_true_eq_false, not_false_eq_true, and_true, true_and, and_false, false_and, and_self, or_true, true_or, or_false, false_or, or_self, ne_eq, Decidable.not_not, Nat.reduceEqDiff, Nat.reduceEqDiff, sa_432, sb_432, e1]
      rw [if_pos (by omega)]
    · rw [hJ q hq, List.take_length]
      by_cases c : kof q ∈ l
      · rw [if_pos c]
      · rw [if_neg c]
        congr 1
        unfold pq
        split
        next hk =>
          rcases Nat.eq_zero_or_pos (D (kof q)) with h0 | h0
          · exact h0
          · exact absurd ((h.2.2.2.2.2 _ hk).2 (by omega)) c
        next => rfl
  | succ m ih =>
    intro i s hi hM hJ
    have hFs := hM.fx hF
    have r33 := hFs.u 432 33 451 (by decide +kernel)
    have r37 := hFs.u 432 37 453 (by decide +kernel)
    have hil : i < l.length := by omega
    have hik : l[i]? = some l[i] := List.getElem?_eq_getElem hil
    have hk : l[i] < NS := h.2.2.1 _ (List.getElem_mem hil)
    have hmx := mix_lt hk
    have e1 : gI s 432 35 = Int32.ofNat l.length := by rw [hM.2.1 _ _ (fun h => h), h.1]
    have e2 : gI s 451 i = Int32.ofNat (mix l[i]) := by rw [hM.2.1 _ _ (fun h => h), h.2.2.2.1 i _ hik]
    have g1 : ¬ l.length ≤ i := by omega
    obtain ⟨s', f1, f2, f3⟩ := ih (i + 1) (pJ s 453 (mix l[i]) (Int64.ofNat 0)) (by omega) (hM.tr (FM.pJ rfl)) (fun q hq => by rw [gJ_pJ]; exact clr_row hq hik hk (hJ q hq))
    refine ⟨s', ?_, f2, f3⟩
    rw [sX12_takesNext_2]
    simp (disch := first | exact jm_lt0 | (apply jm_ltx; (repeat (first | exact jw_0 | apply jw_i | apply jw_r | apply jw_l)); omega) | omega | assumption | exact sa_432 | exact sa_451 | exact sa_453 | exact n32_inA sb_432 (by omega) (by omega) | exact n32_inA sb_451 (by omega) (by omega) | exact n32_inA sb_453 (by omega) (by omega) | (refine n32_inA (by assumption) ?_ ?_ <;> omega) | exact bi01 | (rw [sa_432]; omega) | (rw [sa_451]; omega) | (rw [sa_453]; omega) | decide) only [sX12_takesNext_0, sX12_takesNext_1, sX12_takesNext_3, sX12_takesNext_4, sX12_takesNext_7, sX12_takesNext_10, sX12_takesNext_11, sX12_takesNext_14, sX12_takesNext_15, sX12_takesNext_18, sX12_takesNext_19, sX12_takesNext_20, sX12_takesNext_21, sX12_takesNext_22, sX12_takesNext_25, kX12_takesNext_28_AI, sX12_takesNext_29, sX12_takesNext_31, sX12_takesNext_32, sX12_takesNext_35, sX12_takesNext_38, sX12_takesNext_39, sX12_takesNext_42, sX12_takesNext_43, sX12_takesNext_44, sX12_takesNext_47, sX12_takesNext_48, sX12_takesNext_49, sX12_takesNext_50, sX12_takesNext_51, sX12_takesNext_54, sX12_takesNext_55, sX12_takesNext_58, sX12_takesNext_59, sX12_takesNext_60, sX12_takesNext_61, sX12_takesNext_64, sX12_takesNext_65, sX12_takesNext_68, sX12_takesNext_69, sX12_takesNext_70, sX12_takesNext_71, sX12_takesNext_72, sX12_takesNext_73, sX12_takesNext_76, sX12_takesNext_77, sX12_takesNext_80, sX12_takesNext_81, sX12_takesNext_82, sX12_takesNext_83, sX12_takesNext_84, sX12_takesNext_87, kX12_takesNext_90_AI, sX12_takesNext_90, sX12_takesNext_91, sX12_takesNext_92, sX12_takesNext_95, sX12_takesNext_98, sX12_takesNext_99, sX12_takesNext_100, sX12_takesNext_103, evK_n, evK_v, evK_x, gI_pI, gJ_pI, gR_pI, gI_pJ, gJ_pJ, gR_pJ, gI_pR, gJ_pR, gR_pR, n32_le, n32_lt, n32_add, n32_mul, n32_cl, if_true, if_false, not_true_eq_false, not_false_eq_true, and_true, true_and, and_false, false_and, and_self, or_true, true_or, or_false, false_or, or_self, ne_eq, Decidable.not_not, Nat.reduceEqDiff, Nat.reduceEqDiff, sa_432, sb_432, sa_451, sb_451, sa_453, sb_453, e1, e2, r33, r37, g1]
    exact f1
def pT (b _j : Nat) : Prop := b = 451
def qT (b _j : Nat) : Prop := b = 453 ∨ b = 454
theorem m_tkLoop2 {g : fm_g} {d : Nat} {l : List Nat} {F : Nat → Nat} {s0 : fm_S} (hF : FX s0) (h : MX s0 l F) : ∀ (m i : Nat) (s : fm_S), i + m = l.length → FM pT qT s0 s → (∀ j k, j < i → l[j]? = some k → gI s 451 j = Int32.ofNat (mix k)) → (∀ q, q < 16900 → gJ s 453 q = Int64.ofNat (if kof q ∈ l.take i then pq F q else 0) ∧ gJ s 454 q = Int64.ofNat (if kof q ∈ l.take i then 0 else pq F q)) → ∃ s', ev g d mX12_takesNext 30 [some (.ref (432 : Nat)), some (.int (Int32.ofNat i))] [] s = some (.inl none, pI (pI s' 432 35 (Int32.ofNat l.length)) 432 36 (Int32.ofNat 0)) ∧ FM pT qT s0 s' ∧ (∀ j k, l[j]? = some k → gI s' 451 j = Int32.ofNat (mix k)) ∧ ∀ q, q < 16900 → gJ s' 453 q = Int64.ofNat (pq F q) ∧ gJ s' 454 q = Int64.ofNat 0 := by
  have hl := h.len
  intro m
  induction m with
  | zero =>
    intro i s hi hM hL hJ
    have hil : i = l.length := by omega
    subst hil
    have e1 : gI s 432 36 = Int32.ofNat l.length := by rw [hM.2.1 _ _ (by unfold pT; omega), h.1]
    refine ⟨s, ?_, hM, fun j k hj => hL j k (List.getElem?_eq_some_iff.mp hj).1 hj, fun q hq => ?_⟩
    · rw [sX12_takesNext_30]
      simp (disch := first | exact jm_lt0 | (apply jm_ltx; (repeat (first | exact jw_0 | apply jw_i | apply jw_r | apply jw_l)); omega) | omega | assumption | exact sa_432 | exact n32_inA sb_432 (by omega) (by omega) | (refine n32_inA (by assumption) ?_ ?_ <;> omega) | exact bi01 | (rw [sa_432]; omega) | decide) only [sX12_takesNext_0, sX12_takesNext_1, sX12_takesNext_3, sX12_takesNext_4, sX12_takesNext_7, sX12_takesNext_10, sX12_takesNext_11, sX12_takesNext_14, sX12_takesNext_15, sX12_takesNext_18, sX12_takesNext_19, sX12_takesNext_20, sX12_takesNext_21, sX12_takesNext_22, sX12_takesNext_25, kX12_takesNext_28_AI, sX12_takesNext_28, sX12_takesNext_29, sX12_takesNext_31, sX12_takesNext_32, sX12_takesNext_35, sX12_takesNext_38, sX12_takesNext_39, sX12_takesNext_42, sX12_takesNext_43, sX12_takesNext_44, sX12_takesNext_47, sX12_takesNext_48, sX12_takesNext_49, sX12_takesNext_50, sX12_takesNext_51, sX12_takesNext_54, sX12_takesNext_55, sX12_takesNext_58, sX12_takesNext_59, sX12_takesNext_60, sX12_takesNext_61, sX12_takesNext_64, sX12_takesNext_65, sX12_takesNext_68, sX12_takesNext_69, sX12_takesNext_70, sX12_takesNext_71, sX12_takesNext_72, sX12_takesNext_73, sX12_takesNext_76, sX12_takesNext_77, sX12_takesNext_80, sX12_takesNext_81, sX12_takesNext_82, sX12_takesNext_83, sX12_takesNext_84, sX12_takesNext_87, kX12_takesNext_90_AI, sX12_takesNext_90, sX12_takesNext_91, sX12_takesNext_92, sX12_takesNext_95, sX12_takesNext_98, sX12_takesNext_99, sX12_takesNext_100, sX12_takesNext_103, evK_n, evK_v, evK_x, gI_pI, gJ_pI, gR_pI, gI_pJ, gJ_pJ, gR_pJ, gI_pR, gJ_pR, gR_pR, n32_le, n32_lt, n32_add, n32_mul, n32_cl, if_true, if_false, not_true_eq_false, not_false_eq_true, and_true, true_and, and_false, false_and, and_self, or_true, true_or, or_false, false_or, or_self, ne_eq, Decidable.not_not, Nat.reduceEqDiff, Nat.reduceEqDiff, sa_432, sb_432, e1]
      rw [if_pos (by omega)]
    · obtain ⟨j1, j2⟩ := hJ q hq
      rw [j1, j2, List.take_length]
      by_cases c : kof q ∈ l
      · rw [if_pos c, if_pos c]
        exact ⟨rfl, rfl⟩
      · rw [if_neg c, if_neg c]
        have : pq F q = 0 := by
          unfold pq
          split
          next hk =>
            rcases Nat.eq_zero_or_pos (F (kof q)) with h0 | h0
            · exact h0
            · exact absurd ((h.2.2.2.2.2 _ hk).2.mpr (by omega)) c
          next => rfl
        rw [this]
        exact ⟨rfl, rfl⟩
  | succ m ih =>
    intro i s hi hM hL hJ
    have hFs := hM.fx hF
    have r33 := hFs.u 432 33 451 (by decide +kernel)
    have r34 := hFs.u 432 34 452 (by decide +kernel)
    have r37 := hFs.u 432 37 453 (by decide +kernel)
    have r38 := hFs.u 432 38 454 (by decide +kernel)
    have hil : i < l.length := by omega
    have hik : l[i]? = some l[i] := List.getElem?_eq_getElem hil
    have hk : l[i] < NS := h.2.2.1 _ (List.getElem_mem hil)
    have hmx := mix_lt hk
    have e1 : gI s 432 36 = Int32.ofNat l.length := by rw [hM.2.1 _ _ (by unfold pT; omega), h.1]
    have e2 : gI s 452 i = Int32.ofNat (mix l[i]) := by rw [hM.2.1 _ _ (by unfold pT; omega), h.2.2.2.1 i _ hik]
    have g1 : ¬ l.length ≤ i := by omega
    have hnt : l[i] ∉ l.take i := by
      intro hm
      obtain ⟨j, hj, hj2⟩ := List.mem_iff_getElem.mp hm
      rw [List.length_take] at hj
      rw [List.getElem_take] at hj2
      exact (List.pairwise_iff_getElem.mp h.2.1) j i (by omega) hil (by omega) hj2
    have e4 : gJ s 454 (mix l[i]) = Int64.ofNat (pq F (mix l[i])) := by
      rw [(hJ _ hmx).2, kof_mix hk, if_neg hnt]
    have hm : ∀ q, kof q ∈ l.take (i + 1) ↔ kof q ∈ l.take i ∨ kof q = l[i] := fun q => by
      rw [List.take_add_one, hik, List.mem_append]
      simp
    obtain ⟨s', f1, f2, f3, f4⟩ := ih (i + 1) (pJ (pJ (pI s 451 i (Int32.ofNat (mix l[i]))) 453 (mix l[i]) (Int64.ofNat (pq F (mix l[i])))) 454 (mix l[i]) (Int64.ofNat 0)) (by omega) (((hM.tr (FM.pI rfl)).tr (FM.pJ (Or.inl rfl))).tr (FM.pJ (Or.inr rfl))) (fun j k hj hjk => by
      rw [gI_pJ, gI_pJ, gI_pI]
      by_cases cj : j = i
      · subst cj
        rw [hik] at hjk
        cases hjk
        rw [if_pos ⟨rfl, rfl⟩]
      · rw [if_neg (by rintro ⟨-, h⟩; exact cj h)]
        exact hL j k (by omega) hjk) (fun q hq => by
      obtain ⟨j1, j2⟩ := hJ q hq
      refine ⟨?_, ?_⟩
      · rw [gJ_pJ, if_neg (by omega), gJ_pJ, gJ_pI]
        by_cases c : q = mix l[i]
        · rw [if_pos ⟨rfl, c⟩, if_pos ((hm q).mpr (Or.inr ((mix_eq hq hk).mp c))), c]
        · have ck : ¬ kof q = l[i] := fun h => c ((mix_eq hq hk).mpr h)
          rw [if_neg (by rintro ⟨-, h⟩; exact c h), j1]
          by_cases c2 : kof q ∈ l.take i
          · rw [if_pos c2, if_pos ((hm q).mpr (Or.inl c2))]
          · rw [if_neg c2, if_neg (by rw [hm]; rintro (h | h); exact c2 h; exact ck h)]
      · rw [gJ_pJ]
        by_cases c : q = mix l[i]
        · rw [if_pos ⟨rfl, c⟩, if_pos ((hm q).mpr (Or.inr ((mix_eq hq hk).mp c)))]
        · have ck : ¬ kof q = l[i] := fun h => c ((mix_eq hq hk).mpr h)
          rw [if_neg (by rintro ⟨-, h⟩; exact c h), gJ_pJ, if_neg (by omega), gJ_pI, j2]
          by_cases c2 : kof q ∈ l.take i
          · rw [if_pos c2, if_pos ((hm q).mpr (Or.inl c2))]
          · rw [if_neg c2, if_neg (by rw [hm]; rintro (h | h); exact c2 h; exact ck h)])
    refine ⟨s', ?_, f2, f3, f4⟩
    rw [sX12_takesNext_30]
    simp (disch := first | exact jm_lt0 | (apply jm_ltx; (repeat (first | exact jw_0 | apply jw_i | apply jw_r | apply jw_l)); omega) | omega | assumption | exact sa_432 | exact sa_451 | exact sa_452 | exact sa_453 | exact sa_454 | exact n32_inA sb_432 (by omega) (by omega) | exact n32_inA sb_451 (by omega) (by omega) | exact n32_inA sb_452 (by omega) (by omega) | exact n32_inA sb_453 (by omega) (by omega) | exact n32_inA sb_454 (by omega) (by omega) | (refine n32_inA (by assumption) ?_ ?_ <;> omega) | exact bi01 | (rw [sa_432]; omega) | (rw [sa_451]; omega) | (rw [sa_452]; omega) | (rw [sa_453]; omega) | (rw [sa_454]; omega) | decide) only [sX12_takesNext_0, sX12_takesNext_1, sX12_takesNext_3, sX12_takesNext_4, sX12_takesNext_7, sX12_takesNext_10, sX12_takesNext_11, sX12_takesNext_14, sX12_takesNext_15, sX12_takesNext_18, sX12_takesNext_19, sX12_takesNext_20, sX12_takesNext_21, sX12_takesNext_22, sX12_takesNext_25, kX12_takesNext_28_AI, sX12_takesNext_28, sX12_takesNext_29, sX12_takesNext_31, sX12_takesNext_32, sX12_takesNext_35, sX12_takesNext_38, sX12_takesNext_39, sX12_takesNext_42, sX12_takesNext_43, sX12_takesNext_44, sX12_takesNext_47, sX12_takesNext_48, sX12_takesNext_49, sX12_takesNext_50, sX12_takesNext_51, sX12_takesNext_54, sX12_takesNext_55, sX12_takesNext_58, sX12_takesNext_59, sX12_takesNext_60, sX12_takesNext_61, sX12_takesNext_64, sX12_takesNext_65, sX12_takesNext_68, sX12_takesNext_69, sX12_takesNext_70, sX12_takesNext_71, sX12_takesNext_72, sX12_takesNext_73, sX12_takesNext_76, sX12_takesNext_77, sX12_takesNext_80, sX12_takesNext_81, sX12_takesNext_82, sX12_takesNext_83, sX12_takesNext_84, sX12_takesNext_87, kX12_takesNext_90_AI, sX12_takesNext_90, sX12_takesNext_91, sX12_takesNext_92, sX12_takesNext_95, sX12_takesNext_98, sX12_takesNext_99, sX12_takesNext_100, sX12_takesNext_103, evK_n, evK_v, evK_x, gI_pI, gJ_pI, gR_pI, gI_pJ, gJ_pJ, gR_pJ, gI_pR, gJ_pR, gR_pR, n32_le, n32_lt, n32_add, n32_mul, n32_cl, if_true, if_false, not_true_eq_false, not_false_eq_true, and_true, true_and, and_false, false_and, and_self, or_true, true_or, or_false, false_or, or_self, ne_eq, Decidable.not_not, Nat.reduceEqDiff, Nat.reduceEqDiff, sa_432, sb_432, sa_451, sb_451, sa_452, sb_452, sa_453, sb_453, sa_454, sb_454, e1, e2, r33, r34, r37, r38, g1, e4]
    exact f1
def pTN (b j : Nat) : Prop := b = 451 ∨ (b = 432 ∧ (j = 35 ∨ j = 36))
theorem m_takesNext {g : fm_g} {d : Nat} {l l' : List Nat} {D F : Nat → Nat} {t : fm_S} (hF : FX t) (h : ML t l D) (h' : MX t l' F) : ∃ t', ev g d mX12_takesNext 0 [some (.ref (432 : Nat)), none] [] t = some (.inl none, t') ∧ FM pTN qT t t' ∧ ML t' l' F ∧ MX t' [] (fun _ => 0) := by
  obtain ⟨s1, e1, hM1, hz⟩ := m_tkLoop1 (g := g) (d := d) hF h l.length 0 t (by omega) FM.rf (fun q hq => by simpa using h.2.2.2.2.1 q hq)
  have hF1 := hM1.fx hF
  have h1' : MX s1 l' F := h'.of (hM1.2.1 _ _ (fun h => h)) (fun j => hM1.2.1 _ _ (fun h => h)) (fun j => hM1.2.2 _ _ (by unfold qL; omega))
  obtain ⟨s2, e2, hM2, hL2, hJ2⟩ := m_tkLoop2 (g := g) (d := d) hF1 h1' l'.length 0 s1 (by omega) FM.rf (fun j k hj => by omega) (fun q hq => ⟨by rw [hz q hq]; simp, by simpa using h1'.2.2.2.2.1 q hq⟩)
  refine ⟨pI (pI s2 432 35 (Int32.ofNat l'.length)) 432 36 (Int32.ofNat 0), ?_, ((hM1.mono (fun _ _ h => h.elim) (fun b j h => Or.inl h)).tr (hM2.mono (fun b j h => Or.inl h) (fun _ _ h => h))).tr ((FM.pI (Or.inr ⟨rfl, Or.inl rfl⟩)).tr (FM.pI (Or.inr ⟨rfl, Or.inr rfl⟩))), ⟨by simp [gI_pI], h'.2.1, h'.2.2.1, fun i k hk => by rw [gI_pI, if_neg (by omega), gI_pI, if_neg (by omega), hL2 i k hk], fun q hq => by rw [gJ_pI, gJ_pI, (hJ2 q hq).1], fun k hk => ⟨(h'.2.2.2.2.2 k hk).1, (h'.2.2.2.2.2 k hk).2.mpr⟩⟩, ⟨by simp [gI_pI], List.nodup_nil, by simp, by simp, fun q hq => ?_, fun k hk => ⟨(by decide : 0 < BIG), by simp⟩⟩⟩
  · rw [sX12_takesNext_0, sX12_takesNext_1, e1, sX12_takesNext_28, sX12_takesNext_29]
    exact e2
  · rw [gJ_pI, gJ_pI, (hJ2 q hq).2]
    congr 1
    unfold pq
    split <;> rfl
