/-! habits and conditions: what they come to -/
def vB (k : Nat) (a b : Int32) : Int32 := if k = 2 then a + b else if k = 3 then a - b else if k = 4 then a * b else if k = 5 then bi (a < b) else if k = 6 then bi (b < a) else if k = 7 then bi (a = b) else if k = 9 then a &&& b else a ||| b
def ev1 (k c : Nat) (X : Nat → Int32) (S : List Int32) : List Int32 := if k = 0 then Int32.ofNat c :: S else if k = 1 then X c :: S else match S with
  | [] => []
  | a :: r => if k = 8 then bi (a = 0) :: r else match r with
    | [] => []
    | b :: r' => vB k b a :: r'
def evS (K C : Nat → Nat) (X : Nat → Int32) : Nat → Nat → List Int32 → List Int32
  | _, 0, S => S
  | i, m + 1, S => evS K C X (i + 1) m (ev1 (K i) (C i) X S)
/-- a stack of numbers and conditions -/
def tyd : List Bool → List Int32 → Prop
  | [], [] => True
  | t :: ts, v :: vs => (t = true → v = 0 ∨ v = 1) ∧ tyd ts vs
  | _, _ => False
theorem tyd_nil {S : List Int32} (h : tyd [] S) : S = [] := by
  cases S with
  | nil => rfl
  | cons _ _ => exact absurd h (by simp [tyd])
theorem tyd_cons {t : Bool} {ts : List Bool} {S : List Int32} (h : tyd (t :: ts) S) : ∃ v r, S = v :: r ∧ (t = true → v = 0 ∨ v = 1) ∧ tyd ts r := by
  cases S with
  | nil => exact absurd h (by simp [tyd])
  | cons v r => exact ⟨v, r, rfl, h.1, h.2⟩
theorem tyd_len : ∀ {ts : List Bool} {S : List Int32}, tyd ts S → ts.length = S.length
  | [], [], _ => rfl
  | [], _ :: _, h => absurd h (by simp [tyd])
  | _ :: _, [], h => absurd h (by simp [tyd])
  | _ :: ts, _ :: S, h => by rw [List.length_cons, List.length_cons, tyd_len h.2]
theorem bi01' {P : Prop} [Decidable P] : bi P = 0 ∨ bi P = 1 := by
  unfold bi
  split
  · exact Or.inr rfl
  · exact Or.inl rfl
/-- which of three an order is, by what it needs -/
theorem ty1_cases {k : Nat} {S S' : List Bool} (h : ty1 k S = some S') : (k ≤ 1 ∧ S' = false :: S) ∨ (k = 8 ∧ ∃ r, S = true :: r ∧ S' = true :: r) ∨ (2 ≤ k ∧ k ≤ 7 ∧ ∃ r, S = false :: false :: r ∧ S' = decide (5 ≤ k) :: r) ∨ (9 ≤ k ∧ ∃ r, S = true :: true :: r ∧ S' = true :: r) := by
  unfold ty1 at h
  split at h
  next hk => cases h; exact Or.inl ⟨hk, rfl⟩
  next hk =>
  cases S with
  | nil => cases h
  | cons a r =>
    dsimp only at h
    split at h
    next h8 =>
      split at h
      next ha => cases h; exact Or.inr (Or.inl ⟨h8, r, by rw [ha], rfl⟩)
      next => cases h
    next h8 =>
      cases r with
      | nil => cases h
      | cons b r' =>
        dsimp only at h
        split at h
        next h7 =>
          split at h
          next hab => cases h; exact Or.inr (Or.inr (Or.inl ⟨by omega, h7, r', by rw [hab.1, hab.2], rfl⟩))
          next => cases h
        next h7 =>
          split at h
          next hab => cases h; exact Or.inr (Or.inr (Or.inr ⟨by omega, r', by rw [hab.1, hab.2], rfl⟩))
          next => cases h
theorem i32_and01 {a b : Int32} (ha : a = 0 ∨ a = 1) (hb : b = 0 ∨ b = 1) : (a &&& b = 0 ∨ a &&& b = 1) ∧ (a ||| b = 0 ∨ a ||| b = 1) ∧ bi (a + b = Int32.ofNat 2) = a &&& b ∧ bi (¬ a + b ≤ 0) = a ||| b := by
  rcases ha with rfl | rfl <;> rcases hb with rfl | rfl <;> decide
theorem ev1_ty {k c : Nat} {X : Nat → Int32} {T T' : List Bool} {S : List Int32} (h : ty1 k T = some T') (hS : tyd T S) : tyd T' (ev1 k c X S) := by
  rcases ty1_cases h with ⟨hk, rfl⟩ | ⟨rfl, r, rfl, rfl⟩ | ⟨h2, h7, r, rfl, rfl⟩ | ⟨h9, r, rfl, rfl⟩
  · unfold ev1
    split
    · exact ⟨(fun h => absurd h (by decide)), hS⟩
    · rw [if_pos (by omega)]
      exact ⟨(fun h => absurd h (by decide)), hS⟩
  · obtain ⟨v, S1, rfl, h1, h2⟩ := tyd_cons hS
    exact ⟨fun _ => bi01', h2⟩
  · obtain ⟨a, S1, rfl, -, h3⟩ := tyd_cons hS
    obtain ⟨b, S2, rfl, -, h4⟩ := tyd_cons h3
    unfold ev1
    rw [if_neg (by omega), if_neg (by omega)]
    dsimp only
    rw [if_neg (by omega)]
    refine ⟨fun h5 => ?_, h4⟩
    have h5 := of_decide_eq_true h5
    unfold vB
    rw [if_neg (by omega), if_neg (by omega), if_neg (by omega)]
    split
    · exact bi01'
    split
    · exact bi01'
    rw [if_pos (by omega)]
    exact bi01'
  · obtain ⟨a, S1, rfl, ha, h3⟩ := tyd_cons hS
    obtain ⟨b, S2, rfl, hb, h4⟩ := tyd_cons h3
    unfold ev1
    rw [if_neg (by omega), if_neg (by omega)]
    dsimp only
    rw [if_neg (by omega)]
    refine ⟨fun _ => ?_, h4⟩
    unfold vB
    rw [if_neg (by omega), if_neg (by omega), if_neg (by omega), if_neg (by omega), if_neg (by omega), if_neg (by omega)]
    have := i32_and01 (hb rfl) (ha rfl)
    split
    · exact this.1
    · exact this.2.1
/-- a HABIT: its STEPS, their acts, odds, where their conditions begin and end, the orders' kinds and what they are of, how many orders -/
abbrev HB : Type := Nat × (Nat → Nat) × (Nat → Nat) × (Nat → Nat) × (Nat → Nat) × (Nat → Nat) × (Nat → Nat) × Nat
abbrev hbm (b : HB) : Nat := b.1
abbrev hbA (b : HB) : Nat → Nat := b.2.1
abbrev hbQ (b : HB) : Nat → Nat := b.2.2.1
abbrev hbF (b : HB) : Nat → Nat := b.2.2.2.1
abbrev hbZ (b : HB) : Nat → Nat := b.2.2.2.2.1
abbrev hbK (b : HB) : Nat → Nat := b.2.2.2.2.2.1
abbrev hbC (b : HB) : Nat → Nat := b.2.2.2.2.2.2.1
abbrev hbN (b : HB) : Nat := b.2.2.2.2.2.2.2
def hOK (b : HB) : Prop := hbm b ≤ 8 ∧ hbN b ≤ 150 ∧ (∀ i, i < hbN b → hbK b i ≤ 10 ∧ hbC b i ≤ 999 ∧ (hbK b i = 1 → hbC b i ≤ 7)) ∧ ∀ i, i < hbm b → hbA b i < 8 ∧ hbQ b i ≤ 16 ∧ hbF b i ≤ hbZ b i ∧ hbZ b i ≤ hbN b ∧ (hbF b i = hbZ b i ∨ tyS (fun j => Int32.ofNat (hbK b j)) (hbF b i) (hbZ b i - hbF b i) [] = some [true])
def cnd (b : HB) (i : Nat) (X : Nat → Int32) : Bool := if hbF b i = hbZ b i then true else decide ((evS (hbK b) (hbC b) X (hbF b i) (hbZ b i - hbF b i) []).headD 0 = 1)
def HC (s : fm_S) (h : Nat) (b : HB) : Prop := gI s h 0 = Int32.ofNat (hbm b) ∧ gI s h 6 = Int32.ofNat (hbN b) ∧ (∀ i, i < hbm b → gI s (h + 1) i = Int32.ofNat (hbA b i) ∧ gI s (h + 2) i = Int32.ofNat (hbQ b i) ∧ gI s (h + 3) i = Int32.ofNat (hbF b i) ∧ gI s (h + 4) i = Int32.ofNat (hbZ b i)) ∧ ∀ i, i < hbN b → gI s (h + 5) i = Int32.ofNat (hbK b i * 1000 + hbC b i)
def HM (t : fm_S) (p : Nat) (b : HB) : Prop := gI t 448 p = Int32.ofNat (hbm b) ∧ (∀ i, i < hbm b → gI t 447 (32 * p + 4 * i) = Int32.ofNat (hbA b i) ∧ gI t 447 (32 * p + 4 * i + 1) = Int32.ofNat (hbQ b i) ∧ gI t 447 (32 * p + 4 * i + 2) = Int32.ofNat (hbF b i) ∧ gI t 447 (32 * p + 4 * i + 3) = Int32.ofNat (hbZ b i)) ∧ ∀ i, i < hbN b → gI t 445 (150 * p + i) = Int32.ofNat (hbK b i) ∧ gI t 446 (150 * p + i) = Int32.ofNat (hbC b i)
/-- the class's HABITS: their cells -/
def hbL : List Nat := [54, 65, 72, 79, 86, 93, 100, 156]
def hS (h : Nat) : Prop := (shp h).1 = 5 ∧ (shp (h + 1)).1 = 60 ∧ (shp (h + 1)).2 = 8 ∧ (shp (h + 2)).1 = 60 ∧ (shp (h + 2)).2 = 8 ∧ (shp (h + 3)).1 = 60 ∧ (shp (h + 3)).2 = 8 ∧ (shp (h + 4)).1 = 60 ∧ (shp (h + 4)).2 = 8 ∧ (shp (h + 5)).1 = 60 ∧ (shp (h + 5)).2 = 150 ∧ (shp (h + 6)).1 = 60 ∧ (shp (h + 6)).2 = 150
theorem hS_of {h : Nat} (hh : h ∈ hbL) : hS h := by
  have key : ∀ h ∈ hbL, (shp h).1 = 5 ∧ (shp (h + 1)).1 = 60 ∧ (shp (h + 1)).2 = 8 ∧ (shp (h + 2)).1 = 60 ∧ (shp (h + 2)).2 = 8 ∧ (shp (h + 3)).1 = 60 ∧ (shp (h + 3)).2 = 8 ∧ (shp (h + 4)).1 = 60 ∧ (shp (h + 4)).2 = 8 ∧ (shp (h + 5)).1 = 60 ∧ (shp (h + 5)).2 = 150 ∧ (shp (h + 6)).1 = 60 ∧ (shp (h + 6)).2 = 150 := by decide +kernel
  exact key h hh
def hR (s : fm_S) (h : Nat) : Prop := gR s h 1 = h + 1 ∧ gR s h 2 = h + 2 ∧ gR s h 3 = h + 3 ∧ gR s h 4 = h + 4 ∧ gR s h 5 = h + 5 ∧ gR s h 7 = h + 6
theorem hR_of {s : fm_S} {h : Nat} (hF : FX s) (hh : h ∈ hbL) : hR s h := by
  have key : ∀ h ∈ hbL, (h, 1, h + 1) ∈ fxL ∧ (h, 2, h + 2) ∈ fxL ∧ (h, 3, h + 3) ∈ fxL ∧ (h, 4, h + 4) ∈ fxL ∧ (h, 5, h + 5) ∈ fxL ∧ (h, 7, h + 6) ∈ fxL := by decide +kernel
  obtain ⟨k1, k2, k3, k4, k5, k6⟩ := key h hh
  exact ⟨hF _ k1, hF _ k2, hF _ k3, hF _ k4, hF _ k5, hF _ k6⟩
/-- what lies on a stack's row -/
def stk (s : fm_S) (a : Nat) : List Int32 → Prop
  | [] => True
  | v :: S => gI s a S.length = v ∧ stk s a S
theorem stk_of {s s' : fm_S} {a : Nat} : ∀ {S : List Int32}, stk s a S → (∀ j, j < S.length → gI s' a j = gI s a j) → stk s' a S
  | [], _, _ => trivial
  | v :: S, h, e => ⟨by rw [e _ (by simp)]; exact h.1, stk_of h.2 (fun j hj => e j (by simp; omega))⟩
/-- nothing but the HABIT's stack changes -/
def SF (h : Nat) (s s' : fm_S) : Prop := s'.2 = s.2 ∧ ∀ b j, b ≠ h + 6 → ¬ (b = h ∧ j = 8) → gI s' b j = gI s b j
theorem SF.rf {h : Nat} {s : fm_S} : SF h s s := ⟨rfl, fun _ _ _ _ => rfl⟩
theorem SF.tr {h : Nat} {a b c : fm_S} (x : SF h a b) (y : SF h b c) : SF h a c := ⟨y.1.trans x.1, fun b j h1 h2 => (y.2 b j h1 h2).trans (x.2 b j h1 h2)⟩
theorem SF.fx {h : Nat} {s s' : fm_S} (x : SF h s s') (hF : FX s) : FX s' := hF.of (by rw [x.1])
theorem SF.p {h n : Nat} {s : fm_S} {v w : Int32} : SF h s (pI (pI s (h + 6) n v) h 8 w) := ⟨rfl, fun b j h1 h2 => by rw [gI_pI, if_neg h2, gI_pI, if_neg (fun q => h1 q.1)]⟩
theorem SF.q {h : Nat} {s : fm_S} {w : Int32} : SF h s (pI s h 8 w) := ⟨rfl, fun b j h1 h2 => by rw [gI_pI, if_neg h2]⟩
theorem c5_push {g : fm_g} {d h n : Nat} {v : Int32} {s : fm_S} (hF : FX s) (hh : h ∈ hbL) (h8 : gI s h 8 = Int32.ofNat n) (hn : n < 150) : ev g d mX5_push 0 [some (.ref h), some (.int v)] [] s = some (.inl none, pI (pI s (h + 6) n v) h 8 (Int32.ofNat (n + 1))) := by
  obtain ⟨-, -, -, -, -, r⟩ := hR_of hF hh
  obtain ⟨a1, -, -, -, -, -, -, -, -, -, -, a2, a3⟩ := hS_of hh
  have e1 : ¬ h = h + 6 := by omega
  simp (disch := first | exact jm_lt0 | exact jm_lti | exact jm_ltr | exact jm_ltl | exact jm_lti2 | exact jm_ltri | exact jm_ltir | exact jm_ltrr | exact jm_ltl2 | exact jm_ltrl | exact jm_ltlr | omega | assumption | (refine n32_inA (by assumption) ?_ ?_ <;> omega) | exact bi01 | decide) only [sX5_push_0, sX5_push_1, sX5_push_4, sX5_push_7, sX5_push_8, sX5_push_11, sX5_push_12, sX5_push_15, sX5_push_16, sX5_push_19, sX5_push_20, sX5_push_23, sX5_push_24, sX5_push_27, sX5_push_28, sX5_push_29, sX5_push_30, sX5_push_31, sX5_push_34, sX5_push_35, sX5_push_36, kX5_push_39_AI, sX5_push_39, evK_n, evK_v, evK_x, gI_pI, gJ_pI, gR_pI, gI_pJ, gJ_pJ, gR_pJ, gI_pR, gJ_pR, gR_pR, n32_le, n32_lt, n32_add, n32_mul, n32_cl, if_true, if_false, not_true_eq_false, not_false_eq_true, and_true, true_and, and_false, false_and, and_self, or_true, true_or, or_false, false_or, or_self, ne_eq, Decidable.not_not, Nat.reduceEqDiff, Nat.reduceEqDiff, n32_lt0, r, h8, a3, e1]
  rw [if_neg (by omega)]
theorem c5_pop {g : fm_g} {d h n : Nat} {s : fm_S} (hF : FX s) (hh : h ∈ hbL) (h8 : gI s h 8 = Int32.ofNat (n + 1)) (hn : n < 150) : ev g d mX5_pop 0 [some (.ref h)] [] s = some (.inl (some (.int (gI s (h + 6) n))), pI s h 8 (Int32.ofNat n)) := by
  obtain ⟨-, -, -, -, -, r⟩ := hR_of hF hh
  obtain ⟨a1, -, -, -, -, -, -, -, -, -, -, a2, a3⟩ := hS_of hh
  have e1 : ¬ h + 6 = h := by omega
  have e2 : Int32.ofNat (n + 1) - Int32.ofNat 1 = Int32.ofNat n := n32_sub (a := n + 1) (b := 1) (by omega)
  simp (disch := first | exact jm_lt0 | exact jm_lti | exact jm_ltr | exact jm_ltl | exact jm_lti2 | exact jm_ltri | exact jm_ltir | exact jm_ltrr | exact jm_ltl2 | exact jm_ltrl | exact jm_ltlr | omega | assumption | (refine n32_inA (by assumption) ?_ ?_ <;> omega) | exact bi01 | decide) only [sX5_pop_0, sX5_pop_1, sX5_pop_4, sX5_pop_7, sX5_pop_8, sX5_pop_11, sX5_pop_12, sX5_pop_15, sX5_pop_16, kX5_pop_19_A, sX5_pop_19, sX5_pop_20, sX5_pop_21, sX5_pop_22, sX5_pop_23, sX5_pop_26, sX5_pop_27, sX5_pop_28, sX5_pop_31, sX5_pop_32, sX5_pop_35, sX5_pop_36, sX5_pop_39, sX5_pop_40, evK_n, evK_v, evK_x, gI_pI, gJ_pI, gR_pI, gI_pJ, gJ_pJ, gR_pJ, gI_pR, gJ_pR, gR_pR, n32_le, n32_lt, n32_add, n32_mul, n32_cl, if_true, if_false, not_true_eq_false, not_false_eq_true, and_true, true_and, and_false, false_and, and_self, or_true, true_or, or_false, false_or, or_self, ne_eq, Decidable.not_not, Nat.reduceEqDiff, Nat.reduceEqDiff, n32_le0, r, h8, a3, e1, e2]
  rw [if_pos (by omega)]
theorem c5_joined {g : fm_g} {d k : Nat} {a b : Int32} {s : fm_S} (hk : 2 ≤ k ∧ k ≤ 10 ∧ k ≠ 8) : ev g d mX5_joined 0 [some (.int (Int32.ofNat k)), some (.int a), some (.int b)] [] s = some (.inl (some (.int (vB k a b))), s) := by
  have h : k = 2 ∨ k = 3 ∨ k = 4 ∨ k = 5 ∨ k = 6 ∨ k = 7 ∨ k = 9 ∨ k = 10 := by omega
  rcases h with rfl | rfl | rfl | rfl | rfl | rfl | rfl | rfl
  all_goals simp (disch := first | exact jm_lt0 | exact jm_lti | exact jm_ltr | exact jm_ltl | exact jm_lti2 | exact jm_ltri | exact jm_ltir | exact jm_ltrr | exact jm_ltl2 | exact jm_ltrl | exact jm_ltlr | omega | assumption | (refine n32_inA (by assumption) ?_ ?_ <;> omega) | exact bi01 | decide) only [sX5_joined_0, sX5_joined_1, kX5_joined_48_III, sX5_joined_48, sX5_joined_49, sX5_joined_50, sX5_joined_51, kX5_joined_52_III, sX5_joined_52, sX5_joined_53, sX5_joined_54, sX5_joined_55, kX5_joined_56_III, sX5_joined_56, sX5_joined_57, sX5_joined_58, sX5_joined_59, kX5_joined_60_III, sX5_joined_60, sX5_joined_61, sX5_joined_62, sX5_joined_65, sX5_joined_66, kX5_joined_69_NII, sX5_joined_69, kX5_joined_70_NII, sX5_joined_70, kX5_joined_71_III, sX5_joined_71, sX5_joined_72, sX5_joined_73, sX5_joined_76, sX5_joined_77, kX5_joined_80_NII, sX5_joined_80, kX5_joined_81_NII, sX5_joined_81, kX5_joined_82_III, sX5_joined_82, sX5_joined_83, sX5_joined_84, sX5_joined_87, sX5_joined_88, kX5_joined_91_NII, sX5_joined_91, kX5_joined_92_NII, sX5_joined_92, kX5_joined_93_III, sX5_joined_93, sX5_joined_94, sX5_joined_95, sX5_joined_96, kX5_joined_97_III, sX5_joined_97, sX5_joined_98, sX5_joined_99, sX5_joined_100, n32_eq, vB, if_true, if_false, not_true_eq_false, not_false_eq_true, and_true, true_and, and_false, false_and, and_self, or_true, true_or, or_false, false_or, or_self, ne_eq, Decidable.not_not, Nat.reduceEqDiff, Nat.reduceEqDiff, Nat.reduceEqDiff]
  all_goals try simp only [bi]
  · by_cases c : b ≤ a
    · rw [if_pos c, if_neg (by rw [Int32.not_lt]; exact c)]
    · rw [if_neg c, if_pos (by rw [← Int32.not_le]; exact c)]
  · by_cases c : a ≤ b
    · rw [if_pos c, if_neg (by rw [Int32.not_lt]; exact c)]
    · rw [if_neg c, if_pos (by rw [← Int32.not_le]; exact c)]
  · by_cases c : a = b
    · rw [if_neg (fun h => h c), if_pos c]
    · rw [if_pos c, if_neg c]
