/-! how the abstract machine's values, cells, locals and stacks stand for the real ones -/
/-- places keep their addresses -/
def jr_le (ws ws' : va_W) : Prop := ∀ (k : Nat) (w : Nat × va_E), ws[k]? = some w → ∃ w', ws'[k]? = some w' ∧ w'.1 = w.1
def jr_V (b : Nat) (sa : Nat → Nat) (ws : va_W) (v V : Value) : Prop := match v with
  | .ref k => ∃ w, ws[k]? = some w ∧ V = .ref w.1
  | .float x => (x = 0 ∧ V = .ref b) ∨ (x ≠ 0 ∧ (V = .null ∨ ∃ a, V = .ref a))
  | .retAddr x => V = .ref (sa x)
  | .double _ => False
  | v => V = v
def jr_O (ws : va_W) (o O : Option Nat) : Prop := match o with
  | none => O = none
  | some k => ∃ w, ws[k]? = some w ∧ O = some w.1
def jr_A (ws : va_W) (x y : (Nat → Int32) ⊕ (Nat → Int64) ⊕ (Nat → UInt32) ⊕ (Nat → UInt64) ⊕ (Nat → Option Nat)) : Prop := match x with
  | .inr (.inr (.inr (.inr q))) => ∃ q', y = .inr (.inr (.inr (.inr q'))) ∧ ∀ i, jr_O ws (q i) (q' i)
  | z => y = z
def jr_C (b : Nat) (sa : Nat → Nat) (ws : va_W) (tys : List (ClassId × FieldType)) (c : jm_C) (E : va_E) : Prop := match c with
  | .inl o => ∃ Fs : List Value, E = .inr (o.1, Fs) ∧ Fs.length = o.2.length ∧ ∀ (j : Nat) (v : Value), o.2[j]? = some v → ∃ V, Fs[j]? = some V ∧ jr_V b sa ws v V
  | .inr a => ∃ (cA : ClassId) (y : (Nat → Int32) ⊕ (Nat → Int64) ⊕ (Nat → UInt32) ⊕ (Nat → UInt64) ⊕ (Nat → Option Nat)), E = .inl (cA, (a.2.1, y)) ∧ (cA, a.1) ∈ tys ∧ jr_A ws a.2.2 y
def jr_H (b : Nat) (sa : Nat → Nat) (ws : va_W) (tys : List (ClassId × FieldType)) (h : jm_H) : Prop := ws.length = h.1.length ∧ ∀ (k : Nat) (c : jm_C), h.1[k]? = some c → ∃ w, ws[k]? = some w ∧ jr_C b sa ws tys c w.2
def jr_L (b : Nat) (sa : Nat → Nat) (ws : va_W) (L : jm_L) (ls : Array Slot) (n : Nat) : Prop := L.length = n ∧ ls.size = n ∧ lv_wf ls ∧ ∀ (i : Nat) (v : Value), L[i]? = some (some v) → ∃ V, jr_V b sa ws v V ∧ ls[i]? = some (.val V)
def jr_S (b : Nat) (sa : Nat → Nat) (ws : va_W) : List Value → List Value → Prop
  | [], [] => True
  | v :: r, V :: R => jr_V b sa ws v V ∧ jr_S b sa ws r R
  | _, _ => False
theorem jr_le.rf {ws : va_W} : jr_le ws ws := fun k w h => ⟨w, h, rfl⟩
theorem jr_le.tr {a b c : va_W} (h : jr_le a b) (g : jr_le b c) : jr_le a c := fun k w q => by
  obtain ⟨w1, h1, e1⟩ := h k w q
  obtain ⟨w2, h2, e2⟩ := g k w1 h1
  exact ⟨w2, h2, e2.trans e1⟩
theorem jr_le.set {ws : va_W} {q a : Nat} {E E' : va_E} (h : ws[q]? = some (a, E)) : jr_le ws (ws.set q (a, E')) := fun k w hk => by
  by_cases e : q = k
  · subst e
    refine ⟨(a, E'), ?_, ?_⟩
    · rw [List.getElem?_set_self (List.getElem?_eq_some_iff.mp h).1]
    · rw [h] at hk; cases hk; rfl
  · exact ⟨w, by rw [List.getElem?_set_ne e]; exact hk, rfl⟩
theorem jr_le.app {ws : va_W} (l : va_W) : jr_le ws (ws ++ l) := fun k w hk => ⟨w, by rw [List.getElem?_append_left (List.getElem?_eq_some_iff.mp hk).1]; exact hk, rfl⟩
theorem jr_V.mono {b : Nat} {sa : Nat → Nat} {ws ws' : va_W} {v V : Value} (g : jr_le ws ws') (h : jr_V b sa ws v V) : jr_V b sa ws' v V := by
  cases v with
  | ref k =>
    obtain ⟨w, h1, rfl⟩ := h
    obtain ⟨w', h2, e⟩ := g k w h1
    exact ⟨w', h2, by rw [e]⟩
  | _ => exact h
theorem jr_O.mono {ws ws' : va_W} {o O : Option Nat} (g : jr_le ws ws') (h : jr_O ws o O) : jr_O ws' o O := by
  cases o with
  | none => exact h
  | some k =>
    obtain ⟨w, h1, rfl⟩ := h
    obtain ⟨w', h2, e⟩ := g k w h1
    exact ⟨w', h2, by rw [e]⟩
theorem jr_A.mono {ws ws' : va_W} {x y} (g : jr_le ws ws') (h : jr_A ws x y) : jr_A ws' x y := by
  rcases x with x | x | x | x | x
  · exact h
  · exact h
  · exact h
  · exact h
  · obtain ⟨q, h1, h2⟩ := h
    exact ⟨q, h1, fun i => (h2 i).mono g⟩
theorem jr_C.mono {b : Nat} {sa : Nat → Nat} {ws ws' : va_W} {tys tys' : List (ClassId × FieldType)} {c : jm_C} {E : va_E} (g : jr_le ws ws') (gt : ∀ q ∈ tys, q ∈ tys') (h : jr_C b sa ws tys c E) : jr_C b sa ws' tys' c E := by
  cases c with
  | inl o =>
    obtain ⟨Fs, h1, h2, h3⟩ := h
    refine ⟨Fs, h1, h2, fun j v hv => ?_⟩
    obtain ⟨V, h4, h5⟩ := h3 j v hv
    exact ⟨V, h4, h5.mono g⟩
  | inr a =>
    obtain ⟨cA, y, h1, h2, h3⟩ := h
    exact ⟨cA, y, h1, gt _ h2, h3.mono g⟩
theorem jr_L.mono {b : Nat} {sa : Nat → Nat} {ws ws' : va_W} {L : jm_L} {ls : Array Slot} {n : Nat} (g : jr_le ws ws') (h : jr_L b sa ws L ls n) : jr_L b sa ws' L ls n := by
  obtain ⟨h1, h2, h3, h4⟩ := h
  refine ⟨h1, h2, h3, fun i v hv => ?_⟩
  obtain ⟨V, h5, h6⟩ := h4 i v hv
  exact ⟨V, h5.mono g, h6⟩
theorem jr_S.mono {b : Nat} {sa : Nat → Nat} {ws ws' : va_W} (g : jr_le ws ws') : ∀ {st S : List Value}, jr_S b sa ws st S → jr_S b sa ws' st S
  | [], [], _ => trivial
  | _ :: _, _ :: _, ⟨h1, h2⟩ => ⟨h1.mono g, jr_S.mono g h2⟩
  | [], _ :: _, h => h.elim
  | _ :: _, [], h => h.elim
/-- a cell is written -/
theorem jr_H.set {b : Nat} {sa : Nat → Nat} {ws : va_W} {tys : List (ClassId × FieldType)} {h : jm_H} (g : jr_H b sa ws tys h) {q a : Nat} {E E' : va_E} {c' : jm_C} (hq : ws[q]? = some (a, E)) (hc : jr_C b sa ws tys c' E') : jr_H b sa (ws.set q (a, E')) tys (h.1.set q c', h.2) := by
  obtain ⟨g1, g2⟩ := g
  have hl := (List.getElem?_eq_some_iff.mp hq).1
  refine ⟨by simp [g1], fun k c hk => ?_⟩
  have hk : (h.1.set q c')[k]? = some c := hk
  by_cases e : q = k
  · subst e
    rw [List.getElem?_set_self (by rw [← g1]; exact hl)] at hk
    cases hk
    exact ⟨(a, E'), List.getElem?_set_self hl, hc.mono (jr_le.set hq) (fun _ h => h)⟩
  · rw [List.getElem?_set_ne e] at hk
    obtain ⟨w, h1, h2⟩ := g2 k c hk
    exact ⟨w, by rw [List.getElem?_set_ne e]; exact h1, h2.mono (jr_le.set hq) (fun _ h => h)⟩
/-- a cell is made -/
theorem jr_H.push {b : Nat} {sa : Nat → Nat} {ws : va_W} {tys tys' : List (ClassId × FieldType)} {h : jm_H} (g : jr_H b sa ws tys h) {a : Nat} {E : va_E} {c : jm_C} {kk : Nat × Nat} (gt : ∀ q ∈ tys, q ∈ tys') (hc : jr_C b sa (ws ++ [(a, E)]) tys' c E) : jr_H b sa (ws ++ [(a, E)]) tys' (h.1 ++ [c], kk) := by
  obtain ⟨g1, g2⟩ := g
  refine ⟨by simp [g1], fun k c' hk => ?_⟩
  have hk : (h.1 ++ [c])[k]? = some c' := hk
  by_cases e : k < h.1.length
  · rw [List.getElem?_append_left e] at hk
    obtain ⟨w, h1, h2⟩ := g2 k c' hk
    exact ⟨w, by rw [List.getElem?_append_left (by rw [g1]; exact e)]; exact h1, h2.mono (jr_le.app _) gt⟩
  · have hz := (List.getElem?_eq_some_iff.mp hk).1
    simp at hz
    have e2 : k = h.1.length := by omega
    subst e2
    rw [List.getElem?_append_right (Nat.le_refl _)] at hk
    simp at hk
    subst hk
    refine ⟨(a, E), ?_, hc⟩
    rw [List.getElem?_append_right (by rw [g1]; exact Nat.le_refl _), g1]
    simp
theorem jr_L.load {b : Nat} {sa : Nat → Nat} {ws : va_W} {L : jm_L} {ls : Array Slot} {n i : Nat} {v : Value} (h : jr_L b sa ws L ls n) (hv : L[i]? = some (some v)) : ∃ V, jr_V b sa ws v V ∧ ls[i]? = some (.val V) := h.2.2.2 i v hv
/-- the locals as the kit lists them -/
def jr_lv (b : Nat) (ls : Array Slot) : Nat → List (Nat × Value)
  | 0 => []
  | k + 1 => jr_lv b ls k ++ (match ls[k]? with
    | some (.val V) => [(k, V)]
    | _ => [])
theorem jr_lv_mem {b : Nat} {ls : Array Slot} : ∀ (n : Nat) (i : Nat) (V : Value), (i, V) ∈ jr_lv b ls n ↔ i < n ∧ ls[i]? = some (.val V) := by
  intro n
  induction n with
  | zero => intro i V; simp [jr_lv]
  | succ n ih =>
    intro i V
    rw [jr_lv, List.mem_append, ih]
    constructor
    · rintro (⟨h1, h2⟩ | h)
      · exact ⟨by omega, h2⟩
      · cases hn : ls[n]? with
        | none => rw [hn] at h; simp at h
        | some z =>
          rw [hn] at h
          cases z <;> simp at h
          obtain ⟨rfl, rfl⟩ := h
          exact ⟨by omega, hn⟩
    · rintro ⟨h1, h2⟩
      by_cases e : i < n
      · exact Or.inl ⟨e, h2⟩
      · have e2 : i = n := by omega
        subst e2
        right
        rw [h2]
        simp
theorem jr_lv_has {ls : Array Slot} {n : Nat} (h1 : ls.size = n) (h2 : lv_wf ls) : lv_has ls n (jr_lv 0 ls n) := ⟨h1, h2, fun q hq => ((jr_lv_mem n q.1 q.2).mp hq).2⟩
theorem jr_cat {b : Nat} {sa : Nat → Nat} {ws : va_W} {v V : Value} (h : jr_V b sa ws v V) (hv : jm_c1 v = false) : V.category = 2 := by
  cases v <;> simp [jm_c1] at hv
  cases (show V = _ from h); rfl
theorem jr_cat1 {b : Nat} {sa : Nat → Nat} {ws : va_W} {v V : Value} (h : jr_V b sa ws v V) (hv : jm_c1 v = true) : V.category = 1 := by
  cases v with
  | ref k => obtain ⟨w, -, rfl⟩ := h; rfl
  | float x => rcases h with ⟨-, rfl⟩ | ⟨-, rfl | ⟨a, rfl⟩⟩ <;> rfl
  | double x => exact h.elim
  | long x => simp [jm_c1] at hv
  | int x => cases (show V = _ from h); rfl
  | null => cases (show V = _ from h); rfl
  | retAddr x => cases (show V = _ from h); rfl
theorem jr_w {b : Nat} {sa : Nat → Nat} {ws : va_W} {v V : Value} (h : jr_V b sa ws v V) : V.category = jm_w v := by
  cases v with
  | long x => exact jr_cat h rfl
  | ref k => exact jr_cat1 h rfl
  | float x => exact jr_cat1 h rfl
  | double x => exact jr_cat1 h rfl
  | int x => exact jr_cat1 h rfl
  | null => exact jr_cat1 h rfl
  | retAddr x => exact jr_cat1 h rfl
theorem jr_ref {b : Nat} {sa : Nat → Nat} {ws : va_W} {v V : Value} (h : jr_V b sa ws v V) (hv : jm_isA v = true) : V = .null ∨ ∃ a, V = .ref a := by
  cases v <;> simp [jm_isA] at hv
  · rcases h with ⟨-, rfl⟩ | ⟨-, rfl | ⟨a, rfl⟩⟩
    · exact Or.inr ⟨_, rfl⟩
    · exact Or.inl rfl
    · exact Or.inr ⟨_, rfl⟩
  · exact Or.inl h
  · obtain ⟨w, -, rfl⟩ := h; exact Or.inr ⟨_, rfl⟩
  · exact Or.inr ⟨_, h⟩
theorem jr_kill_len (L : jm_L) (i : Nat) : (jm_kill L i).length = L.length := by
  cases i with
  | zero => rfl
  | succ k =>
    simp only [jm_kill]
    split <;> simp
theorem jr_kill_at {L : jm_L} {i j : Nat} {u : Value} (h : (jm_kill L i)[j]? = some (some u)) : L[j]? = some (some u) ∧ (j + 1 = i → jm_c1 u = true) := by
  cases i with
  | zero => exact ⟨h, fun e => absurd e (Nat.succ_ne_zero j)⟩
  | succ k =>
    simp only [jm_kill] at h
    split at h
    next x hk =>
      by_cases e : k = j
      · subst e
        rw [List.getElem?_set_self (List.getElem?_eq_some_iff.mp hk).1] at h
        cases h
      · rw [List.getElem?_set_ne e] at h
        exact ⟨h, fun e2 => absurd (by omega) e⟩
    next hk =>
      refine ⟨h, fun e => ?_⟩
      have e2 : j = k := by omega
      subst e2
      cases u <;> first | rfl | exact absurd h (hk _)
theorem jr_st1 {b : Nat} {sa : Nat → Nat} {ws : va_W} {L L' : jm_L} {ls ls' : Array Slot} {n i : Nat} {v V : Value} (h : jr_L b sa ws L ls n) (e : jm_st1 L i v = some L') (hv : jr_V b sa ws v V)
    (h' : lv_has ls' n ((i, V) :: (jr_lv 0 ls n).filter (fun q => !(q.1 == i) && !(q.1 + 1 == i && q.2.category == 2)))) : jr_L b sa ws L' ls' n := by
  obtain ⟨h1, h2, h3, h4⟩ := h
  unfold jm_st1 at e
  split at e
  case isFalse => cases e
  case isTrue hi =>
  cases e
  refine ⟨by simp [jr_kill_len, h1], h'.1, h'.2.1, fun j u hu => ?_⟩
  by_cases ej : i = j
  · subst ej
    rw [List.getElem?_set_self (by rw [jr_kill_len]; exact hi)] at hu
    cases hu
    exact ⟨V, hv, h'.2.2 (i, V) List.mem_cons_self⟩
  · rw [List.getElem?_set_ne ej] at hu
    obtain ⟨g1, g2⟩ := jr_kill_at hu
    obtain ⟨U, g3, g4⟩ := h4 j u g1
    refine ⟨U, g3, h'.2.2 (j, U) (List.mem_cons_of_mem _ (List.mem_filter.mpr ⟨(jr_lv_mem n j U).mpr ⟨by rw [← h2]; exact (Array.getElem?_eq_some_iff.mp g4).1, g4⟩, ?_⟩))⟩
    have e1 : (j == i) = false := by simp; exact fun q => ej q.symm
    by_cases e2 : j + 1 = i
    · have e3 := jr_cat1 g3 (g2 e2)
      simp [e1, e3]
    · simp [e1, e2]
theorem jr_st2 {b : Nat} {sa : Nat → Nat} {ws : va_W} {L L' : jm_L} {ls ls' : Array Slot} {n i : Nat} {v V : Value} (h : jr_L b sa ws L ls n) (e : jm_st2 L i v = some L') (hv : jr_V b sa ws v V)
    (h' : lv_has ls' n ((i, V) :: (jr_lv 0 ls n).filter (fun q => !(q.1 == i) && (!(q.1 == i + 1) && !(q.1 + 1 == i && q.2.category == 2))))) : jr_L b sa ws L' ls' n := by
  obtain ⟨h1, h2, h3, h4⟩ := h
  unfold jm_st2 at e
  split at e
  case isFalse => cases e
  case isTrue hi =>
  cases e
  refine ⟨by simp [jr_kill_len, h1], h'.1, h'.2.1, fun j u hu => ?_⟩
  by_cases e0 : i + 1 = j
  · subst e0
    rw [List.getElem?_set_self (by simp [jr_kill_len]; exact hi)] at hu
    cases hu
  rw [List.getElem?_set_ne e0] at hu
  by_cases ej : i = j
  · subst ej
    rw [List.getElem?_set_self (by rw [jr_kill_len]; omega)] at hu
    cases hu
    exact ⟨V, hv, h'.2.2 (i, V) List.mem_cons_self⟩
  · rw [List.getElem?_set_ne ej] at hu
    obtain ⟨g1, g2⟩ := jr_kill_at hu
    obtain ⟨U, g3, g4⟩ := h4 j u g1
    refine ⟨U, g3, h'.2.2 (j, U) (List.mem_cons_of_mem _ (List.mem_filter.mpr ⟨(jr_lv_mem n j U).mpr ⟨by rw [← h2]; exact (Array.getElem?_eq_some_iff.mp g4).1, g4⟩, ?_⟩))⟩
    have e1 : (j == i) = false := by simp; exact fun q => ej q.symm
    have e4 : (j == i + 1) = false := by simp; exact fun q => e0 q.symm
    by_cases e2 : j + 1 = i
    · have e3 := jr_cat1 g3 (g2 e2)
      simp [e1, e4, e3]
    · simp [e1, e4, e2]
theorem jr_mask {b : Nat} {sa : Nat → Nat} {ws : va_W} : ∀ {bs : List Bool} {L : jm_L} {i : Nat} {v : Value}, (jm_mask bs L)[i]? = some (some v) → L[i]? = some (some v)
  | [], L, i, v, h => by simp [jm_mask] at h
  | _ :: _, [], i, v, h => by simp [jm_mask] at h
  | m :: bs, u :: L, 0, v, h => by
    simp [jm_mask] at h
    simp [h.2]
  | m :: bs, u :: L, i + 1, v, h => by
    simp [jm_mask] at h ⊢
    exact jr_mask (b := b) (sa := sa) (ws := ws) h
theorem jr_mask_len : ∀ {bs : List Bool} {L : jm_L}, bs.length = L.length → (jm_mask bs L).length = L.length
  | [], [], _ => rfl
  | _ :: _, [], h => by simp at h
  | [], _ :: _, h => by simp at h
  | m :: bs, u :: L, h => by simp [jm_mask]; exact jr_mask_len (by simpa using h)
theorem jr_L.masked {b : Nat} {sa : Nat → Nat} {ws : va_W} {L : jm_L} {ls : Array Slot} {n : Nat} {bs : List Bool} (h : jr_L b sa ws L ls n) (hm : bs.length = n) : jr_L b sa ws (jm_mask bs L) ls n := by
  obtain ⟨h1, h2, h3, h4⟩ := h
  exact ⟨by rw [jr_mask_len (by rw [hm, h1])]; exact h1, h2, h3, fun i v hv => h4 i v (jr_mask (b := b) (sa := sa) (ws := ws) hv)⟩
