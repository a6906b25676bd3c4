/-! sums over lists and ranges; parts that are spread -/
def sumL {α : Type} (f : α → Nat) : List α → Nat
  | [] => 0
  | a :: l => f a + sumL f l
theorem sumL_append {α : Type} {f : α → Nat} : ∀ (l m : List α), sumL f (l ++ m) = sumL f l + sumL f m
  | [], m => by simp [sumL]
  | a :: l, m => by simp only [List.cons_append, sumL, sumL_append l m]; omega
theorem sumL_congr {α : Type} {f h : α → Nat} : ∀ {l : List α}, (∀ a ∈ l, f a = h a) → sumL f l = sumL h l
  | [], _ => rfl
  | a :: l, e => by rw [sumL, sumL, e a List.mem_cons_self, sumL_congr (fun b hb => e b (List.mem_cons_of_mem _ hb))]
theorem sumL_le {α : Type} {f h : α → Nat} : ∀ {l : List α}, (∀ a ∈ l, f a ≤ h a) → sumL f l ≤ sumL h l
  | [], _ => Nat.le_refl _
  | a :: l, e => by rw [sumL, sumL]; exact Nat.add_le_add (e a List.mem_cons_self) (sumL_le (fun b hb => e b (List.mem_cons_of_mem _ hb)))
theorem sumL_zero {α : Type} {f : α → Nat} : ∀ {l : List α}, (∀ a ∈ l, f a = 0) → sumL f l = 0
  | [], _ => rfl
  | a :: l, e => by rw [sumL, e a List.mem_cons_self, sumL_zero (fun b hb => e b (List.mem_cons_of_mem _ hb))]
theorem sumL_map {α β : Type} {f : β → Nat} {h : α → β} : ∀ (l : List α), sumL f (l.map h) = sumL (fun a => f (h a)) l
  | [] => rfl
  | a :: l => by simp only [List.map_cons, sumL, sumL_map l]
theorem sumL_take {α : Type} {f : α → Nat} {l : List α} {i : Nat} (h : i < l.length) : sumL f (l.take (i + 1)) = sumL f (l.take i) + f l[i] := by
  rw [List.take_add_one, sumL_append, List.getElem?_eq_getElem h]
  simp [sumL]
theorem sumL_take_le {α : Type} {f : α → Nat} : ∀ {l : List α} {i : Nat}, sumL f (l.take i) ≤ sumL f l
  | [], i => by simp [sumL]
  | a :: l, 0 => by simp [sumL]
  | a :: l, i + 1 => by
    rw [List.take_succ_cons, sumL, sumL]
    exact Nat.add_le_add_left sumL_take_le _
def sumN (f : Nat → Nat) : Nat → Nat
  | 0 => 0
  | n + 1 => sumN f n + f n
theorem sumN_congr {f h : Nat → Nat} : ∀ {n : Nat}, (∀ k, k < n → f k = h k) → sumN f n = sumN h n
  | 0, _ => rfl
  | n + 1, e => by rw [sumN, sumN, sumN_congr (fun k hk => e k (by omega)), e n (by omega)]
theorem sumN_le {f h : Nat → Nat} : ∀ {n : Nat}, (∀ k, k < n → f k ≤ h k) → sumN f n ≤ sumN h n
  | 0, _ => Nat.le_refl _
  | n + 1, e => by rw [sumN, sumN]; exact Nat.add_le_add (sumN_le (fun k hk => e k (by omega))) (e n (by omega))
theorem sumN_zero {f : Nat → Nat} : ∀ {n : Nat}, (∀ k, k < n → f k = 0) → sumN f n = 0
  | 0, _ => rfl
  | n + 1, e => by rw [sumN, sumN_zero (fun k hk => e k (by omega)), e n (by omega)]
theorem sumN_add {f h : Nat → Nat} : ∀ {n : Nat}, sumN (fun k => f k + h k) n = sumN f n + sumN h n
  | 0 => rfl
  | n + 1 => by rw [sumN, sumN, sumN, sumN_add]; omega
theorem sumN_mul {f : Nat → Nat} {c : Nat} : ∀ {n : Nat}, sumN (fun k => c * f k) n = c * sumN f n
  | 0 => rfl
  | n + 1 => by rw [sumN, sumN, sumN_mul, Nat.mul_add]
theorem sumN_at {f : Nat → Nat} {a : Nat} : ∀ {n : Nat}, a < n → sumN (fun k => if k = a then f k else 0) n = f a
  | 0, h => absurd h (Nat.not_lt_zero _)
  | n + 1, h => by
    rw [sumN]
    by_cases e : n = a
    · subst e
      rw [sumN_zero (fun k hk => if_neg (by omega)), if_pos rfl, Nat.zero_add]
    · rw [sumN_at (by omega), if_neg e, Nat.add_zero]
theorem sumN_one_le {f : Nat → Nat} {a n : Nat} (h : a < n) : f a ≤ sumN f n := by
  rw [← sumN_at (f := f) h]
  exact sumN_le (fun k _ => by split <;> omega)
theorem sumN_swap {f : Nat → Nat → Nat} {m : Nat} : ∀ {n : Nat}, sumN (fun a => sumN (fun b => f a b) m) n = sumN (fun b => sumN (fun a => f a b) n) m
  | 0 => by
    rw [sumN]
    exact (sumN_zero (fun _ _ => rfl)).symm
  | n + 1 => by
    rw [sumN, sumN_swap]
    simp only [sumN]
    rw [sumN_add]
theorem sumN_mem {f : Nat → Nat} {n : Nat} : ∀ {l : List Nat}, l.Nodup → (∀ k ∈ l, k < n) → sumN (fun k => if k ∈ l then f k else 0) n = sumL f l
  | [], _, _ => sumN_zero (fun k _ => by simp)
  | a :: l, hn, hl => by
    obtain ⟨h1, h2⟩ := List.nodup_cons.mp hn
    rw [sumL, ← sumN_mem h2 (fun k hk => hl k (List.mem_cons_of_mem _ hk)), ← sumN_at (f := f) (hl a List.mem_cons_self), ← sumN_add]
    refine sumN_congr (fun k _ => ?_)
    by_cases e : k = a
    · subst e
      simp [h1]
    · simp [e]
/-- a list without doubles that has all that counts -/
theorem sumL_all {f : Nat → Nat} {n : Nat} {l : List Nat} (h1 : l.Nodup) (h2 : ∀ k ∈ l, k < n) (h3 : ∀ k, k < n → k ∉ l → f k = 0) : sumL f l = sumN f n := by
  rw [← sumN_mem (f := f) h1 h2]
  refine sumN_congr (fun k hk => ?_)
  by_cases e : k ∈ l
  · rw [if_pos e]
  · rw [if_neg e, h3 k hk e]
/-- what comes to the state τ -/
def tal (acc : List (Nat × Nat)) (τ : Nat) : Nat := sumL (fun a => if a.1 = τ then a.2 else 0) acc
def amt (acc : List (Nat × Nat)) : Nat := sumL (fun a => a.2) acc
theorem tal_le {acc : List (Nat × Nat)} {τ : Nat} : tal acc τ ≤ amt acc := sumL_le (fun a _ => by split <;> omega)
theorem tal_sum {n : Nat} : ∀ {acc : List (Nat × Nat)}, (∀ a ∈ acc, a.2 = 0 ∨ a.1 < n) → sumN (tal acc) n = amt acc
  | [], _ => sumN_zero (fun _ _ => rfl)
  | (a, m) :: l, h => by
    have e : tal ((a, m) :: l) = fun k => (if k = a then (fun _ => m) k else 0) + tal l k := by
      funext k
      unfold tal
      rw [sumL]
      by_cases c : a = k
      · subst c; simp
      · rw [if_neg c, if_neg (fun h => c h.symm)]
    rw [e, sumN_add, tal_sum (fun b hb => h b (List.mem_cons_of_mem _ hb))]
    show _ = m + amt l
    congr 1
    rcases h (a, m) List.mem_cons_self with h0 | h0
    · have h0' : m = 0 := h0
      subst h0'
      exact sumN_zero (fun k _ => by simp)
    · exact sumN_at (f := fun _ => m) h0
/-- the states: their numbers, 9,100 of them -/
abbrev NS : Nat := 9100
/-- all parts go where con says -/
def pas (con : Nat → Nat → List (Nat × Nat)) (D : Nat → Nat) : Nat → Nat := fun τ => sumN (fun k => tal (con k (D k)) τ) NS
/-- con gives as many parts as come in, to states that are -/
def conOK (con : Nat → Nat → List (Nat × Nat)) (P : Nat → Prop) : Prop := ∀ k p, k < NS → P k → amt (con k p) = p ∧ ∀ a ∈ con k p, a.2 = 0 ∨ a.1 < NS
theorem pas_sum {con : Nat → Nat → List (Nat × Nat)} {P : Nat → Prop} {D : Nat → Nat} (h : conOK con P) (hP : ∀ k, k < NS → D k ≠ 0 → P k) (h0 : ∀ k, k < NS → amt (con k 0) = 0) : sumN (pas con D) NS = sumN D NS := by
  unfold pas
  rw [sumN_swap]
  refine sumN_congr (fun k hk => ?_)
  by_cases e : D k = 0
  · rw [e]
    exact sumN_zero (fun b _ => Nat.le_zero.mp (Nat.le_trans tal_le (Nat.le_of_eq (h0 k hk))))
  · obtain ⟨h1, h2⟩ := h k (D k) hk (hP k hk e)
    rw [tal_sum h2, h1]
theorem tal_nil {τ : Nat} : tal [] τ = 0 := rfl
theorem tal_cons {a m τ : Nat} {l : List (Nat × Nat)} : tal ((a, m) :: l) τ = (if a = τ then m else 0) + tal l τ := rfl
/-- one takes so many parts more -/
def updD (D : Nat → Nat) (k m : Nat) : Nat → Nat := fun τ => if τ = k then D τ + m else D τ
theorem updD_0 {D : Nat → Nat} {k : Nat} : updD D k 0 = D := by
  funext τ
  unfold updD
  split <;> rfl
theorem updD_tal {D : Nat → Nat} {acc : List (Nat × Nat)} {k m : Nat} : updD (fun τ => D τ + tal acc τ) k m = fun τ => D τ + tal (acc ++ [(k, m)]) τ := by
  funext τ
  unfold updD tal
  rw [sumL_append]
  simp only [sumL]
  by_cases c : τ = k
  · rw [if_pos c, if_pos c.symm]; omega
  · rw [if_neg c, if_neg (fun h => c h.symm)]; rfl
/-- by one map of states -/
def mapD (f : Nat → Nat) : (Nat → Nat) → Nat → Nat := pas (fun k p => [(f k, p)])
theorem mapD_eq {f : Nat → Nat} {D : Nat → Nat} {τ : Nat} : mapD f D τ = sumN (fun k => if f k = τ then D k else 0) NS := by
  unfold mapD pas
  exact sumN_congr (fun k _ => by rw [tal_cons, tal_nil, Nat.add_zero])
/-- sums behind a map -/
theorem mapD_sum {f h : Nat → Nat} {D : Nat → Nat} (hf : ∀ k, k < NS → D k ≠ 0 → f k < NS) : sumN (fun τ => h τ * mapD f D τ) NS = sumN (fun k => h (f k) * D k) NS := by
  have e : ∀ τ, τ < NS → h τ * mapD f D τ = sumN (fun k => if f k = τ then h τ * D k else 0) NS := fun τ _ => by
    rw [mapD_eq, ← sumN_mul]
    exact sumN_congr (fun k _ => by split <;> simp)
  rw [sumN_congr e, sumN_swap]
  refine sumN_congr (fun k hk => ?_)
  by_cases c : D k = 0
  · rw [c]
    exact sumN_zero (fun b _ => by split <;> simp)
  · rw [sumN_congr (h := fun τ => if τ = f k then h τ * D k else 0) (fun τ _ => by
      by_cases c2 : f k = τ
      · rw [if_pos c2, if_pos c2.symm]
      · rw [if_neg c2, if_neg (fun h => c2 h.symm)])]
    exact sumN_at (f := fun τ => h τ * D k) (hf k hk c)
theorem mapD_mapD {f h : Nat → Nat} {D : Nat → Nat} (hf : ∀ k, k < NS → D k ≠ 0 → f k < NS) : mapD h (mapD f D) = mapD (fun k => h (f k)) D := by
  funext τ
  rw [mapD_eq, mapD_eq]
  have := mapD_sum (f := f) (h := fun k => if h k = τ then 1 else 0) (D := D) hf
  rw [sumN_congr (h := fun k => (if h k = τ then 1 else 0) * mapD f D k) (fun k _ => by split <;> simp), this]
  exact sumN_congr (fun k _ => by split <;> simp)
theorem mapD_id {f : Nat → Nat} {D : Nat → Nat} (h : ∀ k, k < NS → D k ≠ 0 → f k = k) (hs : ∀ k, NS ≤ k → D k = 0) : mapD f D = D := by
  funext τ
  rw [mapD_eq, sumN_congr (h := fun k => if k = τ then D k else 0) (fun k hk => by
    by_cases c : D k = 0
    · rw [c]; split <;> split <;> rfl
    · rw [h k hk c])]
  by_cases c : τ < NS
  · exact sumN_at c
  · rw [sumN_zero (fun k hk => if_neg (by omega)), hs τ (by omega)]
