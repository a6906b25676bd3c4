/-! a way of all parts: what is common -/
abbrev ONE : Nat := 1099511627776
def HSK (b j : Nat) : Prop := (b = 60 ∨ b = 71 ∨ b = 78 ∨ b = 85 ∨ b = 92 ∨ b = 99 ∨ b = 106) ∨ (j = 8 ∧ (b = 54 ∨ b = 65 ∨ b = 72 ∨ b = 79 ∨ b = 86 ∨ b = 93 ∨ b = 100))
def pO (b j : Nat) : Prop := (b = 310 ∧ j < 5) ∨ b = 311 ∨ b = 313 ∨ b = 316 ∨ b = 317 ∨ b = 319 ∨ b = 320 ∨ HSK b j
def qO (b j : Nat) : Prop := b = 314 ∨ b = 318 ∨ b = 321 ∨ (b = 307 ∧ (j = 6 ∨ j = 7))
def rsw (b j : Nat) : Prop := b = 307 ∧ (j = 8 ∨ j = 9)
theorem pO_TC {b j : Nat} (h : pO b j) : TC b j := by unfold pO HSK at h; unfold TC; omega
def RM (P Q R : Nat → Nat → Prop) (s s' : fm_S) : Prop := s'.2.2.2 = s.2.2.2 ∧ (∀ b j, ¬ P b j → gI s' b j = gI s b j) ∧ (∀ b j, ¬ Q b j → gJ s' b j = gJ s b j) ∧ ∀ b j, ¬ R b j → gR s' b j = gR s b j
theorem RM.rf {P Q R : Nat → Nat → Prop} {s : fm_S} : RM P Q R s s := ⟨rfl, fun _ _ _ => rfl, fun _ _ _ => rfl, fun _ _ _ => rfl⟩
theorem RM.tr {P Q R : Nat → Nat → Prop} {a b c : fm_S} (x : RM P Q R a b) (y : RM P Q R b c) : RM P Q R a c := ⟨y.1.trans x.1, fun b j h => (y.2.1 b j h).trans (x.2.1 b j h), fun b j h => (y.2.2.1 b j h).trans (x.2.2.1 b j h), fun b j h => (y.2.2.2 b j h).trans (x.2.2.2 b j h)⟩
theorem RM.mono {P Q R P' Q' R' : Nat → Nat → Prop} {s s' : fm_S} (x : RM P Q R s s') (hP : ∀ b j, P b j → P' b j) (hQ : ∀ b j, Q b j → Q' b j) (hR : ∀ b j, R b j → R' b j) : RM P' Q' R' s s' := ⟨x.1, fun b j h => x.2.1 b j (fun q => h (hP b j q)), fun b j h => x.2.2.1 b j (fun q => h (hQ b j q)), fun b j h => x.2.2.2 b j (fun q => h (hR b j q))⟩
theorem FM.rm {P Q R : Nat → Nat → Prop} {s s' : fm_S} (x : FM P Q s s') : RM P Q R s s' := ⟨by rw [x.1], x.2.1, x.2.2, fun b j _ => x.gR b j⟩
theorem RM.sw {P Q : Nat → Nat → Prop} {s : fm_S} {j v : Nat} (hj : j = 8 ∨ j = 9) : RM P Q rsw s (pR s 307 j v) := ⟨rfl, fun _ _ _ => rfl, fun _ _ _ => rfl, fun b i h => by rw [pR_gR, if_neg (fun e => h ⟨e.1, by omega⟩)]⟩
theorem RM.fx {P Q R : Nat → Nat → Prop} {s s' : fm_S} (x : RM P Q R s s') (hF : FX s) (hR : ∀ b j, R b j → rsw b j ∨ b = 315) : FX s' := fun q hq => by
  rw [x.2.2.2 q.1 q.2.1 (fun h => by
    rcases hR _ _ h with h1 | h1
    · exact (FXx q hq).1 h1
    · exact (FXx q hq).2 h1)]
  exact hF q hq
theorem RM.fxs {P Q : Nat → Nat → Prop} {s s' : fm_S} (x : RM P Q rsw s s') (hF : FX s) : FX s' := x.fx hF (fun _ _ h => Or.inl h)
theorem HE.of {s s' : fm_S} {w : WD} {v : Nat} (h : HE s 310 w v) (e : ∀ b j, ¬ pO b j → gI s' b j = gI s b j) : HE s' 310 w v := by
  obtain ⟨h1, h2, h3, h4, h5, h6⟩ := h
  refine ⟨?_, ?_, ?_, ?_, ?_, fun x hx => ?_⟩
  · rw [e _ _ (by unfold pO HSK; omega), h1]
  · rw [e _ _ (by unfold pO HSK; omega), h2]
  · rw [e _ _ (by unfold pO HSK; omega), h3]
  · rw [e _ _ (by unfold pO HSK; omega), h4]
  · rw [e _ _ (by unfold pO HSK; omega), h5]
  · rw [e _ _ (by unfold pO HSK; omega), h6 x hx]
theorem TB.ofO {s s' : fm_S} (h : TB s) (e : ∀ b j, ¬ pO b j → gI s' b j = gI s b j) : TB s' := h.of (fun j => ⟨e _ _ (by unfold pO HSK; omega), e _ _ (by unfold pO HSK; omega)⟩)
/-- what has come by the states ahead of the place i -/
def prt (con : Nat → Nat → List (Nat × Nat)) (D : Nat → Nat) (l : List Nat) (i : Nat) : Nat → Nat := fun τ => sumL (fun k => tal (con k (D k)) τ) (l.take i)
def addF (F : Nat → Nat) (acc : List (Nat × Nat)) : Nat → Nat := fun τ => F τ + tal acc τ
theorem addF_nil {F : Nat → Nat} : addF F [] = F := by funext τ; simp [addF, tal_nil]
theorem addF_upd {F : Nat → Nat} {acc : List (Nat × Nat)} {k m : Nat} : updD (addF F acc) k m = addF F (acc ++ [(k, m)]) := updD_tal
theorem upd_1 {F : Nat → Nat} {k m : Nat} : updD F k m = addF F [(k, m)] := by
  have h := addF_upd (F := F) (acc := []) (k := k) (m := m)
  rw [addF_nil] at h
  exact h
theorem prt_succ {con : Nat → Nat → List (Nat × Nat)} {D : Nat → Nat} {l : List Nat} {i k : Nat} (h : l[i]? = some k) : prt con D l (i + 1) = addF (prt con D l i) (con k (D k)) := by
  funext τ
  obtain ⟨h1, h2⟩ := List.getElem?_eq_some_iff.mp h
  unfold prt addF
  rw [sumL_take h1, h2]
theorem prt_0 {con : Nat → Nat → List (Nat × Nat)} {D : Nat → Nat} {l : List Nat} : prt con D l 0 = fun _ => 0 := by
  funext τ
  simp [prt, sumL]
theorem prt_le {con : Nat → Nat → List (Nat × Nat)} {D : Nat → Nat} {l : List Nat} {i τ : Nat} (h1 : l.Nodup) (h2 : ∀ k ∈ l, k < NS) (hc : ∀ k, k < NS → amt (con k (D k)) ≤ D k) : prt con D l i τ ≤ sumN D NS := by
  have e1 : prt con D l i τ ≤ sumL (fun k => tal (con k (D k)) τ) l := sumL_take_le
  have e2 : sumL (fun k => tal (con k (D k)) τ) l ≤ sumL D l := sumL_le (fun k hk => Nat.le_trans tal_le (hc k (h2 k hk)))
  have e3 : sumL D l ≤ sumN D NS := by
    rw [← sumN_mem h1 h2]
    exact sumN_le (fun k _ => by split <;> omega)
  omega
theorem prt_end {con : Nat → Nat → List (Nat × Nat)} {D : Nat → Nat} {l : List Nat} (h1 : l.Nodup) (h2 : ∀ k ∈ l, k < NS) (h3 : ∀ k, k < NS → (k ∈ l ↔ D k ≠ 0)) (hc : ∀ k, k < NS → amt (con k 0) = 0) : prt con D l l.length = pas con D := by
  funext τ
  unfold prt pas
  rw [List.take_length]
  refine sumL_all h1 h2 (fun k hk hn => ?_)
  have : D k = 0 := by
    rcases Nat.eq_zero_or_pos (D k) with h0 | h0
    · exact h0
    · exact absurd ((h3 k hk).mpr (by omega)) hn
  rw [this]
  exact Nat.le_zero.mp (Nat.le_trans tal_le (Nat.le_of_eq (hc k hk)))
/-- between two ways -/
def OS (s : fm_S) (D : Nat → Nat) : Prop := ∃ A A' l, OD s A A' ∧ CL s A l D ∧ CL s A' [] (fun _ => 0)
/-- in the midst of one -/
def PS (s0 s : fm_S) (A A' : Nat) (l : List Nat) (D F : Nat → Nat) : Prop := FM pO qO s0 s ∧ CL s A l D ∧ ∃ l', CL s A' l' F
section PSs
variable {s0 s : fm_S} {A A' : Nat} {l : List Nat} {D F : Nat → Nat}
theorem od_A (hO : OD s0 A A') : (A = 316 ∨ A = 319) ∧ (A' = 316 ∨ A' = 319) ∧ A ≠ A' := ⟨by simpa [clL] using hO.2.2.1, by simpa [clL] using hO.2.2.2.1, hO.2.2.2.2⟩
theorem PS.load {g : fm_g} {d i k : Nat} (h : PS s0 s A A' l D F) (hF : FX s0) (hO : OD s0 A A') (hB : TB s0) (hi : l[i]? = some k) : ∃ s', ev g (d + 2) mX7_load 0 [some (.ref (307 : Nat)), some (.int (Int32.ofNat i)), none, none, none] [] s = some (.inl (some (.long (Int64.ofNat (D k)))), s') ∧ PS s0 s' A A' l D F ∧ HN s' 310 k ∧ FM pH (fun _ _ => False) s s' := by
  obtain ⟨h1, h2, l', h3⟩ := h
  obtain ⟨a1, a2, a3⟩ := od_A hO
  obtain ⟨s', f1, f2, f3⟩ := c7_load (g := g) (d := d) (h1.fx hF) (hO.fm h1) (hB.ofO h1.2.1) h2 hi
  refine ⟨s', f1, ⟨h1.tr (f2.mono (fun b j q => by unfold pH at q; unfold pO; omega) (fun _ _ q => q.elim)), ?_, l', ?_⟩, f3, f2⟩
  · exact h2.of (f2.2.1 _ _ (by unfold pH; omega)) (fun j => f2.2.1 _ _ (by unfold pH; omega)) (fun j => f2.2.2 _ _ (fun q => q))
  · exact h3.of (f2.2.1 _ _ (by unfold pH; omega)) (fun j => f2.2.1 _ _ (by unfold pH; omega)) (fun j => f2.2.2 _ _ (fun q => q))
theorem PS.add {g : fm_g} {d k m : Nat} (h : PS s0 s A A' l D F) (hF : FX s0) (hO : OD s0 A A') (hk : k < NS) (hm : F k + m < BIG) : ∃ s', ev g d mX1_add 0 [some (.ref A'), some (.int (Int32.ofNat k)), some (.long (Int64.ofNat m)), none] [] s = some (.inl none, s') ∧ PS s0 s' A A' l D (updD F k m) ∧ FM (pC A') (qC A') s s' := by
  obtain ⟨h1, h2, l', h3⟩ := h
  obtain ⟨a1, a2, a3⟩ := od_A hO
  obtain ⟨s', l'', f1, f2, f3⟩ := c1_add (g := g) (d := d) (h1.fx hF) hO.2.2.2.1 h3 hk hm
  refine ⟨s', f1, ⟨h1.tr (f2.mono (fun b j q => by unfold pC at q; unfold pO; omega) (fun b j q => by unfold qC at q; unfold qO; omega)), ?_, l'', f3⟩, f2⟩
  exact h2.of (f2.2.1 _ _ (by unfold pC; omega)) (fun j => f2.2.1 _ _ (by unfold pC; omega)) (fun j => f2.2.2 _ _ (by unfold qC; omega))
theorem PS.hand (h : PS s0 s A A' l D F) (hO : OD s0 A A') {j : Nat} {v : Int32} (hj : j < 5) : PS s0 (pI s 310 j v) A A' l D F := by
  obtain ⟨h1, h2, l', h3⟩ := h
  obtain ⟨a1, a2, a3⟩ := od_A hO
  refine ⟨h1.tr (FM.pI (Or.inl ⟨rfl, hj⟩)), h2.of ?_ (fun i => ?_) (fun i => ?_), l', h3.of ?_ (fun i => ?_) (fun i => ?_)⟩
  · rw [gI_pI, if_neg (by omega)]
  · rw [gI_pI, if_neg (by omega)]
  · rw [gJ_pI]
  · rw [gI_pI, if_neg (by omega)]
  · rw [gI_pI, if_neg (by omega)]
  · rw [gJ_pI]
theorem PS.refs (h : PS s0 s A A' l D F) (hF : FX s0) (hO : OD s0 A A') : FX s ∧ gR s 307 8 = A ∧ gR s 307 9 = A' ∧ gR s 307 2 = 310 ∧ gI s A 0 = Int32.ofNat l.length := by
  obtain ⟨h1, h2, -⟩ := h
  exact ⟨h1.fx hF, by rw [h1.gR, hO.1], by rw [h1.gR, hO.2.1], (h1.fx hF).u 307 2 310 (by decide +kernel), h2.1⟩
theorem PS.state {g : fm_g} {d i k : Nat} (h : PS s0 s A A' l D F) (hF : FX s0) (hO : OD s0 A A') (hi : l[i]? = some k) : ev g d mX1_stateAt 0 [some (.ref A), some (.int (Int32.ofNat i))] [] s = some (.inl (some (.int (Int32.ofNat k))), s) := c1_stateAt (h.1.fx hF) hO.2.2.1 h.2.1 hi
/-- the end of a way: the clouds are exchanged -/
theorem PS.goOn {g : fm_g} {d : Nat} (h : PS s0 s A A' l D F) (hF : FX s0) (hO : OD s0 A A') : ∃ s', ev g (d + 1) mX7_goOn 0 [some (.ref (307 : Nat)), none] [] s = some (.inl none, s') ∧ RM pO qO rsw s0 s' ∧ OS s' F ∧ (∀ j, gJ s' 314 j = gJ s 314 j) ∧ (∀ j, gJ s' 307 j = gJ s 307 j) := by
  obtain ⟨h1, h2, l', h3⟩ := h
  obtain ⟨a1, a2, a3⟩ := od_A hO
  obtain ⟨s', f1, f2, f3, f4⟩ := c7_goOn (g := g) (d := d) (h1.fx hF) (hO.fm h1) h2 h3
  have f2' : FM pO qO s s' := f2.mono (fun b j q => by unfold pC at q; unfold pO; omega) (fun b j q => by unfold qC at q; unfold qO; omega)
  refine ⟨_, f1, ((h1.tr f2').rm.tr (RM.sw (Or.inl rfl))).tr (RM.sw (Or.inr rfl)), ⟨A', A, l', ⟨?_, ?_, hO.2.2.2.1, hO.2.2.1, fun e => hO.2.2.2.2 e.symm⟩, f4.pR.pR, f3.pR.pR⟩, fun j => ?_, fun j => ?_⟩
  · rw [pR_gR, if_neg (by omega), pR_gR, if_pos ⟨rfl, rfl⟩]
  · rw [pR_gR, if_pos ⟨rfl, rfl⟩]
  · exact f2.2.2 _ _ (by unfold qC; omega)
  · exact f2.2.2 _ _ (by unfold qC; omega)
end PSs
