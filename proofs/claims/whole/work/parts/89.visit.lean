/-! what a VISIT comes to: parts and counts -/
abbrev ZZ : Type := (Nat → Nat) × (Nat → Nat) × Nat × Nat
def zStp (w : WD) (v h p see : Nat) (Z : ZZ) (i : Nat) : ZZ := (pas (cStep (soB w v h i) (wT w 0) see (hbA (wH w h) i) (hbQ (wH w h) i) v) Z.1, addP Z.2.1 p (sumN (gD (soB w v h i) (hbA (wH w h) i) (hbQ (wH w h) i) Z.1) NS), Z.2.2.1 + sumN (gW (soB w v h i) (hbA (wH w h) i) (hbQ (wH w h) i) Z.1) NS, Z.2.2.2 + sumN (gL (soB w v h i) (hbA (wH w h) i) (hbQ (wH w h) i) Z.1) NS)
def zSts (w : WD) (v h p see : Nat) (Z : ZZ) : Nat → ZZ
  | 0 => Z
  | n + 1 => zStp w v h p see (zSts w v h p see Z n) n
def zEnd (fill v : Nat) (Z : ZZ) : ZZ := (mapD (fEnd fill v) Z.1, Z.2.1, Z.2.2.1 + sumN (fun k => (if 0 < fill ∧ fill ≤ kc k + kd k then kc k else 0) * Z.1 k) NS, Z.2.2.2)
/-- how a reckoning differs: odds of falling and of seeing, the starter (0: none), who is left out (99: none), whose HABIT each has -/
abbrev OPT : Type := Nat × Nat × Nat × Nat × (Nat → Nat)
def zAct (w : WD) (o : OPT) (v p : Nat) (Z : ZZ) : ZZ := zEnd o.2.2.1 v (zSts w v (o.2.2.2.2 p) p o.2.1 Z (hbm (wH w (o.2.2.2.2 p))))
theorem sumL_pos {α : Type} {f : α → Nat} : ∀ {l : List α}, sumL f l ≠ 0 → ∃ a ∈ l, f a ≠ 0
  | [], h => absurd rfl h
  | a :: l, h => by
    by_cases c : f a = 0
    · rw [sumL, c, Nat.zero_add] at h
      obtain ⟨b, hb, h2⟩ := sumL_pos h
      exact ⟨b, List.mem_cons_of_mem _ hb, h2⟩
    · exact ⟨a, List.mem_cons_self, c⟩
theorem sumN_pos {f : Nat → Nat} : ∀ {n : Nat}, sumN f n ≠ 0 → ∃ k, k < n ∧ f k ≠ 0
  | 0, h => absurd rfl h
  | n + 1, h => by
    by_cases c : f n = 0
    · rw [sumN, c, Nat.add_zero] at h
      obtain ⟨k, hk, h2⟩ := sumN_pos h
      exact ⟨k, by omega, h2⟩
    · exact ⟨n, by omega, c⟩
/-- what is so of all states that have parts -/
theorem pas_supp {con : Nat → Nat → List (Nat × Nat)} {D : Nat → Nat} {Q : Nat → Prop} (h : ∀ k, k < NS → D k ≠ 0 → ∀ a ∈ con k (D k), a.2 ≠ 0 → Q a.1) (h0 : ∀ k, k < NS → amt (con k 0) = 0) : ∀ τ, pas con D τ ≠ 0 → Q τ := by
  intro τ hτ
  obtain ⟨k, hk, h1⟩ := sumN_pos hτ
  by_cases c : D k = 0
  · rw [c] at h1
    exact absurd (Nat.le_zero.mp (Nat.le_trans tal_le (Nat.le_of_eq (h0 k hk)))) h1
  · obtain ⟨a, ha, h2⟩ := sumL_pos h1
    by_cases e : a.1 = τ
    · rw [if_pos e] at h2
      rw [← e]
      exact h k hk c a ha h2
    · rw [if_neg e] at h2
      exact absurd rfl h2
/-- where parts may be: known states, started by the VISIT u at the latest -/
def SUP (u : Nat) (D : Nat → Nat) : Prop := ∀ k, D k ≠ 0 → k < NS ∧ kst k ≤ u
def UNS (D : Nat → Nat) : Prop := ∀ k, D k ≠ 0 → kseen k = 0
theorem SUP.up {u u' : Nat} {D : Nat → Nat} (h : SUP u D) (hu : u ≤ u') : SUP u' D := fun k hk => ⟨(h k hk).1, Nat.le_trans (h k hk).2 hu⟩
theorem cAct_sup {held see act v k a : Nat} (hh : held ≤ 12) (hv : v < 24) (hk : k < NS) (hst : kst k ≤ v + 1) : ∀ b ∈ cAct held see act v k a, b.2 ≠ 0 → b.1 < NS ∧ kst b.1 ≤ v + 1 ∧ (act ≠ 2 → kseen b.1 = kseen k) := by
  obtain ⟨h1, h2, h3⟩ := k_lt hk
  have h5 := k_cd k
  have key : ∀ cl di ca se st, cl + di ≤ 12 → ca < 2 → se < 2 → st ≤ v + 1 → (act ≠ 2 → se = kseen k) → nm cl di ca se st < NS ∧ kst (nm cl di ca se st) ≤ v + 1 ∧ (act ≠ 2 → kseen (nm cl di ca se st) = kseen k) := fun cl di ca se st q1 q2 q3 q4 q5 => by
    obtain ⟨-, -, -, e4, e5⟩ := k_nm (st := st) q1 q2 q3
    exact ⟨nm_lt q1 q2 q3 (by omega), by rw [e5]; exact q4, fun h => by rw [e4]; exact q5 h⟩
  have keyk : k < NS ∧ kst k ≤ v + 1 ∧ (act ≠ 2 → kseen k = kseen k) := ⟨hk, hst, fun _ => rfl⟩
  intro b hb hb0
  unfold cAct at hb
  split at hb
  · rw [List.mem_singleton.mp hb]
    exact key _ _ _ _ _ (by split <;> omega) h1 h2 hst (fun _ => rfl)
  split at hb
  · split at hb
    · rw [List.mem_singleton.mp hb]
      exact keyk
    · simp only [List.mem_cons, List.mem_nil_iff, or_false] at hb
      rcases hb with rfl | rfl
      · exact key _ _ _ _ _ (by omega) h1 h2 hst (fun _ => rfl)
      · exact key _ _ _ _ _ (by omega) h1 h2 hst (fun _ => rfl)
  split at hb
  next e2 =>
    simp only [List.mem_cons, List.mem_nil_iff, or_false] at hb
    rcases hb with rfl | rfl
    · exact keyk
    · exact key _ _ _ _ _ h5 h1 (by omega) hst (fun h => absurd e2 h)
  split at hb
  · split at hb
    · rw [List.mem_singleton.mp hb]
      exact keyk
    · rw [List.mem_singleton.mp hb]
      exact key _ _ _ _ _ (by omega) h1 h2 (by omega) (fun _ => rfl)
  split at hb
  · rw [List.mem_singleton.mp hb]
    exact key _ _ _ _ _ (by omega) h1 h2 hst (fun _ => rfl)
  · rw [List.mem_singleton.mp hb]
    exact key _ _ _ _ _ h5 (by split; omega; split <;> omega) h2 hst (fun _ => rfl)
theorem cStep_sup {so : Nat → Bool} {held see act q v : Nat} {D : Nat → Nat} (hh : held ≤ 12) (hs : see ≤ 16) (hv : v < 24) (hD : SUP (v + 1) D) : SUP (v + 1) (pas (cStep so held see act q v) D) ∧ (act ≠ 2 → UNS D → UNS (pas (cStep so held see act q v) D)) := by
  have h0 : ∀ k, k < NS → amt (cStep so held see act q v k 0) = 0 := fun k hk => cStep_0 hh hs hv hk
  refine ⟨pas_supp (fun k hk hk0 a ha ha0 => ?_) h0, fun h2 hU => pas_supp (fun k hk hk0 a ha ha0 => ?_) h0⟩
  · rcases List.mem_cons.mp ha with rfl | ha
    · exact hD k hk0
    · have := cAct_sup hh hv hk (hD k hk0).2 a ha ha0
      exact ⟨this.1, this.2.1⟩
  · rcases List.mem_cons.mp ha with rfl | ha
    · exact hU k hk0
    · rw [(cAct_sup hh hv hk (hD k hk0).2 a ha ha0).2.2 h2]
      exact hU k hk0
def lkb (b : HB) : Nat → Bool
  | 0 => false
  | j + 1 => lkb b j || decide (hbA b j = 2)
theorem zSts_ok {w : WD} {v h p see : Nat} {Z : ZZ} (hw : wOK w) (hh : h < 7) (hs : see ≤ 16) (hv : v < 24) (hZ : SUP (v + 1) Z.1) (hU : UNS Z.1) : ∀ n, n ≤ hbm (wH w h) → SUP (v + 1) (zSts w v h p see Z n).1 ∧ (lkb (wH w h) n = false → UNS (zSts w v h p see Z n).1) ∧ sumN (zSts w v h p see Z n).1 NS = sumN Z.1 NS
  | 0, _ => ⟨hZ, fun _ => hU, rfl⟩
  | n + 1, hn => by
    obtain ⟨i1, i2, i3⟩ := zSts_ok hw hh hs hv hZ hU n (by omega) (p := p)
    obtain ⟨t1, t2, -⟩ := hw.1
    obtain ⟨-, -, -, o4⟩ := hw.2.2.2.2.1 h hh
    obtain ⟨p1, p2, -⟩ := o4 n (by omega)
    obtain ⟨k1, k2⟩ := cStep_sup (so := soB w v h n) (held := wT w 0) (see := see) (act := hbA (wH w h) n) (q := hbQ (wH w h) n) (by omega) hs hv i1
    refine ⟨k1, fun hl => ?_, ?_⟩
    · rw [lkb, Bool.or_eq_false_iff] at hl
      exact k2 (of_decide_eq_false hl.2) (i2 hl.1)
    · rw [← i3]
      exact pas_sum (P := fun _ => True) (cStep_ok (by omega) hs p2 hv) (fun _ _ _ => trivial) (fun k hk => cStep_0 (by omega) hs hv hk)
/-! forgetting and starting, one after the other -/
theorem fFg_ok {k : Nat} (hk : k < NS) : fFg k < NS ∧ kc (fFg k) = kc k ∧ kd (fFg k) = kd k ∧ kcard (fFg k) = kcard k ∧ kseen (fFg k) = 0 ∧ kst (fFg k) = kst k := by
  obtain ⟨h1, h2, h3⟩ := k_lt hk
  have h5 := k_cd k
  have := k_nm (st := kst k) h5 h1 (show 0 < 2 by omega)
  exact ⟨nm_lt h5 h1 (by omega) h3, this⟩
theorem fEnd_0 {v k : Nat} : fEnd 0 v k = fFg k := by unfold fEnd fFg; rw [if_neg (by omega)]
theorem fEnd_f {f v k : Nat} (hf : 1 ≤ f) (hk : k < NS) : fSt f v (fFg k) = fEnd f v k := by
  obtain ⟨h0, h1, h2, h3, h4, h5⟩ := fFg_ok hk
  unfold fSt fEnd
  rw [h1, h2, h3, h4]
  by_cases c : f ≤ kc k + kd k
  · rw [if_pos c, if_pos ⟨by omega, c⟩]
  · rw [if_neg c, if_neg (fun h => c h.2)]
    rfl
theorem mapD_fFg {D : Nat → Nat} {u : Nat} (hS : SUP u D) (hU : UNS D) : mapD fFg D = D := by
  refine mapD_id (fun k hk h => ?_) (fun k hk => ?_)
  · have h0 := hU k h
    unfold fFg
    have := nm_k (k := k)
    rw [h0] at this
    exact this
  · rcases Nat.eq_zero_or_pos (D k) with h0 | h0
    · exact h0
    · exact absurd (hS k (by omega)).1 (by unfold NS at *; omega)
theorem mapD_congr {f h : Nat → Nat} {D : Nat → Nat} (e : ∀ k, k < NS → f k = h k) : mapD f D = mapD h D := by
  funext τ
  rw [mapD_eq, mapD_eq]
  exact sumN_congr (fun k hk => by rw [e k hk])
theorem mapD_total {f : Nat → Nat} {D : Nat → Nat} (hf : ∀ k, k < NS → f k < NS) : sumN (mapD f D) NS = sumN D NS := by
  have := mapD_sum (f := f) (h := fun _ => 1) (D := D) (fun k hk _ => hf k hk)
  simpa using this
theorem end_2 {f v : Nat} {D : Nat → Nat} (hf : 1 ≤ f) : mapD (fSt f v) (mapD fFg D) = mapD (fEnd f v) D := by
  rw [mapD_mapD (fun k hk _ => (fFg_ok hk).1)]
  exact mapD_congr (fun k hk => fEnd_f hf hk)
theorem end_w {f v : Nat} {D : Nat → Nat} (hf : 1 ≤ f) : sumN (fun k => (if f ≤ kc k + kd k then kc k else 0) * mapD fFg D k) NS = sumN (fun k => (if 0 < f ∧ f ≤ kc k + kd k then kc k else 0) * D k) NS := by
  rw [mapD_sum (f := fFg) (h := fun k => if f ≤ kc k + kd k then kc k else 0) (D := D) (fun k hk _ => (fFg_ok hk).1)]
  refine sumN_congr (fun k hk => ?_)
  obtain ⟨h0, h1, h2, h3, h4, h5⟩ := fFg_ok hk
  rw [h1, h2]
  by_cases c : f ≤ kc k + kd k
  · rw [if_pos c, if_pos ⟨by omega, c⟩]
  · rw [if_neg c, if_neg (fun h => c h.2)]
theorem zEnd_sup {fill v : Nat} {Z : ZZ} (hv : v < 24) (hZ : SUP (v + 1) Z.1) : SUP (v + 1) (zEnd fill v Z).1 ∧ UNS (zEnd fill v Z).1 ∧ sumN (zEnd fill v Z).1 NS = sumN Z.1 NS := by
  have key : ∀ k, k < NS → kst k ≤ v + 1 → fEnd fill v k < NS ∧ kst (fEnd fill v k) ≤ v + 1 ∧ kseen (fEnd fill v k) = 0 := fun k hk hst => by
    obtain ⟨h1, h2, h3⟩ := k_lt hk
    have h5 := k_cd k
    refine ⟨fEnd_lt hv hk, ?_⟩
    unfold fEnd
    split
    · obtain ⟨-, -, -, e4, e5⟩ := k_nm (c := kc k + kd k) (d := 0) (st := v + 1) (by omega) h1 (show 0 < 2 by omega)
      exact ⟨by rw [e5]; omega, e4⟩
    · obtain ⟨-, -, -, e4, e5⟩ := k_nm (st := kst k) h5 h1 (show 0 < 2 by omega)
      exact ⟨by rw [e5]; exact hst, e4⟩
  have e : (zEnd fill v Z).1 = pas (fun k p => [(fEnd fill v k, p)]) Z.1 := rfl
  refine ⟨?_, ?_, mapD_total (fun k hk => fEnd_lt hv hk)⟩
  · rw [e]
    exact pas_supp (Q := fun k => k < NS ∧ kst k ≤ v + 1) (fun k hk hk0 a ha _ => by
      obtain ⟨q1, q2, q3⟩ := key k hk (hZ k hk0).2
      rw [List.mem_singleton.mp ha]
      exact And.intro q1 q2) (fun k _ => amt_1)
  · rw [e]
    exact pas_supp (Q := fun k => kseen k = 0) (fun k hk hk0 a ha _ => by
      obtain ⟨q1, q2, q3⟩ := key k hk (hZ k hk0).2
      rw [List.mem_singleton.mp ha]
      exact q3) (fun k _ => amt_1)
