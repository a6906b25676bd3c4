/-! states, by the class's numbers and by the model's -/
def prs : List (Nat × Nat) := (List.range 13).flatMap fun a => (List.range (a + 1)).map fun d => (a - d, d)
def pno (c d : Nat) : Nat := (c + d) * (c + d + 1) / 2 + d
def cP (r : Nat) : Nat := (prs.getD r (0, 0)).1
def dP (r : Nat) : Nat := (prs.getD r (0, 0)).2
theorem pno_ok0 : ∀ c, c < 13 → ∀ d, d < 13 - c → pno c d < 91 ∧ cP (pno c d) = c ∧ dP (pno c d) = d := by decide +kernel
theorem pno_ok {c d : Nat} (h : c + d ≤ 12) : pno c d < 91 ∧ cP (pno c d) = c ∧ dP (pno c d) = d := pno_ok0 c (by omega) d (by omega)
theorem prs_ok : ∀ r, r < 91 → cP r + dP r ≤ 12 ∧ pno (cP r) (dP r) = r := by decide +kernel
def nm (c d card seen st : Nat) : Nat := ((st * 2 + seen) * 2 + card) * 91 + pno c d
def kc (k : Nat) : Nat := cP (k % 91)
def kd (k : Nat) : Nat := dP (k % 91)
def kcard (k : Nat) : Nat := k / 91 % 2
def kseen (k : Nat) : Nat := k / 182 % 2
def kst (k : Nat) : Nat := k / 364
theorem k_cd (k : Nat) : kc k + kd k ≤ 12 := (prs_ok (k % 91) (by omega)).1
theorem k_lt {k : Nat} (h : k < NS) : kcard k < 2 ∧ kseen k < 2 ∧ kst k < 25 := by
  unfold kcard kseen kst NS at *
  omega
theorem nm_k {k : Nat} : nm (kc k) (kd k) (kcard k) (kseen k) (kst k) = k := by
  unfold nm kc kd kcard kseen kst
  rw [(prs_ok (k % 91) (by omega)).2]
  omega
theorem k_nm {c d card seen st : Nat} (h : c + d ≤ 12) (h1 : card < 2) (h2 : seen < 2) : kc (nm c d card seen st) = c ∧ kd (nm c d card seen st) = d ∧ kcard (nm c d card seen st) = card ∧ kseen (nm c d card seen st) = seen ∧ kst (nm c d card seen st) = st := by
  obtain ⟨p1, p2, p3⟩ := pno_ok h
  have e : nm c d card seen st % 91 = pno c d := by unfold nm; omega
  refine ⟨by rw [kc, e, p2], by rw [kd, e, p3], ?_, ?_, ?_⟩
  · unfold kcard nm; omega
  · unfold kseen nm; omega
  · unfold kst nm; omega
theorem nm_lt {c d card seen st : Nat} (h : c + d ≤ 12) (h1 : card < 2) (h2 : seen < 2) (h3 : st < 25) : nm c d card seen st < NS := by
  obtain ⟨p1, p2, p3⟩ := pno_ok h
  unfold nm NS
  omega
/-- the model's -/
def mx (c d card st seen : Nat) : Nat := (((c * 13 + d) * 2 + card) * 25 + st) * 2 + seen
def mix (k : Nat) : Nat := mx (kc k) (kd k) (kcard k) (kst k) (kseen k)
def kof (q : Nat) : Nat := if q / 1300 + q / 100 % 13 ≤ 12 then nm (q / 1300) (q / 100 % 13) (q / 50 % 2) (q % 2) (q / 2 % 25) else NS
theorem mx_dec {c d card st seen : Nat} (h : d ≤ 12) (h1 : card < 2) (h2 : seen < 2) (h3 : st < 25) : mx c d card st seen / 1300 = c ∧ mx c d card st seen / 100 % 13 = d ∧ mx c d card st seen / 50 % 2 = card ∧ mx c d card st seen / 2 % 25 = st ∧ mx c d card st seen % 2 = seen := by
  unfold mx
  omega
theorem kof_mx {c d card st seen : Nat} (h : c + d ≤ 12) (h1 : card < 2) (h2 : seen < 2) (h3 : st < 25) : kof (mx c d card st seen) = nm c d card seen st := by
  obtain ⟨e1, e2, e3, e4, e5⟩ := mx_dec (c := c) (show d ≤ 12 by omega) h1 h2 h3
  unfold kof
  rw [e1, e2, e3, e4, e5, if_pos h]
theorem kof_mix {k : Nat} (h : k < NS) : kof (mix k) = k := by
  obtain ⟨h1, h2, h3⟩ := k_lt h
  unfold mix
  rw [kof_mx (k_cd k) h1 h2 h3, nm_k]
theorem mix_lt {k : Nat} (h : k < NS) : mix k < 16900 := by
  obtain ⟨h1, h2, h3⟩ := k_lt h
  have := k_cd k
  unfold mix mx
  omega
theorem mix_kof {q : Nat} (h : q < 16900) (h2 : kof q < NS) : mix (kof q) = q := by
  unfold kof at h2 ⊢
  split at h2
  next hc =>
    rw [if_pos hc]
    obtain ⟨e1, e2, e3, e4, e5⟩ := k_nm (st := q / 2 % 25) hc (show q / 50 % 2 < 2 by omega) (show q % 2 < 2 by omega)
    unfold mix
    rw [e1, e2, e3, e4, e5]
    unfold mx
    omega
  next => omega
theorem kof_le {q : Nat} : kof q ≤ NS := by
  unfold kof
  split
  next hc => exact Nat.le_of_lt (nm_lt hc (by omega) (by omega) (by omega))
  next => exact Nat.le_refl _
theorem mix_inj {k l : Nat} (hk : k < NS) (hl : l < NS) (h : mix k = mix l) : k = l := by
  rw [← kof_mix hk, ← kof_mix hl, h]
/-- the card falls -/
def cFall (q k p : Nat) : List (Nat × Nat) := [(k, p - p * q / 16), (nm (kc k) (kd k) (1 - kcard k) (kseen k) (kst k), p * q / 16)]
/-- so many of a state's parts do a thing in the VISIT v -/
def cAct (held see act v k a : Nat) : List (Nat × Nat) :=
  if act = 0 then [(nm (kc k) (if kc k + kd k < held then kd k + 1 else kd k) (kcard k) (kseen k) (kst k), a)]
  else if act = 1 then (if kc k + kd k = 0 then [(k, a)] else [(nm (kc k) (kd k - 1) (kcard k) (kseen k) (kst k), a * kd k / (kc k + kd k)), (nm (kc k - 1) (kd k) (kcard k) (kseen k) (kst k), a - a * kd k / (kc k + kd k))])
  else if act = 2 then [(k, a - (if 0 < kd k then a * see / 16 else 0)), (nm (kc k) (kd k) (kcard k) 1 (kst k), if 0 < kd k then a * see / 16 else 0)]
  else if act = 3 then (if kc k + kd k = 0 then [(k, a)] else [(nm (kc k + kd k) 0 (kcard k) (kseen k) (v + 1), a)])
  else if act = 4 then [(nm 0 0 (kcard k) (kseen k) (kst k), a)]
  else [(nm (kc k) (kd k) (if act = 5 then 1 else if act = 6 then 0 else 1 - kcard k) (kseen k) (kst k), a)]
/-- how many do it -/
def aOf (so : Nat → Bool) (q k p : Nat) : Nat := if so k = true then (if q = 0 then p else p * q / 16) else 0
def cStep (so : Nat → Bool) (held see act q v k p : Nat) : List (Nat × Nat) := (k, p - aOf so q k p) :: cAct held see act v k (aOf so q k p)
/-- behind a VISIT -/
def fEnd (fill v k : Nat) : Nat := if 0 < fill ∧ fill ≤ kc k + kd k then nm (kc k + kd k) 0 (kcard k) 0 (v + 1) else nm (kc k) (kd k) (kcard k) 0 (kst k)
theorem tq {p q : Nat} (h : q ≤ 16) : p * q / 16 ≤ p := by
  have : p * q ≤ p * 16 := Nat.mul_le_mul_left p h
  omega
theorem aOf_le {so : Nat → Bool} {q k p : Nat} (h : q ≤ 16) : aOf so q k p ≤ p := by
  unfold aOf
  split
  · split
    · exact Nat.le_refl _
    · exact tq h
  · exact Nat.zero_le _
theorem aOf_0 {so : Nat → Bool} {q k : Nat} : aOf so q k 0 = 0 := by
  unfold aOf
  split
  · split
    · rfl
    · simp
  · rfl
theorem dv_le {a x y : Nat} (h : x ≤ y) : a * x / y ≤ a := by
  have h1 : a * x ≤ a * y := Nat.mul_le_mul_left a h
  exact Nat.le_trans (Nat.div_le_div_right h1) (by
    rcases Nat.eq_zero_or_pos y with h0 | h0
    · subst h0; simp
    · rw [Nat.mul_div_cancel a h0]; exact Nat.le_refl _)
theorem cFall_ok {q : Nat} (h : q ≤ 16) : conOK (cFall q) (fun _ => True) := by
  intro k p hk _
  obtain ⟨h1, h2, h3⟩ := k_lt hk
  have := k_cd k
  have h4 := tq (p := p) h
  refine ⟨by unfold cFall amt; simp only [sumL]; omega, fun a ha => Or.inr ?_⟩
  simp only [cFall, List.mem_cons, List.mem_nil_iff, or_false] at ha
  rcases ha with rfl | rfl
  · exact hk
  · exact nm_lt (k_cd k) (by omega) h2 h3
theorem cFall_0 {q k : Nat} : amt (cFall q k 0) = 0 := by simp [cFall, amt, sumL]
theorem cAct_ok {held see act v k a : Nat} (hh : held ≤ 12) (hs : see ≤ 16) (hv : v < 24) (hk : k < NS) : amt (cAct held see act v k a) = a ∧ ∀ b ∈ cAct held see act v k a, b.2 = 0 ∨ b.1 < NS := by
  obtain ⟨h1, h2, h3⟩ := k_lt hk
  have h5 := k_cd k
  unfold cAct
  split
  · refine ⟨by simp [amt, sumL], fun b hb => Or.inr ?_⟩
    rw [List.mem_singleton.mp hb]
    refine nm_lt ?_ h1 h2 h3
    split <;> omega
  split
  · split
    · refine ⟨by simp [amt, sumL], fun b hb => Or.inr ?_⟩
      rw [List.mem_singleton.mp hb]
      exact hk
    · have h6 := dv_le (a := a) (show kd k ≤ kc k + kd k by omega)
      refine ⟨by simp only [amt, sumL]; omega, fun b hb => Or.inr ?_⟩
      simp only [List.mem_cons, List.mem_nil_iff, or_false] at hb
      rcases hb with rfl | rfl
      · exact nm_lt (by omega) h1 h2 h3
      · exact nm_lt (by omega) h1 h2 h3
  split
  · have h6 := tq (p := a) hs
    refine ⟨by simp only [amt, sumL]; split <;> omega, fun b hb => Or.inr ?_⟩
    simp only [List.mem_cons, List.mem_nil_iff, or_false] at hb
    rcases hb with rfl | rfl
    · exact hk
    · exact nm_lt h5 h1 (by omega) h3
  split
  · split
    · refine ⟨by simp [amt, sumL], fun b hb => Or.inr ?_⟩
      rw [List.mem_singleton.mp hb]
      exact hk
    · refine ⟨by simp [amt, sumL], fun b hb => Or.inr ?_⟩
      rw [List.mem_singleton.mp hb]
      exact nm_lt (by omega) h1 h2 (by omega)
  split
  · refine ⟨by simp [amt, sumL], fun b hb => Or.inr ?_⟩
    rw [List.mem_singleton.mp hb]
    exact nm_lt (by omega) h1 h2 h3
  · refine ⟨by simp [amt, sumL], fun b hb => Or.inr ?_⟩
    rw [List.mem_singleton.mp hb]
    refine nm_lt h5 ?_ h2 h3
    split
    · omega
    split <;> omega
theorem cStep_ok {so : Nat → Bool} {held see act q v : Nat} (hh : held ≤ 12) (hs : see ≤ 16) (hq : q ≤ 16) (hv : v < 24) : conOK (cStep so held see act q v) (fun _ => True) := by
  intro k p hk _
  obtain ⟨e1, e2⟩ := cAct_ok (a := aOf so q k p) (act := act) hh hs hv hk
  have h6 := aOf_le (so := so) (k := k) (p := p) hq
  refine ⟨?_, fun a ha => ?_⟩
  · show (p - aOf so q k p) + amt (cAct held see act v k (aOf so q k p)) = p
    omega
  · rcases List.mem_cons.mp ha with rfl | ha
    · exact Or.inr hk
    · exact e2 a ha
theorem cStep_0 {so : Nat → Bool} {held see act q v k : Nat} (hh : held ≤ 12) (hs : see ≤ 16) (hv : v < 24) (hk : k < NS) : amt (cStep so held see act q v k 0) = 0 := by
  show (0 - aOf so q k 0) + amt (cAct held see act v k (aOf so q k 0)) = 0
  rw [aOf_0, (cAct_ok hh hs hv hk).1]
theorem fEnd_lt {fill v k : Nat} (hv : v < 24) (hk : k < NS) : fEnd fill v k < NS := by
  obtain ⟨h1, h2, h3⟩ := k_lt hk
  have h5 := k_cd k
  unfold fEnd
  split
  · exact nm_lt (by omega) h1 (by omega) (by omega)
  · exact nm_lt h5 h1 (by omega) h3
