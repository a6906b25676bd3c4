/-! what a method gives back is of the kind of its returns -/
section CT0
theorem jm_at_mem {pc : Nat} {e : jm_I} : ∀ {l : List jm_I}, jm_at l pc = some e → e ∈ l
  | [], h => by cases h
  | a :: r, h => by
    rw [jm_at] at h
    split at h
    · cases h
      exact List.mem_cons_self
    · exact List.mem_cons_of_mem _ (jm_at_mem h)
theorem fm_ty {sh : fm_H} {G : jm_G} {tb : List jm_M} {M : jm_M} {K : Nat} (hK : K = 3 ∨ K = 2) (hM : ∀ pc e, jm_at M.2.2.2.2.2.2 pc = some e → jm_kind e ≠ K ∧ jm_kind e ≠ 4) : ∀ {n d : Nat} {pc : Nat} {L : jm_L} {st : List Value} {s s' : fm_S} {v : Value}, fm_run sh G tb n d M pc L st s = some (.inl (some v), s') → (K = 3 → ∃ x, v = .int x) ∧ (K = 2 → ∃ x, v = .long x) := by
  intro n
  induction n with
  | zero => intro d pc L st s s' v hr; cases hr
  | succ n ih =>
    intro d pc L0 st s s' v hr
    rw [fm_run] at hr
    split at hr
    next => cases hr
    next e he =>
    (try dsimp only at hr)
    generalize (if e.2.2.2.2.2.2.2.2 = [] then L0 else jm_mask e.2.2.2.2.2.2.2.2 L0) = L at hr
    split at hr
    next hk =>
      obtain ⟨q, h1, h2⟩ := Option.bind_eq_some_iff.mp hr
      exact ih h2
    next hk =>
      split at hr
      next d' M' hM' =>
        split at hr
        next hc =>
          split at hr
          next v s1 hrun => exact ih hr
          next E s1 hrun =>
            split at hr
            next => cases hr
            next hsp =>
            split at hr
            next hp hhp => exact ih hr
            next hhp => split at hr <;> cases hr
          next => cases hr
        next => cases hr
      next => cases hr
    next hk => split at hr <;> cases hr
    next hk0 hk5 hk6 =>
      obtain ⟨v', h1, h2⟩ := Option.map_eq_some_iff.mp hr
      have h3 : v' = some v := by
        injection h2 with h4 h5
        injection h4
      subst h3
      have hne := hM _ _ he
      generalize jm_kind e = k at *
      unfold jm_ret at h1
      split at h1
      · cases h1
      · split at h1
        · cases h1
          exact ⟨fun _ => ⟨_, rfl⟩, fun q => absurd q.symm hne.1⟩
        · cases h1
      · cases h1
        exact ⟨fun q => absurd q.symm hne.1, fun _ => ⟨_, rfl⟩⟩
      · exact absurd rfl hne.2
      · cases h1
variable {g : fm_g} {d pc : Nat} {M : jm_M} {L : jm_L} {st : List Value} {s s' : fm_S} {v : Value}
theorem ev_int (hM : (M.2.2.2.2.2.2.all fun e => decide (jm_kind e ≠ 3 ∧ jm_kind e ≠ 4)) = true) (h : ev g d M pc L st s = some (.inl (some v), s')) : ∃ x, v = .int x := by
  unfold ev at h
  rw [fm_ev_iff] at h
  obtain ⟨n, hn⟩ := h
  refine (fm_ty (K := 3) (Or.inl rfl) (fun pc e he => ?_) hn).1 rfl
  have hm : e ∈ M.2.2.2.2.2.2 := jm_at_mem he
  exact of_decide_eq_true (List.all_eq_true.mp hM e hm)
theorem ev_long (hM : (M.2.2.2.2.2.2.all fun e => decide (jm_kind e ≠ 2 ∧ jm_kind e ≠ 4)) = true) (h : ev g d M pc L st s = some (.inl (some v), s')) : ∃ x, v = .long x := by
  unfold ev at h
  rw [fm_ev_iff] at h
  obtain ⟨n, hn⟩ := h
  refine (fm_ty (K := 2) (Or.inr rfl) (fun pc e he => ?_) hn).2 rfl
  have hm : e ∈ M.2.2.2.2.2.2 := jm_at_mem he
  exact of_decide_eq_true (List.all_eq_true.mp hM e hm)
theorem ty_office {d : Nat} {L : jm_L} {st : List Value} {s s' : fm_S} {v : Value} (h : ev g d mX12_office 0 L st s = some (.inl (some v), s')) : ∃ x, v = .int x := ev_int (by decide +kernel) h
theorem ty_mean {d : Nat} {L : jm_L} {st : List Value} {s s' : fm_S} {v : Value} (h : ev g d mX12_mean 0 L st s = some (.inl (some v), s')) : ∃ x, v = .long x := ev_long (by decide +kernel) h
end CT0
