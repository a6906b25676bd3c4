/-! what a run comes to, without fuel -/
theorem fm_mono {sh : fm_H} {G : jm_G} {tb : List jm_M} : ∀ {n d : Nat} {M : jm_M} {pc : Nat} {L : jm_L} {st : List Value} {s : fm_S} {r : jm_O × fm_S}, fm_run sh G tb n d M pc L st s = some r → fm_run sh G tb (n + 1) d M pc L st s = some r := by
  intro n
  induction n with
  | zero => intro d M pc L st s r hr; cases hr
  | succ n ih =>
    intro d M pc L0 st s r hr
    rw [fm_run] at hr
    rw [fm_run]
    split at hr
    next => cases hr
    next e he =>
    (try rw [he])
    (try dsimp only at hr ⊢)
    generalize (if e.2.2.2.2.2.2.2.2 = [] then L0 else jm_mask e.2.2.2.2.2.2.2.2 L0) = L at hr ⊢
    split at hr
    next hk =>
      (try rw [hk])
      obtain ⟨q, h1, h2⟩ := Option.bind_eq_some_iff.mp hr
      (try dsimp only)
      rw [h1]
      exact ih h2
    next hk =>
      (try rw [hk])
      (try dsimp only)
      split at hr
      next d' M' hM' =>
        (try rw [hM'])
        (try dsimp only)
        split at hr
        next hc =>
          (try rw [if_pos hc])
          split at hr
          next v s1 hrun => (try rw [ih hrun]); exact ih hr
          next E s1 hrun =>
            (try rw [ih hrun])
            (try dsimp only)
            split at hr
            next => cases hr
            next hsp =>
            (try rw [if_neg hsp])
            split at hr
            next hp hhp => (try rw [hhp]); exact ih hr
            next hhp => (try rw [hhp]); exact hr
          next => cases hr
        next => cases hr
      next => cases hr
    next hk => (try rw [hk]); exact hr
    next hk0 hk5 hk6 =>
      exact hr
theorem fm_mono' {sh : fm_H} {G : jm_G} {tb : List jm_M} {n m d : Nat} {M : jm_M} {pc : Nat} {L : jm_L} {st : List Value} {s : fm_S} {r : jm_O × fm_S} (hnm : n ≤ m) (hr : fm_run sh G tb n d M pc L st s = some r) : fm_run sh G tb m d M pc L st s = some r := by
  induction hnm with
  | refl => exact hr
  | step _ ih => exact fm_mono ih
noncomputable def fm_ev (sh : fm_H) (G : jm_G) (tb : List jm_M) (d : Nat) (M : jm_M) (pc : Nat) (L : jm_L) (st : List Value) (s : fm_S) : Option (jm_O × fm_S) :=
  @dite _ (∃ r, ∃ n, fm_run sh G tb n d M pc L st s = some r) (Classical.propDecidable _) (fun h => some h.choose) (fun _ => none)
section FE
variable {sh : fm_H} {G : jm_G} {tb : List jm_M} {d : Nat} {M : jm_M} {pc : Nat} {L L0 : jm_L} {st : List Value} {s : fm_S}
theorem fm_ev_iff {r : jm_O × fm_S} : fm_ev sh G tb d M pc L st s = some r ↔ ∃ n, fm_run sh G tb n d M pc L st s = some r := by
  unfold fm_ev
  constructor
  · intro h
    split at h
    next hx =>
      cases h
      exact hx.choose_spec
    next => cases h
  · rintro ⟨n, h⟩
    have hx : ∃ r, ∃ n, fm_run sh G tb n d M pc L st s = some r := ⟨r, n, h⟩
    rw [dif_pos hx]
    obtain ⟨m, hm⟩ := hx.choose_spec
    have h1 := fm_mono' (Nat.le_max_left n m) h
    have h2 := fm_mono' (Nat.le_max_right n m) hm
    rw [h1] at h2
    exact h2.symm
theorem fm_opt {α : Type} {a b : Option α} (h : ∀ r, a = some r ↔ b = some r) : a = b := by
  cases a with
  | none =>
    cases b with
    | none => rfl
    | some x => exact absurd ((h x).mpr rfl) (by simp)
  | some x => exact ((h x).mp rfl).symm
theorem fm_ev_s {e : jm_I} (hat : jm_at M.2.2.2.2.2.2 pc = some e) (hk : jm_kind e = 0) (hL : (if e.2.2.2.2.2.2.2.2 = [] then L0 else jm_mask e.2.2.2.2.2.2.2.2 L0) = L) : fm_ev sh G tb d M pc L0 st s = (fm_stp sh G e L st s).bind fun q => fm_ev sh G tb d M q.1 q.2.1 q.2.2.1 q.2.2.2 := by
  refine fm_opt fun r => ?_
  rw [fm_ev_iff]
  constructor
  · rintro ⟨n, hn⟩
    cases n with
    | zero => cases hn
    | succ n =>
      simp only [fm_run, hat, hL, hk] at hn
      obtain ⟨q, h1, h2⟩ := Option.bind_eq_some_iff.mp hn
      rw [h1]
      exact fm_ev_iff.mpr ⟨n, h2⟩
  · intro hn
    obtain ⟨q, h1, h2⟩ := Option.bind_eq_some_iff.mp hn
    obtain ⟨n, h3⟩ := fm_ev_iff.mp h2
    refine ⟨n + 1, ?_⟩
    simp only [fm_run, hat, hL, hk, h1]
    exact h3
/-- behind a call -/
noncomputable def fm_K (sh : fm_H) (G : jm_G) (tb : List jm_M) (d : Nat) (M : jm_M) (pc np : Nat) (sp : Bool) (L : jm_L) (rest : List Value) (r : Option (jm_O × fm_S)) : Option (jm_O × fm_S) := match r with
  | some (.inl none, s') => fm_ev sh G tb d M np L rest s'
  | some (.inl (some v), s') => fm_ev sh G tb d M np L (v :: rest) s'
  | some (.inr E, s') => if sp = true then none else match jm_hnd M.2.2.2.2.1 pc E with
    | some hp => fm_ev sh G tb d M hp L [.float 1] s'
    | none => if M.2.2.2.2.1 = [] then some (.inr E, s') else none
  | none => none
theorem fm_ev_c {e : jm_I} {M' : jm_M} (hat : jm_at M.2.2.2.2.2.2 pc = some e) (hk : jm_kind e = 5) (hL : (if e.2.2.2.2.2.2.2.2 = [] then L0 else jm_mask e.2.2.2.2.2.2.2.2 L0) = L) (hM : tb[e.2.2.2.1]? = some M')
    (hc : M'.2.2.2.2.2.1 ≤ st.length ∧ fm_rcv sh G e.2.1 e.2.2.2.2.2.1 (st.take M'.2.2.2.2.2.1).reverse = true ∧ jm_lt (st.drop M'.2.2.2.2.2.1) = true ∧ (jm_lay (st.take M'.2.2.2.2.2.1).reverse).length ≤ M'.2.2.1) :
    fm_ev sh G tb (d + 1) M pc L0 st s = fm_K sh G tb (d + 1) M pc e.2.2.1 (jm_sp e.2.1) L (st.drop M'.2.2.2.2.2.1) (fm_ev sh G tb d M' 0 (jm_ent (st.take M'.2.2.2.2.2.1).reverse M'.2.2.1) [] s) := by
  refine fm_opt fun r => ?_
  rw [fm_ev_iff]
  constructor
  · rintro ⟨n, hn⟩
    cases n with
    | zero => cases hn
    | succ n =>
      simp only [fm_run, hat, hL, hk, hM, if_pos hc] at hn
      split at hn
      next v s1 hrun =>
        rw [fm_ev_iff.mpr ⟨n, hrun⟩]
        cases v with
        | none => exact fm_ev_iff.mpr ⟨n, hn⟩
        | some v => exact fm_ev_iff.mpr ⟨n, hn⟩
      next E s1 hrun =>
        rw [fm_ev_iff.mpr ⟨n, hrun⟩]
        unfold fm_K
        dsimp only
        split at hn
        next => cases hn
        next hsp =>
        rw [if_neg hsp]
        split at hn
        next hp hhp => rw [hhp]; exact fm_ev_iff.mpr ⟨n, hn⟩
        next hhp => rw [hhp]; exact hn
      next => cases hn
  · intro hn
    cases hv : fm_ev sh G tb d M' 0 (jm_ent (st.take M'.2.2.2.2.2.1).reverse M'.2.2.1) [] s with
    | none => rw [hv] at hn; cases hn
    | some w =>
      rw [hv] at hn
      obtain ⟨o, s1⟩ := w
      obtain ⟨n1, h1⟩ := fm_ev_iff.mp hv
      have key : ∃ n2, n1 ≤ n2 ∧ (match (some (o, s1) : Option (jm_O × fm_S)) with
              | some (.inl v, s') => fm_run sh G tb n2 (d + 1) M e.2.2.1 L (v.toList ++ st.drop M'.2.2.2.2.2.1) s'
              | some (.inr E, s') => if jm_sp e.2.1 = true then none else match jm_hnd M.2.2.2.2.1 pc E with
                | some hp => fm_run sh G tb n2 (d + 1) M hp L [.float 1] s'
                | none => if M.2.2.2.2.1 = [] then some (.inr E, s') else none
              | none => none) = some r := by
        cases o with
        | inl v =>
          have hn2 : fm_ev sh G tb (d + 1) M e.2.2.1 L (v.toList ++ st.drop M'.2.2.2.2.2.1) s1 = some r := by
            cases v with
            | none => exact hn
            | some v => exact hn
          obtain ⟨n3, h3⟩ := fm_ev_iff.mp hn2
          exact ⟨max n1 n3, Nat.le_max_left _ _, fm_mono' (Nat.le_max_right _ _) h3⟩
        | inr E =>
          unfold fm_K at hn
          dsimp only at hn ⊢
          split at hn
          next => cases hn
          next hsp =>
          split at hn
          next hp hhp =>
            obtain ⟨n3, h3⟩ := fm_ev_iff.mp hn
            exact ⟨max n1 n3, Nat.le_max_left _ _, by (try rw [if_neg hsp]); (try rw [hhp]); exact fm_mono' (Nat.le_max_right _ _) h3⟩
          next hhp => exact ⟨n1, Nat.le_refl _, by (try rw [if_neg hsp]); (try rw [hhp]); exact hn⟩
      obtain ⟨n2, hle, h2⟩ := key
      refine ⟨n2 + 1, ?_⟩
      simp only [fm_run, hat, hL, hk, hM, if_pos hc, fm_mono' hle h1]
      exact h2
theorem fm_ev_t {e : jm_I} (hat : jm_at M.2.2.2.2.2.2 pc = some e) (hk : jm_kind e = 6) (hM : M.2.2.2.2.1 = []) : fm_ev sh G tb d M pc L0 [] s = some (.inr (e.2.2.2.1 - 2000), pX s) := by
  refine fm_ev_iff.mpr ⟨1, ?_⟩
  simp only [fm_run, hat, hk, hM, and_self, if_true]
theorem fm_ev_r {e : jm_I} {v : Option Value} {k : Nat} (hat : jm_at M.2.2.2.2.2.2 pc = some e) (hk : jm_kind e = k) (hk4 : 1 ≤ k ∧ k ≤ 4) (hr : jm_ret (jm_rz M.2.2.2.1) k st = some v) : fm_ev sh G tb d M pc L0 st s = some (.inl v, s) := by
  refine fm_ev_iff.mpr ⟨1, ?_⟩
  simp only [fm_run, hat, hk]
  have : k = 1 ∨ k = 2 ∨ k = 3 ∨ k = 4 := by omega
  rcases this with rfl | rfl | rfl | rfl <;> (simp only [hr]; rfl)
end FE
