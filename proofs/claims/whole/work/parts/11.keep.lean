/-! the run only makes; what a method's start knows goes on to its callees -/
theorem jm_put_keep {h h' : jm_H} {a ci j : Nat} {v : Value} (e : jm_put h a ci j v = some h') : h'.2 = h.2 := by
  obtain ⟨fs, -, -, rfl⟩ := jm_put_inv e
  rfl
theorem jm_astI_keep {h h' : jm_H} {t : FieldType} {a : Nat} {i x : Int32} (e : jm_astI h t a i x = some h') : h'.2 = h.2 := by
  unfold jm_astI at e
  split at e
  · split at e <;> cases e
    rfl
  · cases e
theorem jm_astL_keep {h h' : jm_H} {a : Nat} {i : Int32} {x : Int64} (e : jm_astL h a i x = some h') : h'.2 = h.2 := by
  unfold jm_astL at e
  split at e
  · split at e <;> cases e
    rfl
  · cases e
theorem jm_astR_keep {h h' : jm_H} {cn : String} {ci a v : Nat} {i : Int32} (e : jm_astR h cn ci a i v = some h') : h'.2 = h.2 := by
  unfold jm_astR at e
  split at e
  · split at e <;> cases e
    rfl
  · cases e
set_option maxHeartbeats 4000000 in
theorem jm_stp_mono {G : jm_G} {e : jm_I} {L : jm_L} {st : List Value} {h : jm_H} {q : jm_S} (hst : jm_stp G e L st h = some q) : h.2.1 ≤ q.2.2.2.2.1 ∧ h.2.2 ≤ q.2.2.2.2.2 := by
  obtain ⟨pc, i, np, x, y, z, w, v, bs⟩ := e
  cases i
  case ifCond c9 o9 => cases c9 <;> (simp only [jm_stp, jm_if1] at hst; split at hst <;> first | (cases hst; done) | (split at hst <;> cases hst <;> exact ⟨Nat.le_refl _, Nat.le_refl _⟩))
  case if_icmp c9 o9 => cases c9 <;> (simp only [jm_stp, jm_if2] at hst; split at hst <;> first | (cases hst; done) | (split at hst <;> cases hst <;> exact ⟨Nat.le_refl _, Nat.le_refl _⟩))
  case newarray t9 => cases t9 <;> first | (simp [jm_stp] at hst; done) | (simp only [jm_stp] at hst; split at hst <;> first | (cases hst; done) | (split at hst <;> cases hst; exact ⟨Nat.le_succ _, Nat.le_add_right _ _⟩))
  all_goals try (simp only [jm_stp, jm_stI, jm_stL, jm_stA, jm_to] at hst)
  all_goals (repeat' split at hst)
  all_goals first
    | (cases hst; done)
    | (cases hst; exact ⟨Nat.le_refl _, Nat.le_refl _⟩)
    | (obtain ⟨u, h1, rfl⟩ := Option.map_eq_some_iff.mp hst; exact ⟨Nat.le_refl _, Nat.le_refl _⟩)
    | (obtain ⟨u, h1, rfl⟩ := Option.map_eq_some_iff.mp hst; have e9 := jm_put_keep h1; exact ⟨by show _ ≤ u.2.1; rw [e9]; exact Nat.le_refl _, by show _ ≤ u.2.2; rw [e9]; exact Nat.le_refl _⟩)
    | (obtain ⟨u, h1, rfl⟩ := Option.map_eq_some_iff.mp hst; have e9 := jm_astI_keep h1; exact ⟨by show _ ≤ u.2.1; rw [e9]; exact Nat.le_refl _, by show _ ≤ u.2.2; rw [e9]; exact Nat.le_refl _⟩)
    | (obtain ⟨u, h1, rfl⟩ := Option.map_eq_some_iff.mp hst; have e9 := jm_astL_keep h1; exact ⟨by show _ ≤ u.2.1; rw [e9]; exact Nat.le_refl _, by show _ ≤ u.2.2; rw [e9]; exact Nat.le_refl _⟩)
    | (obtain ⟨u, h1, rfl⟩ := Option.map_eq_some_iff.mp hst; have e9 := jm_astR_keep h1; exact ⟨by show _ ≤ u.2.1; rw [e9]; exact Nat.le_refl _, by show _ ≤ u.2.2; rw [e9]; exact Nat.le_refl _⟩)
    | (cases hst; exact ⟨by show h.2.1 ≤ h.2.1 + 1; omega, by show h.2.2 ≤ h.2.2 + _; omega⟩)
    | (cases hst; exact ⟨by show h.2.1 ≤ h.2.1 + 1 + _; omega, by show h.2.2 ≤ h.2.2 + _ + _; omega⟩)
theorem jr_Ca.moved {E T : String} {u U : State} (hvm : u.vm.Alike U.vm) (h : jr_Ca E T u) : jr_Ca E T U := by
  obtain ⟨c, t, h1, h2, h3⟩ := h
  exact ⟨c, t, by rw [hvm.findClass]; exact h1, by rw [hvm.findClass]; exact h2, by rw [hvm.assignable]; exact h3⟩
theorem jr_Ca.use {E T : String} {args : Array Value} {u : State} (h : jr_Ca E T u) : (Cond.castable E T).before args u = true := by
  obtain ⟨c, t, h1, h2, h3⟩ := h
  simp [Cond.before, Cond.holds, Cond.value, h1, h2, h3]
theorem jr_Ca.of {E T : String} {args : Array Value} {u : State} (h : (Cond.castable E T).before args u = true) : jr_Ca E T u := by
  obtain ⟨c3, c4, hc3, hc4, hasg⟩ := Cond.castable_spec h
  exact ⟨c3, c4, hc3, hc4, hasg⟩
theorem jr_over_spec {t : FieldType} {u : State} (h : va_AOA t u) : ∃ (comp c : ClassId) (k : Class), u.vm.findClass (FieldType.array t).toString = some comp ∧ (u.vm.classes.findIdx? fun (x : Class) => match x.kind with | .array component _ => component == comp | _ => false) = some c ∧ u.vm.classes[c]? = some k ∧ k.kind = .array comp (.array t) ∧ u.vm.findClass ("[" ++ (FieldType.array t).toString) = some c := by
  simp only [va_AOA, Cond.before, Cond.holds, Cond.value, beq_iff_eq] at h
  cases hc : u.vm.findClass (FieldType.array t).toString with
  | none => simp [hc] at h
  | some comp =>
    simp only [hc, Option.bind_some, Option.bind_eq_some_iff, Option.map_eq_some_iff] at h
    obtain ⟨c, hi, k, hk, hb⟩ := h
    obtain ⟨hlt, hp, -⟩ := Array.findIdx?_eq_some_iff_getElem.mp hi
    have hkk : u.vm.classes[c] = k := (Array.getElem?_eq_some_iff.mp hk).2
    rw [hkk] at hp
    cases hkind : k.kind with
    | array component ty =>
      rw [hkind] at hb hp
      simp at hb hp
      exact ⟨comp, c, k, rfl, hi, hk, by rw [hkind, hp, hb.1], hb.2⟩
    | _ => rw [hkind] at hb; simp at hb
theorem va_AOA.moved {t : FieldType} {u U : State} (hvm : u.vm.Alike U.vm) (h : va_AOA t u) : va_AOA t U := by
  obtain ⟨comp, c, k, h1, h2, h3, h4, h5⟩ := jr_over_spec h
  obtain ⟨k', hk', he⟩ := hvm.2.2 _ _ h3
  have hi : (U.vm.classes.findIdx? fun (x : Class) => match x.kind with | .array component _ => component == comp | _ => false) = some c := by
    have e1 := va_idx_bare U.vm comp
    have e2 := va_idx_bare u.vm comp
    have e3 : U.vm.bare = u.vm.bare := by first | exact hvm.bare_eq | exact hvm.bare_eq.symm
    rw [e3] at e1
    exact (e1.symm.trans e2).trans h2
  have hkind : k'.kind = .array comp (.array t) := by rw [he]; exact h4
  have f1 : U.vm.findClass (FieldType.array t).toString = some comp := by rw [hvm.findClass]; exact h1
  have f2 : U.vm.findClass ("[" ++ (FieldType.array t).toString) = some c := by rw [hvm.findClass]; exact h5
  unfold va_AOA Cond.before Cond.holds
  simp only [Cond.value]
  rw [f1, Option.bind_some]
  refine (congrArg (fun o : Option Nat => (o.bind (fun c => (U.vm.classes[c]?).map fun (k : Class) => match k.kind with | .array _ ty => decide (ty = FieldType.array t) && decide (U.vm.findClass ("[" ++ (FieldType.array t).toString) = some c) | _ => false) == some true)) hi).trans ?_
  simp [hk', hkind, f2]
theorem jr_A_of {A : Nat → Prop} {ws : va_W} {H0 H : Heap} {locs : List Loc} (hA : ∀ q, H0.size ≤ q → A q) (hS : va_S A H0 H locs) (hD : va_D A ws) : ∀ q, va_A ws H.size q → A q := by
  rintro q (⟨k, e, h⟩ | h)
  · exact hD.2 k _ h
  · exact hA q (Nat.le_trans hS.1 h)
theorem jr_K.next {tx : List String} {lits : List (List Int32)} {b Ln : Nat} {xs : Nat → Int32} {sa : Nat → Nat} {A : Nat → Prop} {s U : State} {H : Heap} {locs : List Loc} {ws : va_W} (hK : jr_K tx lits b Ln xs sa A s) (hS : va_S A s.heap H locs) (hD : va_D A ws) (hW : s.WarmedH U.vm) (hU : U.heap = H) : jr_K tx lits b Ln xs sa (va_A ws H.size) U := by
  have hAB := jr_A_of hK.1 hS hD
  obtain ⟨k1, ⟨k2, k3, k4⟩, k5, k6, ⟨k7, k8⟩, ⟨k9, k10⟩, ⟨k11, k12, k13⟩, k14, k15, k16⟩ := hK
  subst hU
  exact ⟨fun q h => Or.inr h, ⟨(k2.kept (hS.2.1 b k3 k4)).moved hW.alike, Nat.lt_of_lt_of_le k3 hS.1, fun q => k4 (hAB b q)⟩, fun own idx t j h1 h2 => (k5 own idx t j h1 h2).warm hW,
    ((k6.kept hS.2.1).narrow hAB).moved hW.alike, ⟨((k7.kept hS.2.1).narrow hAB).moved hW.alike, ((k8.kept hS.2.1).narrow hAB).moved hW.alike⟩,
    ⟨((k9.kept hS.2.1).narrow hAB).moved hW.alike, ((k10.kept hS.2.1).narrow hAB).moved hW.alike⟩, ⟨fun C hC => (k11 C hC).moved hW.alike, k12.moved hW.alike, k13.moved hW.alike⟩, k14.moved hW.alike, k15.moved hW.alike, k16.moved hW.alike⟩
theorem jr_K.calling {tx : List String} {lits : List (List Int32)} {b Ln : Nat} {xs : Nat → Int32} {sa : Nat → Nat} {A : Nat → Prop} {U : State} {g : JFrame} {mk9 : MethodId} {a : Array Value} (hK : jr_K tx lits b Ln xs sa A U) : jr_K tx lits b Ln xs sa A (U.calling g mk9 a) := by
  obtain ⟨k1, ⟨k2, k3, k4⟩, k5, k6, ⟨k7, k8⟩, ⟨k9, k10⟩, ⟨k11, k12, k13⟩, k14, k15, k16⟩ := hK
  have al : U.vm.Alike (U.calling g mk9 a).vm := Vm.Alike.refl U.vm
  exact ⟨k1, ⟨k2.moved al, k3, k4⟩, fun own idx t j h1 h2 => (k5 own idx t j h1 h2).same rfl, k6.moved al, ⟨k7.moved al, k8.moved al⟩, ⟨k9.moved al, k10.moved al⟩, ⟨fun C hC => (k11 C hC).moved al, k12.moved al, k13.moved al⟩, k14.moved al, k15.moved al, k16.moved al⟩
