/-! calls, and what a method of the abstract machine owes as a contract -/
section JX
variable {p : Program} {l : Launch} {e : Env} {R : Room} {s : State} {m : MethodId} {args : Array Value} {below : List Frame} {meth : Method} {c : Code} {H : Heap} {locs : List Loc} {cells slots : Nat} {Q : State → Prop}
variable {pc : Nat} {ls : Array Slot} {rest st0 : List Value} {mc ms : Nat} {free : Addr → Prop}
theorem jx_call {Qa : State → Outcome → State → Prop} {XC : String → State → State → Prop} (hr : vx_Run p l e R s m args below meth c H locs cells slots mc ms (F0 m pc ls st0) rest Qa XC free)
    (kx : ∀ (E : String) (ce : Cell) (q9 : Addr) (st₀ t : State) (H1 : Heap) (L : List Loc), t.heap = H1 → s.vm.Alike t.vm → st₀.heap = H → XC E st₀ t → (∀ q ∈ L, free q.base) → H1[q9]? = some ce → ce.vm = .none → s.vm.findClass E = some ce.cls → vx_W p l e R s m args below meth c H1 (locs ++ L) (cells + mc) (slots + ms) Q (F0 m pc ls rest) q9)
    (kk : ∀ (v : Option Value) (st₀ t : State) (H1 : Heap) (L : List Loc), t.heap = H1 → s.vm.Alike t.vm → st₀.heap = H → Qa st₀ (.returned v) t → (∀ q ∈ L, free q.base) → W p l e R s m args below meth c H1 (locs ++ L) (cells + mc) (slots + ms) Q (F0 m (pc + 3) ls (v.toList ++ rest))) : W p l e R s m args below meth c H locs cells slots Q (F0 m pc ls st0) := by
  intro T hT X
  rcases hr T hT X with ⟨v, st₀, t, T', L, h0, X', hL, e1, e2, hq, st⟩ | ⟨q, st₀, t, T', L, E, ce, h0, X', hL, e1, e2, hx, hce, hcv, hcl, st⟩
  · obtain ⟨t2, a1, b1⟩ := kk v st₀ t T'.heap L e1.symm (by rw [← e2]; exact X'.warmed.alike) h0 hq hL T' rfl X'
    exact ⟨t2, st t2 a1, b1⟩
  · obtain ⟨t2, a1, b1⟩ := kx E ce q st₀ t T'.heap L e1.symm (by rw [← e2]; exact X'.warmed.alike) h0 hx hL (by rw [e1]; exact hce) hcv hcl T' rfl X'
    exact ⟨t2, st.trans a1, b1⟩
theorem jx_callI {Qa : State → Outcome → State → Prop} (hr : va_Run p l e R s m args below meth c H locs cells slots mc ms (F0 m pc ls st0) rest Qa free)
    (kk : ∀ (v : Option Value) (st₀ t : State) (H1 : Heap) (L : List Loc), t.heap = H1 → s.vm.Alike t.vm → st₀.heap = H → Qa st₀ (.returned v) t → (∀ q ∈ L, free q.base) → W p l e R s m args below meth c H1 (locs ++ L) (cells + mc) (slots + ms) Q (F0 m (pc + 3) ls (v.toList ++ rest))) : W p l e R s m args below meth c H locs cells slots Q (F0 m pc ls st0) := by
  intro T hT X
  obtain ⟨v, st₀, t, T', L, h0, X', hL, e1, e2, hq, st⟩ := hr T hT X
  obtain ⟨t2, a1, b1⟩ := kk v st₀ t T'.heap L e1.symm (by rw [← e2]; exact X'.warmed.alike) h0 hq hL T' rfl X'
  exact ⟨t2, st t2 a1, b1⟩
end JX
theorem jr_S.take {b : Nat} {sa : Nat → Nat} {ws : va_W} : ∀ {st S : List Value}, jr_S b sa ws st S → ∀ k, jr_S b sa ws (st.take k) (S.take k)
  | [], [], _, k => by simp [jr_S]
  | _ :: _, _ :: _, _, 0 => trivial
  | _ :: _, _ :: _, ⟨h1, h2⟩, k + 1 => ⟨h1, jr_S.take h2 k⟩
  | [], _ :: _, h, _ => h.elim
  | _ :: _, [], h, _ => h.elim
theorem jr_S.drop {b : Nat} {sa : Nat → Nat} {ws : va_W} : ∀ {st S : List Value}, jr_S b sa ws st S → ∀ k, jr_S b sa ws (st.drop k) (S.drop k)
  | [], [], _, k => by simp [jr_S]
  | _ :: _, _ :: _, h, 0 => h
  | _ :: _, _ :: _, ⟨_, h2⟩, k + 1 => jr_S.drop h2 k
  | [], _ :: _, h, _ => h.elim
  | _ :: _, [], h, _ => h.elim
theorem jr_S.app {b : Nat} {sa : Nat → Nat} {ws : va_W} : ∀ {a A c C : List Value}, jr_S b sa ws a A → jr_S b sa ws c C → jr_S b sa ws (a ++ c) (A ++ C)
  | [], [], _, _, _, h => h
  | _ :: _, _ :: _, _, _, ⟨h1, h2⟩, h => ⟨h1, jr_S.app h2 h⟩
  | [], _ :: _, _, _, h, _ => h.elim
  | _ :: _, [], _, _, h, _ => h.elim
theorem jr_S.rev {b : Nat} {sa : Nat → Nat} {ws : va_W} : ∀ {st S : List Value}, jr_S b sa ws st S → jr_S b sa ws st.reverse S.reverse
  | [], [], _ => trivial
  | v :: r, V :: R, ⟨h1, h2⟩ => by
    rw [List.reverse_cons, List.reverse_cons]
    exact (jr_S.rev h2).app ⟨h1, trivial⟩
  | [], _ :: _, h => h.elim
  | _ :: _, [], h => h.elim
/-- how locals begin -/
theorem jr_lay {b : Nat} {sa : Nat → Nat} {ws : va_W} : ∀ {vs As : List Value}, jr_S b sa ws vs As → (jm_lay vs).length = (lg_sl As).length ∧ ∀ (i : Nat) (v : Value), (jm_lay vs)[i]? = some (some v) → ∃ V, jr_V b sa ws v V ∧ (lg_sl As)[i]? = some (.val V)
  | [], [], _ => ⟨rfl, fun i v h => by simp [jm_lay] at h⟩
  | [], _ :: _, h => h.elim
  | _ :: _, [], h => h.elim
  | v :: r, V :: R, ⟨h1, h2⟩ => by
    obtain ⟨g1, g2⟩ := jr_lay h2
    have hw := jr_w h1
    by_cases hv : ∃ x, v = .long x
    · obtain ⟨x, rfl⟩ := hv
      have hw : V.category = 2 := hw
      have e1 : jm_lay (.long x :: r) = some (.long x) :: none :: jm_lay r := rfl
      have e2 : lg_sl (V :: R) = .val V :: .second :: lg_sl R := by simp [lg_sl, hw]
      rw [e1, e2]
      refine ⟨by simp [g1], fun i u hu => ?_⟩
      match i, hu with
      | 0, hu => simp at hu; subst hu; exact ⟨V, h1, rfl⟩
      | 1, hu => simp at hu
      | i + 2, hu => exact g2 i u (by simpa using hu)
    · have hw1 : V.category = 1 := by
        rw [hw]
        cases v <;> first | rfl | exact absurd ⟨_, rfl⟩ hv
      have e1 : jm_lay (v :: r) = some v :: jm_lay r := by
        cases v <;> first | rfl | exact absurd ⟨_, rfl⟩ hv
      have e2 : lg_sl (V :: R) = .val V :: lg_sl R := by simp [lg_sl, hw1]
      rw [e1, e2]
      refine ⟨by simp [g1], fun i u hu => ?_⟩
      match i, hu with
      | 0, hu => simp at hu; subst hu; exact ⟨V, h1, rfl⟩
      | i + 1, hu => exact g2 i u (by simpa using hu)
theorem jr_ent {b : Nat} {sa : Nat → Nat} {ws : va_W} {vs As : List Value} {n : Nat} (h : jr_S b sa ws vs As) (hn : (jm_lay vs).length ≤ n) : jr_L b sa ws (jm_ent vs n) ((lg_sl As ++ List.replicate (n - (lg_sl As).length) Slot.unset).toArray) n := by
  obtain ⟨g1, g2⟩ := jr_lay h
  have hl := lv_entry As (n := n) (by rw [← g1]; exact hn)
  refine ⟨by simp [jm_ent]; omega, hl.1, hl.2.1, fun i v hv => ?_⟩
  unfold jm_ent at hv
  have hi : i < (jm_lay vs).length := by
    apply Classical.byContradiction
    intro hi
    rw [List.getElem?_append_right (by omega)] at hv
    rw [List.getElem?_replicate] at hv
    split at hv <;> cases hv
  rw [List.getElem?_append_left hi] at hv
  obtain ⟨V, h1, h2⟩ := g2 i v hv
  exact ⟨V, h1, by rw [List.getElem?_toArray, List.getElem?_append_left (by rw [← g1]; exact hi)]; exact h2⟩
def jr_rm (d mc ms : Nat) : Room := { frames := 10 + d, cells := mc, slots := ms, locals := 300 + 120 * d }
/-- the world behind a method -/
def jx_B (D : va_G) (cl : List vw_C) (b : Nat) (sa : Nat → Nat) (ws : va_W) (tys : List (ClassId × FieldType)) (sz : Nat) (h' : jm_H) (t : State) (ws' : va_W) : Prop :=
  ∃ tys', jr_le ws ws' ∧ (∀ q ∈ tys, q ∈ tys') ∧ va_K D cl tys' t ∧ va_P D cl ws' t.heap ∧ va_D (va_A ws sz) ws' ∧ jr_H b sa ws' tys' h'
def jx_Q (D : va_G) (cl : List vw_C) (b : Nat) (sa : Nat → Nat) (ws : va_W) (tys : List (ClassId × FieldType)) (sz : Nat) (o : jm_O) (h' : jm_H) : Array Value → State → Outcome → State → Prop := fun _ st oc t =>
  (∃ (v V : Option Value) (ws' : va_W), o = .inl v ∧ oc = .returned V ∧ jr_S b sa ws' v.toList V.toList ∧ jx_B D cl b sa ws tys sz h' t ws') ∧ va_F (va_A ws sz) st t
def jx_X (D : va_G) (cl : List vw_C) (b : Nat) (sa : Nat → Nat) (ws : va_W) (tys : List (ClassId × FieldType)) (sz : Nat) (o : jm_O) (h' : jm_H) : String → State → State → Prop := fun E st t =>
  (∃ (k : Nat) (ws' : va_W), o = .inr k ∧ E = jr_exn k ∧ jx_B D cl b sa ws tys sz h' t ws') ∧ va_F (va_A ws sz) st t
def jx_P (D : va_G) (cl : List vw_C) (tx : List String) (lits : List (List Int32)) (b Ln : Nat) (xs : Nat → Int32) (sa : Nat → Nat) (ws : va_W) (tys : List (ClassId × FieldType)) (sz : Nat) (As : List Value) : Array Value → State → Prop :=
  va_Pc As (fun U => U.heap.size = sz ∧ va_K D cl tys U ∧ va_P D cl ws U.heap ∧ va_D (fun _ => True) ws ∧ jr_K tx lits b Ln xs sa (va_A ws sz) U)
theorem jx_P_blind {D : va_G} {cl : List vw_C} {tx : List String} {lits : List (List Int32)} {b Ln : Nat} {xs : Nat → Int32} {sa : Nat → Nat} {ws : va_W} {tys : List (ClassId × FieldType)} {sz : Nat} {As : List Value} : FrameBlind (jx_P D cl tx lits b Ln xs sa ws tys sz As) := fun a U g mk q => by
  obtain ⟨q0, q1, qK, qP, qD, qj⟩ := q
  exact ⟨q0, q1, va_K.moved (u := U) (U := U.calling g mk a) (Vm.Alike.refl U.vm) qK, qP, qD, qj.calling⟩
/-- a method's table of handlers -/
def jx_Ok (M : jm_M) (c : Code) : Prop := (M.2.2.2.2.1 = [] ∧ ∀ x ∈ c.exceptionTable.toList, False) ∨ (M.2.2.2.2.1 ≠ [] ∧ ∃ hh, c.exceptionTable.toList = tableOf hh ∧ jr_hh M.1.cls M.2.2.2.2.1 hh)
section JW
variable (p : Program) (l : Launch) (e : Env) (R : Room) (s : State) (m : MethodId) (args : Array Value) (below : List Frame) (meth : Method) (c : Code) (D : va_G) (cl : List vw_C) (A : Nat → Prop) (nL b : Nat) (sa : Nat → Nat) (ws : va_W) (tys : List (ClassId × FieldType)) (h : jm_H) (cells slots : Nat) (Q : State → Prop) (M : jm_M) (o : jm_O) (h' : jm_H)
def jx_End : Prop := ∀ (ee : jm_I) (v : Option Value) (st' : List Value), ee ∈ M.2.2.2.2.2.2 → jm_ret (jm_rz M.2.2.2.1) (jm_kind ee) st' = some v → o = .inl v →
  ∀ (ws' : va_W) (tys' : List (ClassId × FieldType)) (H' : Heap) (locs' : List Loc) (ls' : Array Slot) (S' : List Value) (cells' slots' : Nat), jr_le ws ws' → (∀ t ∈ tys, t ∈ tys') → jr_I D cl A b sa s h' H' locs' ws' tys' → ls'.size = nL → jr_S b sa ws' st' S' → cells' + h.2.1 = cells + h'.2.1 → slots' + h.2.2 = slots + h'.2.2 → W p l e R s m args below meth c H' locs' cells' slots' Q (F0 m ee.1 ls' S')
def jx_Thr : Prop := ∀ (ee : jm_I) (h1 : jm_H), ee ∈ M.2.2.2.2.2.2 → jm_kind ee = 6 → M.2.2.2.2.1 = [] → o = .inr (ee.2.2.2.1 - 2000) → h' = (h1.1, h1.2.1 + 1, h1.2.2 + 6) →
  ∀ (ws' : va_W) (tys' : List (ClassId × FieldType)) (H' : Heap) (locs' : List Loc) (ls' : Array Slot) (cells' slots' : Nat), jr_le ws ws' → (∀ t ∈ tys, t ∈ tys') → jr_I D cl A b sa s h1 H' locs' ws' tys' → ls'.size = nL → cells' + 1 + h.2.1 = cells + h'.2.1 → slots' + 6 + h.2.2 = slots + h'.2.2 → W p l e R s m args below meth c H' locs' cells' slots' Q (F0 m ee.1 ls' [])
def jx_Esc : Prop := ∀ E : Nat, M.2.2.2.2.1 = [] → o = .inr E →
  ∀ (ws' : va_W) (tys' : List (ClassId × FieldType)) (H' : Heap) (locs' : List Loc) (ls' : Array Slot) (pc' : Nat) (rest : List Value) (cells' slots' : Nat) (q9 : Addr) (ce : Cell), jr_le ws ws' → (∀ t ∈ tys, t ∈ tys') → jr_I D cl A b sa s h' H' locs' ws' tys' → cells' + h.2.1 = cells + h'.2.1 → slots' + h.2.2 = slots + h'.2.2 → H'[q9]? = some ce → ce.vm = .none → s.vm.findClass (jr_exn E) = some ce.cls → vx_W p l e R s m args below meth c H' locs' cells' slots' Q (F0 m pc' ls' rest) q9
end JW
def jx_Walk (G : jm_G) (tb : List jm_M) (cl : List vw_C) (tx : List String) (l : Launch) (n : Nat) : Prop :=
  ∀ (d : Nat) (M : jm_M) (pc : Nat) (L : jm_L) (st : List Value) (h : jm_H) (o : jm_O) (h' : jm_H), jr_okW cl tx tb M → jm_run G tb n d M pc L st h = some (o, h') →
  ∀ (p : Program) (e : Env) (R : Room) (s : State) (m : MethodId) (args : Array Value) (below : List Frame) (meth : Method) (c : Code) (H : Heap) (locs : List Loc) (cells slots : Nat) (Q : State → Prop) (ls : Array Slot) (S : List Value) (D : va_G) (A : Nat → Prop) (tys : List (ClassId × FieldType)) (ws : va_W) (b : Nat) (sa : Nat → Nat),
  jr_E p c M.2.1 M.2.2.1 s args M.1.cls M.1.name m meth R → (10 + d ≤ R.frames ∧ 300 + 120 * d ≤ R.locals) → jr_K tx G.2.1 b G.2.2.1 G.2.2.2 sa A s → jx_Ok M c → jr_I D cl A b sa s h H locs ws tys → jr_L b sa ws L ls M.2.2.1 → jr_S b sa ws st S → (cells + h'.2.1 ≤ R.cells + h.2.1 ∧ slots + h'.2.2 ≤ R.slots + h.2.2) →
  jx_End p l e R s m args below meth c D cl A M.2.2.1 b sa ws tys h cells slots Q M o h' → jx_Thr p l e R s m args below meth c D cl A M.2.2.1 b sa ws tys h cells slots Q M o h' → jx_Esc p l e R s m args below meth c D cl A b sa ws tys h cells slots Q M o h' →
  W p l e R s m args below meth c H locs cells slots Q (F0 m pc ls S)
