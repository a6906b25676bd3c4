/-! the run of a method is the machine's -/
def jm_okr (M : jm_M) (e : jm_I) : Bool := match e.2.1 with
  | .return_ => decide (M.2.2.2.1 = none)
  | .ireturn => decide (jm_rz M.2.2.2.1 < 4)
  | .lreturn => decide (M.2.2.2.1 = some .long)
  | .areturn => match M.2.2.2.1 with
    | some (.object _) => true
    | some (.array _) => true
    | _ => false
  | _ => true
def jr_exn : Nat → String
  | 0 => jr_NSE
  | _ => jr_IAE
def jr_nms : List String := ["java/lang/RuntimeException", "java/lang/Exception"]
/-- a throw: new; dup; ldc_w; invokespecial; athrow -/
def jr_thr (tx : List String) (M : jm_M) (e : jm_I) : Prop := ∃ (ik is ic j k ix : Nat) (rx : ByteArray) (text : String), e.2.2.2.1 = 2000 + k ∧ k < 2 ∧ decode M.2.1 e.1 = .ok (.new ik, 3) ∧ decode M.2.1 (e.1 + 3) = .ok (.dup, 1) ∧ decode M.2.1 (e.1 + 4) = .ok (.ldc_w is, 3) ∧ decode M.2.1 (e.1 + 7) = .ok (.invokespecial ic, 3) ∧ decode M.2.1 (e.1 + 10) = .ok (.athrow, 1) ∧ tx[j]? = some text ∧ Cond.stringRef M.1.cls is text ∈ lw_tbl ∧ Cond.classLink M.1.cls ik (jr_exn k) ∈ jr_T ∧ Cond.initialized (jr_exn k) ∈ jr_T ∧
  (decode rx 0 = .ok (.aload_n 0, 1) ∧ decode rx 1 = .ok (.aload_n 1, 1) ∧ decode rx 2 = .ok (.invokespecial ix, 3) ∧ decode rx 5 = .ok (.return_, 1)) ∧ (∀ w ∈ wx_at M.1.cls ic (jr_exn k) ix rx, w ∈ jr_T ∨ w = Cond.castable (jr_exn k) (jr_exn k)) ∧ (∀ w ∈ Cond.classLink M.1.cls ik (jr_exn k) :: Cond.initialized (jr_exn k) :: wx_at M.1.cls ic (jr_exn k) ix rx, vx_ot w = true) ∧ Bundle.fit (jr_exn k) = true
/-- a method's handlers, as the class file has them -/
def jr_hh (own : String) (hs hh : List (Nat × Nat × Nat × Nat)) : Prop :=
  (∃ f t hp k ct, hs = [(f, t, hp, k)] ∧ hh = [(f, t, hp, ct)] ∧ k < 2 ∧ ct ≠ 0 ∧ Cond.classLink own ct (jr_exn k) ∈ jr_T) ∨
  (∃ f t hp hp' c0 c1, hs = [(f, t, hp, 0), (f, t, hp', 1)] ∧ hh = [(f, t, hp, c0), (f, t, hp', c1)] ∧ c0 ≠ 0 ∧ c1 ≠ 0 ∧ Cond.classLink own c0 jr_NSE ∈ jr_T ∧ Cond.classLink own c1 jr_IAE ∈ jr_T)
/-- what is decided of a method, row by row -/
def jr_okW (cl : List vw_C) (tx : List String) (tb : List jm_M) (M : jm_M) : Prop :=
  ∃ Wd : List Cond, (∀ w ∈ Wd, w ∈ lw_tbl) ∧ ∀ e ∈ M.2.2.2.2.2.2, jm_okb cl tx tb Wd M.1.cls M.1.name M.2.1 M.2.2.1 e = true ∧ jm_okr M e = true ∧ (jm_kind e = 6 → jr_thr tx M e)
def jr_okM (cl : List vw_C) (tx : List String) (tb : List jm_M) (M : jm_M) : Prop :=
  jr_okW cl tx tb M ∧
  (plainName M.1.cls = true ∧ M.1.cls ≠ "java/lang/invoke/MethodHandle" ∧ M.1.cls ≠ "java/lang/invoke/VarHandle") ∧ Cond.initialized M.1.cls ∈ jr_T ∧ M.2.2.1 ≤ 100 ∧
  ((M.2.2.2.2.1 = [] ∧ Cond.code M.1 M.2.1 M.2.2.1 M.2.2.2.1 ∈ jr_T) ∨ (M.2.2.2.2.1 ≠ [] ∧ ∃ hh, Cond.codeWith M.1 M.2.1 M.2.2.1 M.2.2.2.1 hh ∈ jr_T ∧ jr_hh M.1.cls M.2.2.2.2.1 hh)) ∧
  ((Cond.static M.1 ∈ jr_T ∧ jm_pn M = some M.2.2.2.2.2.1) ∨ (Cond.instanceMethod M.1 ∈ jr_T ∧ (M.1.name = "<init>" ∨ Cond.selects M.1.cls M.1 M.1 ∈ jr_T) ∧ (jm_pn M).map (· + 1) = some M.2.2.2.2.2.1)) ∧ (M.1.name = "<init>" → M.2.2.2.1 = none)
theorem jm_at_inv : ∀ {l : List jm_I} {pc : Nat} {e : jm_I}, jm_at l pc = some e → e ∈ l ∧ e.1 = pc
  | [], _, _, h => by cases h
  | a :: r, pc, e, h => by
    unfold jm_at at h
    split at h
    next g => cases h; exact ⟨List.mem_cons_self, g⟩
    next =>
      obtain ⟨h1, h2⟩ := jm_at_inv h
      exact ⟨List.mem_cons_of_mem _ h1, h2⟩
/-- one step of the run -/
theorem jm_run_succ {G : jm_G} {tb : List jm_M} {n d : Nat} {M : jm_M} {pc : Nat} {L0 : jm_L} {st : List Value} {h : jm_H} {r : jm_O × jm_H} (hr : jm_run G tb (n + 1) d M pc L0 st h = some r) : ∃ (e : jm_I) (L : jm_L), jm_at M.2.2.2.2.2.2 pc = some e ∧ L = (if e.2.2.2.2.2.2.2.2 = [] then L0 else jm_mask e.2.2.2.2.2.2.2.2 L0) ∧
    ((jm_kind e = 0 ∧ ∃ q, jm_stp G e L st h = some q ∧ jm_run G tb n d M q.1 q.2.1 q.2.2.1 q.2.2.2 = some r) ∨
     (jm_kind e = 5 ∧ ∃ (d' : Nat) (M' : jm_M) (o : jm_O) (h1 : jm_H), d = d' + 1 ∧ tb[e.2.2.2.1]? = some M' ∧ M'.2.2.2.2.2.1 ≤ st.length ∧ jm_rcv G h e.2.1 e.2.2.2.2.2.1 (st.take M'.2.2.2.2.2.1).reverse = true ∧ jm_lt (st.drop M'.2.2.2.2.2.1) = true ∧ (jm_lay (st.take M'.2.2.2.2.2.1).reverse).length ≤ M'.2.2.1 ∧
        jm_run G tb n d' M' 0 (jm_ent (st.take M'.2.2.2.2.2.1).reverse M'.2.2.1) [] h = some (o, h1) ∧
        ((∃ v, o = .inl v ∧ jm_run G tb n d M e.2.2.1 L (v.toList ++ st.drop M'.2.2.2.2.2.1) h1 = some r) ∨ (∃ E, o = .inr E ∧ jm_sp e.2.1 = false ∧ ((∃ hp, jm_hnd M.2.2.2.2.1 pc E = some hp ∧ jm_run G tb n d M hp L [.float 1] h1 = some r) ∨ (M.2.2.2.2.1 = [] ∧ r = (.inr E, h1)))))) ∨
     (jm_kind e = 6 ∧ M.2.2.2.2.1 = [] ∧ st = [] ∧ r = (.inr (e.2.2.2.1 - 2000), (h.1, h.2.1 + 1, h.2.2 + 6))) ∨
     (∃ v, jm_ret (jm_rz M.2.2.2.1) (jm_kind e) st = some v ∧ r = (.inl v, h))) := by
  rw [jm_run] at hr
  split at hr
  next => cases hr
  next e he =>
  refine ⟨e, _, he, rfl, ?_⟩
  dsimp only at hr
  generalize hL : (if e.2.2.2.2.2.2.2.2 = [] then L0 else jm_mask e.2.2.2.2.2.2.2.2 L0) = L at hr
  split at hr
  next hk =>
    obtain ⟨q, h1, h2⟩ := Option.bind_eq_some_iff.mp hr
    exact Or.inl ⟨hk, q, by simpa using h1, h2⟩
  next hk =>
    split at hr
    next d' M' hM =>
      split at hr
      next hc =>
        obtain ⟨c1, c2, c3, c4⟩ := hc
        split at hr
        next v h1 hrun =>
          exact Or.inr (Or.inl ⟨hk, d', M', .inl v, h1, rfl, hM, c1, c2, c3, c4, hrun, Or.inl ⟨v, rfl, by simpa using hr⟩⟩)
        next E h1 hrun =>
          split at hr
          next => cases hr
          next hsp =>
          refine Or.inr (Or.inl ⟨hk, d', M', .inr E, h1, rfl, hM, c1, c2, c3, c4, hrun, Or.inr ⟨E, rfl, by simpa using hsp, ?_⟩⟩)
          split at hr
          next hp hhp => exact Or.inl ⟨hp, hhp, by simpa using hr⟩
          next =>
            split at hr
            next hM0 => cases hr; exact Or.inr ⟨hM0, rfl⟩
            next => cases hr
        next => cases hr
      next => cases hr
    next => cases hr
  next hk =>
    split at hr
    next hM0 => cases hr; exact Or.inr (Or.inr (Or.inl ⟨hk, hM0.1, hM0.2, rfl⟩))
    next => cases hr
  next =>
    obtain ⟨v, h1, h2⟩ := Option.map_eq_some_iff.mp hr
    exact Or.inr (Or.inr (Or.inr ⟨v, h1, h2.symm⟩))
theorem jm_run_mono {G : jm_G} {tb : List jm_M} : ∀ {n d : Nat} {M : jm_M} {pc : Nat} {L0 : jm_L} {st : List Value} {h : jm_H} {r : jm_O × jm_H}, jm_run G tb n d M pc L0 st h = some r → h.2.1 ≤ r.2.2.1 ∧ h.2.2 ≤ r.2.2.2 := by
  intro n
  induction n with
  | zero => intro d M pc L0 st h r hr; cases hr
  | succ n ih =>
    intro d M pc L0 st h r hr
    obtain ⟨e, L, -, -, ⟨-, q, h1, h2⟩ | ⟨-, d', M', o, h1, -, -, -, -, -, -, hrun, hgo⟩ | ⟨-, -, -, rfl⟩ | ⟨v, -, rfl⟩⟩ := jm_run_succ hr
    · have a := jm_stp_mono h1
      have b := ih h2
      omega
    · have a := ih hrun
      rcases hgo with ⟨v, -, h2⟩ | ⟨E, -, -, ⟨hp, -, h2⟩ | ⟨-, rfl⟩⟩
      · have b := ih h2
        dsimp only at a
        omega
      · have b := ih h2
        dsimp only at a
        omega
      · exact a
    · exact ⟨Nat.le_succ _, Nat.le_add_right _ _⟩
    · exact ⟨Nat.le_refl _, Nat.le_refl _⟩
