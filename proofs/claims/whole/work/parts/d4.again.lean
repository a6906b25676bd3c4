/-! THE SOUNDNESS OF A RUN once more (after 12-17): of a throw's words the 'declares' come from two others -/
theorem wx_decl {x : MethodName} {bytes : ByteArray} {maxL : Nat} {ret : Option FieldType} {args : Array Value} {s : State} (h1 : (Cond.instanceMethod x).before args s = true) (h2 : (Cond.code x bytes maxL ret).before args s = true) : (Cond.declares x).before args s = true := by
  obtain ⟨m, meth, hn, hm, hst, -⟩ := Cond.instanceMethod_spec h1
  obtain ⟨meth', c, hm', -, -, -, -, -, -, hs⟩ := Cond.code_spec hn h2
  cases Option.some.inj (hm.symm.trans hm')
  simp [Cond.before, Cond.holds, Cond.value, hn, hm, hst, hs]
def jy_thr (tx : List String) (M : jm_M) (e : jm_I) : Prop := ∃ (ik is ic j k ix : Nat) (rx : ByteArray) (text : String), e.2.2.2.1 = 2000 + k ∧ k < 2 ∧ decode M.2.1 e.1 = .ok (.new ik, 3) ∧ decode M.2.1 (e.1 + 3) = .ok (.dup, 1) ∧ decode M.2.1 (e.1 + 4) = .ok (.ldc_w is, 3) ∧ decode M.2.1 (e.1 + 7) = .ok (.invokespecial ic, 3) ∧ decode M.2.1 (e.1 + 10) = .ok (.athrow, 1) ∧ tx[j]? = some text ∧ Cond.stringRef M.1.cls is text ∈ lw_tbl ∧ Cond.classLink M.1.cls ik (jr_exn k) ∈ jr_T ∧ Cond.initialized (jr_exn k) ∈ jr_T ∧
  (decode rx 0 = .ok (.aload_n 0, 1) ∧ decode rx 1 = .ok (.aload_n 1, 1) ∧ decode rx 2 = .ok (.invokespecial ix, 3) ∧ decode rx 5 = .ok (.return_, 1)) ∧ (∀ w ∈ wx_at M.1.cls ic (jr_exn k) ix rx, w ∈ jr_T ∨ w = Cond.castable (jr_exn k) (jr_exn k) ∨ ∃ (x : MethodName) (bytes : ByteArray) (maxL : Nat) (ret : Option FieldType), w = Cond.declares x ∧ Cond.instanceMethod x ∈ jr_T ∧ Cond.code x bytes maxL ret ∈ jr_T) ∧ (∀ w ∈ Cond.classLink M.1.cls ik (jr_exn k) :: Cond.initialized (jr_exn k) :: wx_at M.1.cls ic (jr_exn k) ix rx, vx_ot w = true) ∧ Bundle.fit (jr_exn k) = true
def jy_okW (cl : List vw_C) (tx : List String) (tb : List jm_M) (M : jm_M) : Prop :=
  ∃ Wd : List Cond, (∀ w ∈ Wd, w ∈ lw_tbl) ∧ ∀ e ∈ M.2.2.2.2.2.2, jm_okb cl tx tb Wd M.1.cls M.1.name M.2.1 M.2.2.1 e = true ∧ jm_okr M e = true ∧ (jm_kind e = 6 → jy_thr tx M e)
def jy_okM (cl : List vw_C) (tx : List String) (tb : List jm_M) (M : jm_M) : Prop :=
  jy_okW cl tx tb M ∧
  (plainName M.1.cls = true ∧ M.1.cls ≠ "java/lang/invoke/MethodHandle" ∧ M.1.cls ≠ "java/lang/invoke/VarHandle") ∧ Cond.initialized M.1.cls ∈ jr_T ∧ M.2.2.1 ≤ 100 ∧
  ((M.2.2.2.2.1 = [] ∧ Cond.code M.1 M.2.1 M.2.2.1 M.2.2.2.1 ∈ jr_T) ∨ (M.2.2.2.2.1 ≠ [] ∧ ∃ hh, Cond.codeWith M.1 M.2.1 M.2.2.1 M.2.2.2.1 hh ∈ jr_T ∧ jr_hh M.1.cls M.2.2.2.2.1 hh)) ∧
  ((Cond.static M.1 ∈ jr_T ∧ jm_pn M = some M.2.2.2.2.2.1) ∨ (Cond.instanceMethod M.1 ∈ jr_T ∧ (M.1.name = "<init>" ∨ Cond.selects M.1.cls M.1 M.1 ∈ jr_T) ∧ (jm_pn M).map (· + 1) = some M.2.2.2.2.2.1)) ∧ (M.1.name = "<init>" → M.2.2.2.1 = none)
def jy_Walk (G : jm_G) (tb : List jm_M) (cl : List vw_C) (tx : List String) (l : Launch) (n : Nat) : Prop :=
  ∀ (d : Nat) (M : jm_M) (pc : Nat) (L : jm_L) (st : List Value) (h : jm_H) (o : jm_O) (h' : jm_H), jy_okW cl tx tb M → jm_run G tb n d M pc L st h = some (o, h') →
  ∀ (p : Program) (e : Env) (R : Room) (s : State) (m : MethodId) (args : Array Value) (below : List Frame) (meth : Method) (c : Code) (H : Heap) (locs : List Loc) (cells slots : Nat) (Q : State → Prop) (ls : Array Slot) (S : List Value) (D : va_G) (A : Nat → Prop) (tys : List (ClassId × FieldType)) (ws : va_W) (b : Nat) (sa : Nat → Nat),
  jr_E p c M.2.1 M.2.2.1 s args M.1.cls M.1.name m meth R → (10 + d ≤ R.frames ∧ 300 + 120 * d ≤ R.locals) → jr_K tx G.2.1 b G.2.2.1 G.2.2.2 sa A s → jx_Ok M c → jr_I D cl A b sa s h H locs ws tys → jr_L b sa ws L ls M.2.2.1 → jr_S b sa ws st S → (cells + h'.2.1 ≤ R.cells + h.2.1 ∧ slots + h'.2.2 ≤ R.slots + h.2.2) →
  jx_End p l e R s m args below meth c D cl A M.2.2.1 b sa ws tys h cells slots Q M o h' → jx_Thr p l e R s m args below meth c D cl A M.2.2.1 b sa ws tys h cells slots Q M o h' → jx_Esc p l e R s m args below meth c D cl A b sa ws tys h cells slots Q M o h' →
  W p l e R s m args below meth c H locs cells slots Q (F0 m pc ls S)

theorem jy_code {cl : List vw_C} {tx : List String} {tb : List jm_M} {M : jm_M} (h : jy_okW cl tx tb M) {ee : jm_I} (he : ee ∈ M.2.2.2.2.2.2) : decode M.2.1 ee.1 = .ok (ee.2.1, ee.2.2.1 - ee.1) ∧ ee.2.2.1 = ee.1 + jm_il ee.2.1 (ee.2.2.1 - ee.1) ∧ (ee.2.2.2.2.2.2.2.2 = [] ∨ ee.2.2.2.2.2.2.2.2.length = M.2.2.1) := by
  obtain ⟨Wd, -, h2⟩ := h
  have h3 := (h2 ee he).1
  obtain ⟨pc, i, np, x, y, z, w, v, bs⟩ := ee
  simp only [jm_okb, Bool.and_eq_true, decide_eq_true_eq] at h3
  exact ⟨h3.1, h3.2.1, h3.2.2.1⟩
section JB
variable {p : Program} {l : Launch} {e : Env} {R : Room} {s : State} {m : MethodId} {args : Array Value} {below : List Frame} {meth : Method} {c : Code} {H : Heap} {locs : List Loc} {mc ms : Nat} {D : va_G} {cl : List vw_C} {b : Nat} {sa : Nat → Nat} {ws ws' : va_W} {tys tys' : List (ClassId × FieldType)} {o : jm_O} {h' : jm_H} {M : jm_M} {tx : List String} {tb : List jm_M} {ls : Array Slot} {S : List Value} {sz : Nat}
theorem jy_rets (hx : p.tables.exec = Jvm.exec) (hb : c.code = M.2.1) (hr : meth.sig.returnType = M.2.2.2.1) (hlocks : meth.locks = false) (hok : jy_okM cl tx tb M) (hsz : s.heap.size = sz) {ee : jm_I} {v : Option Value} {st' : List Value} (hee : ee ∈ M.2.2.2.2.2.2) (hret : jm_ret (jm_rz M.2.2.2.1) (jm_kind ee) st' = some v) (ho : o = .inl v)
    (h1 : jr_le ws ws') (h2 : ∀ t ∈ tys, t ∈ tys') (hI : jr_I D cl (va_A ws sz) b sa s h' H locs ws' tys') (hS : jr_S b sa ws' st' S) : W p l e R s m args below meth c H locs mc ms (vx_MQ below (jx_Q D cl b sa ws tys sz o h') (jx_X D cl b sa ws tys sz o h') args s mc ms (va_A ws sz)) (F0 m ee.1 ls S) := by
  obtain ⟨hd0, hnp, -⟩ := jy_code hok.1 hee
  have hokr := (hok.1.choose_spec.2 ee hee).2.1
  have hlocs := hI.2.2.2.1.2.2
  obtain ⟨pc, i, np, x, y, z, w, u, bs⟩ := ee
  refine vx_ret ?_
  have hi : i = .return_ ∨ i = .ireturn ∨ i = .lreturn ∨ i = .areturn := by
    cases i <;> simp only [jm_kind] at hret <;> first
      | exact Or.inl rfl
      | exact Or.inr (Or.inl rfl)
      | exact Or.inr (Or.inr (Or.inl rfl))
      | exact Or.inr (Or.inr (Or.inr rfl))
      | (simp [jm_ret] at hret; done)
      | (split at hret <;> simp [jm_ret] at hret; done)
  have hnp1 : np = pc + 1 := by rcases hi with rfl | rfl | rfl | rfl <;> exact hnp
  have hd : decode M.2.1 pc = .ok (i, 1) := by
    have e1 : np - pc = 1 := by omega
    rw [← e1]; exact hd0
  rcases hi with rfl | rfl | rfl | rfl
  · have hret : jm_ret (jm_rz M.2.2.2.1) 1 st' = some v := hret
    unfold jm_ret at hret
    split at hret <;> first | contradiction | skip
    cases hret
    cases S with
    | cons => exact hS.elim
    | nil =>
      have hrn : M.2.2.2.1 = none := of_decide_eq_true hokr
      exact W.vret hx hb (hr.trans hrn) (fun t ht hW => by
        obtain ⟨g1, g2⟩ := jx_back hsz h1 h2 hI ht hW.alike
        exact ⟨⟨none, none, ws', ho, rfl, trivial, g1⟩, g2⟩) hlocs hd hlocks
  · have hret : jm_ret (jm_rz M.2.2.2.1) 2 st' = some v := hret
    unfold jm_ret at hret
    split at hret <;> first | contradiction | skip
    rename_i x0 _ _
    split at hret
    next hc =>
      cases hret
      obtain ⟨R0, rfl, hS0⟩ := jr_S_i hS
      cases R0 with
      | cons => exact hS0.elim
      | nil =>
      have hq : ∀ t : State, t.heap = H → s.WarmedH t.vm → jx_Q D cl b sa ws tys sz o h' args s (.returned (some (.int x0))) t := fun t ht hW => by
        obtain ⟨g1, g2⟩ := jx_back hsz h1 h2 hI ht hW.alike
        exact ⟨⟨some (.int x0), some (.int x0), ws', ho, rfl, ⟨rfl, trivial⟩, g1⟩, g2⟩
      have hrr : jm_rz M.2.2.2.1 < 4 := of_decide_eq_true hokr
      cases hM : M.2.2.2.1 with
      | none => rw [hM] at hrr; exact absurd hrr (by decide)
      | some ty =>
        rw [hM] at hrr hc hr
        have hn : narrow ty (.int x0) = .int x0 := by
          cases ty <;> simp only [jm_rz] at hc hrr <;> first
            | (exfalso; revert hrr; decide)
            | rfl
            | (rcases hc with h | h | h | h <;> first | (exfalso; revert h; decide) | (obtain ⟨h9, h | h⟩ := h <;> subst h <;> first | rfl | (exfalso; revert h9; decide)) | (obtain ⟨h9, h⟩ := h; first | exact h | (subst h; rfl) | (exfalso; revert h9; decide)))
            | skip
        exact W.zret hx hb hr hn hq hlocs hd hlocks
    next => cases hret
  · have hret : jm_ret (jm_rz M.2.2.2.1) 3 st' = some v := hret
    unfold jm_ret at hret
    split at hret <;> first | contradiction | skip
    rename_i x0 _ _
    cases hret
    obtain ⟨R0, rfl, hS0⟩ := jr_S_l hS
    cases R0 with
    | cons => exact hS0.elim
    | nil =>
      have hrn : M.2.2.2.1 = some .long := of_decide_eq_true hokr
      exact W.lret hx hb (hr.trans hrn) (fun t ht hW => by
        obtain ⟨g1, g2⟩ := jx_back hsz h1 h2 hI ht hW.alike
        exact ⟨⟨some (.long x0), some (.long x0), ws', ho, rfl, ⟨rfl, trivial⟩, g1⟩, g2⟩) hlocs hd hlocks
  · have hret : jm_ret (jm_rz M.2.2.2.1) 4 st' = some v := hret
    unfold jm_ret at hret
    split at hret <;> first | contradiction | skip
    rename_i x0 _ _
    cases hret
    obtain ⟨w0, R0, hw0, rfl, hS0⟩ := jr_S_r hS
    cases R0 with
    | cons => exact hS0.elim
    | nil =>
      simp only [jm_okr] at hokr
      cases hM : M.2.2.2.1 with
      | none => rw [hM] at hokr; cases hokr
      | some ty =>
        rw [hM] at hokr hr
        have hrt : (∃ n, ty = .object n) ∨ ∃ t, ty = .array t := by
          cases ty <;> first | exact Or.inl ⟨_, rfl⟩ | exact Or.inr ⟨_, rfl⟩ | cases hokr
        exact W.aret hx hb hr hrt (Or.inr ⟨_, rfl⟩) (fun t ht hW => by
          obtain ⟨g1, g2⟩ := jx_back hsz h1 h2 hI ht hW.alike
          exact ⟨⟨some (.ref x0), some (.ref w0.1), ws', ho, rfl, ⟨⟨w0, hw0, rfl⟩, trivial⟩, g1⟩, g2⟩) hlocs hd hlocks
theorem jy_throws {G : jm_G} {A0 : Nat → Prop} (hx : p.tables.exec = Jvm.exec) (hb : c.code = M.2.1) (hl : l.stackTraces = false) (hlocks : meth.locks = false) (hE : jr_E p c M.2.1 M.2.2.1 s args M.1.cls M.1.name m meth R) (hK : jr_K tx G.2.1 b G.2.2.1 G.2.2.2 sa (va_A ws sz) s) (hok : jy_okM cl tx tb M) (hXt : ∀ x ∈ c.exceptionTable.toList, False) (hsz : s.heap.size = sz) {ee : jm_I} {h1 : jm_H} (hee : ee ∈ M.2.2.2.2.2.2) (hk6 : jm_kind ee = 6) (ho : o = .inr (ee.2.2.2.1 - 2000)) (hh : h' = (h1.1, h1.2.1 + 1, h1.2.2 + 6))
    (g1 : jr_le ws ws') (g2 : ∀ t ∈ tys, t ∈ tys') (hI : jr_I D cl (va_A ws sz) b sa s h1 H locs ws' tys') {cells slots : Nat} (hls : ls.size = M.2.2.1) (hc : cells + 1 = mc) (hs : slots + 6 = ms) (hRc : mc ≤ R.cells) (hRs : ms ≤ R.slots) : W p l e R s m args below meth c H locs cells slots (vx_MQ below (jx_Q D cl b sa ws tys sz o h') (jx_X D cl b sa ws tys sz o h') args s mc ms (va_A ws sz)) (F0 m ee.1 ls []) := by
  obtain ⟨ik, is, ic, j, k, ix, rx, text, e1, hk2, d0, d3, d4, d7, d10, htx, hstr, hlk, hini, ⟨x0, x1, x2, x5⟩, hat, hgood, hfit⟩ := (hok.1.choose_spec.2 ee hee).2.2 hk6
  obtain ⟨-, -, hml, hts, hown, hnm, hRf, hRl⟩ := hE
  obtain ⟨hKA, -, hKs, -, -, ⟨hU, hN⟩, -, hCa, hCb, -⟩ := hK
  obtain ⟨hI1, hI2, hI3, hI4, hI5⟩ := hI
  have hat' : ∀ w ∈ wx_at M.1.cls ic (jr_exn k) ix rx, w.before args s = true := fun w hw => by
    rcases hat w hw with h | h | ⟨x9, bytes9, maxL9, ret9, rfl, h8, h9⟩
    · exact hts w h
    · subst h
      have : k = 0 ∨ k = 1 := by omega
      rcases this with rfl | rfl
      · exact hCa.use
      · exact hCb.use
    · exact wx_decl (hts _ h8) (hts _ h9)
  refine wx_throwSW (cls := jr_exn k) (text := text) (sa := sa j) (own := M.1.cls) hx hb hl x0 x1 x2 x5 hown hfit (hts _ hlk) (hts _ hini) (hKs _ _ _ _ hstr htx) hat' hgood hU hN hI4 (by rw [hls, hml]) d0 d3 d4 d7 d10 (fun x hx => (hXt x hx).elim) (by show 5 < R.frames; omega) (by show ([] : List Value).map (fun v => v.category) |>.sum |> (· + 82) |> (· ≤ R.locals); show 0 + 82 ≤ R.locals; omega) (by omega) (by omega) hlocks (fun t hvm hz hq => ?_) hI4.2.2 (by omega) (by omega)
  refine ⟨⟨k, ws', by rw [ho, e1, Nat.add_sub_cancel_left], rfl, tys', g1, g2, va_K.moved hvm hI1, hI2.same hq, hI3, by rw [hh]; exact ⟨hI5.1, hI5.2⟩⟩, Nat.le_trans hI4.1 hz, fun q hq1 hq2 => ?_⟩
  rw [hq q (Nat.lt_of_lt_of_le hq1 hI4.1)]
  exact hI4.2.1 q hq1 hq2
end JB
section JV1
variable {G : jm_G} {tb : List jm_M} {cl : List vw_C} {tx : List String} {l : Launch} {n : Nat}
theorem jy_body (hWk : jy_Walk G tb cl tx l n) (hl : l.stackTraces = false) (hT : ∀ M ∈ tb, jy_okM cl tx tb M) {d : Nat} {M : jm_M} {vs : List Value} {h : jm_H} {o : jm_O} {h' : jm_H} (hM : M ∈ tb) (hrun : jm_run G tb n d M 0 (jm_ent vs M.2.2.1) [] h = some (o, h')) (hlen : (jm_lay vs).length ≤ M.2.2.1)
    {D : va_G} {tys : List (ClassId × FieldType)} {ws : va_W} {b : Nat} {sa : Nat → Nat} {sz : Nat} {As : List Value} (hvs : jr_S b sa ws vs As) (hH : jr_H b sa ws tys h) {w0 : Cond} {mc ms : Nat} (hmc : h'.2.1 = h.2.1 + mc) (hms : h'.2.2 = h.2.2 + ms)
    {p : Program} {e : Env} {s : State} {m : MethodId} {args : Array Value} {below : List Frame} {meth : Method} {c : Code} {s₁ : State} (B : BodyLoose p l M.1 (headSpec (w0 :: jr_T) (jr_rm d mc ms)) M.2.1 M.2.2.1 M.2.2.2.1 e s m args below meth c s₁) (hml : c.maxLocals = M.2.2.1) (hok : jx_Ok M c) (hv : jx_P D cl tx G.2.1 b G.2.2.1 G.2.2.2 sa ws tys sz As args s) :
    W p l e (headSpec (w0 :: jr_T) (jr_rm d mc ms)).room s m args below meth c s.heap [] 0 0 (vx_MQ below (jx_Q D cl b sa ws tys sz o h') (jx_X D cl b sa ws tys sz o h') args s mc ms (va_A ws sz)) (entryFrame m args M.2.2.1) := by
  obtain ⟨rfl, hsz, hK, hP, hD0, hKK⟩ := hv
  have hts := atoms_spec (ws := w0 :: jr_T) B.pre
  have hE : jr_E p c M.2.1 M.2.2.1 s As.toArray M.1.cls M.1.name m meth (jr_rm d mc ms) := ⟨B.exec, B.bytes, hml, fun w hw => hts w (List.mem_cons_of_mem _ hw), findClass_of_methodNamed B.named, (name_of_methodNamed B.named B.method).1, by show 10 ≤ 10 + d; omega, by show 300 ≤ 300 + 120 * d; omega⟩
  have hoM := hT M hM
  rw [lg_entry_eq]
  have hI : jr_I D cl (va_A ws sz) b sa s h s.heap [] ws tys := ⟨hK, hP, by rw [← hsz]; exact (hD0.self (sz := s.heap.size)), va_S.rf, hH⟩
  refine hWk d M 0 (jm_ent vs M.2.2.1) [] h o h' (hT M hM).1 hrun p e (jr_rm d mc ms) s m As.toArray below meth c s.heap [] 0 0 _ _ [] D (va_A ws sz) tys ws b sa hE ⟨Nat.le_refl _, Nat.le_refl _⟩ hKK hok hI (jr_ent hvs hlen) trivial ⟨by show 0 + h'.2.1 ≤ mc + h.2.1; omega, by show 0 + h'.2.2 ≤ ms + h.2.2; omega⟩ ?_ ?_ ?_
  · intro ee v st' hee hret ho ws' tys' H' locs' ls' S' cells' slots' g1 g2 hI' hls hS' hc hs
    have e1 : cells' = mc := by omega
    have e2 : slots' = ms := by omega
    subst e1; subst e2
    exact jy_rets B.exec B.bytes B.returns B.notSynchronized hoM hsz hee hret ho g1 g2 hI' hS'
  · intro ee h1 hee hk6 hM0 ho hh ws' tys' H' locs' ls' cells' slots' g1 g2 hI' hls hc hs
    have hX : ∀ x ∈ c.exceptionTable.toList, False := by
      rcases hok with h9 | h9
      · exact h9.2
      · exact absurd hM0 h9.1
    exact jy_throws (G := G) (A0 := fun _ => True) B.exec B.bytes hl B.notSynchronized hE hKK hoM hX hsz hee hk6 ho hh g1 g2 hI' hls (by omega) (by omega) (Nat.le_refl _) (Nat.le_refl _)
  · intro E hM0 ho ws' tys' H' locs' ls' pc' rest cells' slots' q9 ce g1 g2 hI' hc hs hce hcv hcl
    have hX : ∀ x ∈ c.exceptionTable.toList, False := by
      rcases hok with h9 | h9
      · exact h9.2
      · exact absurd hM0 h9.1
    refine vx_outP (own := M.1.cls) hE.2.2.2.2.1 B.notSynchronized (fun z hz => (hX z hz).elim) hce hcv hcl (fun t ht hvm => ?_) hI'.2.2.2.1.2.2 (by omega) (by omega)
    obtain ⟨k1, k2⟩ := jx_back hsz g1 g2 hI' ht hvm
    exact ⟨⟨E, ws', ho, rfl, k1⟩, k2⟩
theorem jy_metx (hWk : jy_Walk G tb cl tx l n) (hl : l.stackTraces = false) (hT : ∀ M ∈ tb, jy_okM cl tx tb M) {d : Nat} {M : jm_M} {vs : List Value} {h : jm_H} {o : jm_O} {h' : jm_H} (hM : M ∈ tb) (hrun : jm_run G tb n d M 0 (jm_ent vs M.2.2.1) [] h = some (o, h')) (hlen : (jm_lay vs).length ≤ M.2.2.1)
    {D : va_G} {tys : List (ClassId × FieldType)} {ws : va_W} {b : Nat} {sa : Nat → Nat} {sz : Nat} {As : List Value} (hvs : jr_S b sa ws vs As) (hH : jr_H b sa ws tys h) {mc ms : Nat} (hmc : h'.2.1 = h.2.1 + mc) (hms : h'.2.2 = h.2.2 + ms) (hhs : M.2.2.2.2.1 = []) :
    vx_Met l M.1 (Cond.code M.1 M.2.1 M.2.2.1 M.2.2.2.1 :: jr_T) (jr_rm d mc ms) (jx_P D cl tx G.2.1 b G.2.2.1 G.2.2.2 sa ws tys sz As) (jx_Q D cl b sa ws tys sz o h') (jx_X D cl b sa ws tys sz o h') mc ms (va_A ws sz) :=
  vx_ofW (hT M hM).2.1.1 rfl (fun _ _ _ _ _ _ _ _ _ B hml hX hv => jy_body hWk hl hT hM hrun hlen hvs hH hmc hms B hml (Or.inl ⟨hhs, hX⟩) hv)
theorem jy_meth (hWk : jy_Walk G tb cl tx l n) (hl : l.stackTraces = false) (hT : ∀ M ∈ tb, jy_okM cl tx tb M) {d : Nat} {M : jm_M} {vs : List Value} {h : jm_H} {o : jm_O} {h' : jm_H} (hM : M ∈ tb) (hrun : jm_run G tb n d M 0 (jm_ent vs M.2.2.1) [] h = some (o, h')) (hlen : (jm_lay vs).length ≤ M.2.2.1)
    {D : va_G} {tys : List (ClassId × FieldType)} {ws : va_W} {b : Nat} {sa : Nat → Nat} {sz : Nat} {As : List Value} (hvs : jr_S b sa ws vs As) (hH : jr_H b sa ws tys h) {mc ms : Nat} (hmc : h'.2.1 = h.2.1 + mc) (hms : h'.2.2 = h.2.2 + ms) {hh : List (Nat × Nat × Nat × Nat)} (hhs : M.2.2.2.2.1 ≠ []) (hhh : jr_hh M.1.cls M.2.2.2.2.1 hh) :
    vx_Met l M.1 (Cond.codeWith M.1 M.2.1 M.2.2.1 M.2.2.2.1 hh :: jr_T) (jr_rm d mc ms) (jx_P D cl tx G.2.1 b G.2.2.1 G.2.2.2 sa ws tys sz As) (jx_Q D cl b sa ws tys sz o h') (jx_X D cl b sa ws tys sz o h') mc ms (va_A ws sz) :=
  vx_ofWH (hT M hM).2.1.1 rfl (fun _ _ _ _ _ _ _ _ _ B hml hv => jy_body hWk hl hT hM hrun hlen hvs hH hmc hms B hml (Or.inr ⟨hhs, hh, vx_table (x := M.1) B (atoms_spec (ws := Cond.codeWith M.1 M.2.1 M.2.2.1 M.2.2.2.1 hh :: jr_T) B.pre _ List.mem_cons_self), hhh⟩) hv)
end JV1
section JV2
variable {G : jm_G} {tb : List jm_M} {cl : List vw_C} {tx : List String} {l : Launch} {n : Nat}
theorem jy_runs (hWk : jy_Walk G tb cl tx l n) (hl : l.stackTraces = false) (hT : ∀ M ∈ tb, jy_okM cl tx tb M) (hcl50 : cl[50]? = none) (hC : jr_cls cl G)
    {p : Program} {e : Env} {R : Room} {s : State} {m : MethodId} {args : Array Value} {below : List Frame} {meth : Method} {c : Code} {H : Heap} {locs : List Loc} {cells slots : Nat} {ls : Array Slot} {S : List Value} {D : va_G} {A : Nat → Prop} {tys : List (ClassId × FieldType)} {ws : va_W} {b : Nat} {sa : Nat → Nat}
    {M : jm_M} {ee : jm_I} (hok : jy_okW cl tx tb M) (hee : ee ∈ M.2.2.2.2.2.2) (hk5 : jm_kind ee = 5) {d : Nat} {M' : jm_M} {st : List Value} {L : jm_L} {h : jm_H} {o : jm_O} {h1 : jm_H} (htb : tb[ee.2.2.2.1]? = some M') (c1 : M'.2.2.2.2.2.1 ≤ st.length) (c2 : jm_rcv G h ee.2.1 ee.2.2.2.2.2.1 (st.take M'.2.2.2.2.2.1).reverse = true) (c3 : jm_lt (st.drop M'.2.2.2.2.2.1) = true) (c4 : (jm_lay (st.take M'.2.2.2.2.2.1).reverse).length ≤ M'.2.2.1)
    (hrun : jm_run G tb n d M' 0 (jm_ent (st.take M'.2.2.2.2.2.1).reverse M'.2.2.1) [] h = some (o, h1))
    (hE : jr_E p c M.2.1 M.2.2.1 s args M.1.cls M.1.name m meth R) (hR : 10 + (d + 1) ≤ R.frames ∧ 300 + 120 * (d + 1) ≤ R.locals) (hK : jr_K tx G.2.1 b G.2.2.1 G.2.2.2 sa A s) (hI : jr_I D cl A b sa s h H locs ws tys) (hL : ls.size = M.2.2.1) (hS : jr_S b sa ws st S) {mc ms : Nat} (hmc : h1.2.1 = h.2.1 + mc) (hms : h1.2.2 = h.2.2 + ms) (hroom : cells + mc ≤ R.cells ∧ slots + ms ≤ R.slots) (hsp : jm_sp ee.2.1 = true → ∃ v, o = .inl v) :
    (jm_sp ee.2.1 = true ∧ va_Run p l e R s m args below meth c H locs cells slots mc ms (F0 m ee.1 ls S) (S.drop M'.2.2.2.2.2.1) (jx_Q D cl b sa ws tys H.size o h1 (S.take M'.2.2.2.2.2.1).reverse.toArray) (va_A ws H.size)) ∨
    (vx_Run p l e R s m args below meth c H locs cells slots mc ms (F0 m ee.1 ls S) (S.drop M'.2.2.2.2.2.1) (jx_Q D cl b sa ws tys H.size o h1 (S.take M'.2.2.2.2.2.1).reverse.toArray) (jx_X D cl b sa ws tys H.size o h1) (va_A ws H.size)) := by
  have hM' : M' ∈ tb := List.mem_of_getElem? htb
  have hok' := hT M' hM'
  obtain ⟨hd0, hnp, -⟩ := jy_code hok hee
  obtain ⟨Wd, hWd, hall⟩ := id hok
  have hokb := (hall ee hee).1
  obtain ⟨hx, hb, hml, hts, hown, hnm, hRf, hRl⟩ := hE
  obtain ⟨t1, t2, t3, t4⟩ := jr_take hS c1
  have hw8 : (((S.drop M'.2.2.2.2.2.1).map fun v => v.category)).sum ≤ 8 := by
    rw [jr_S_w t4]; exact of_decide_eq_true c3
  have hW8 : 2 * (F0 m ee.1 ls S).monitorRoom + (((S.drop M'.2.2.2.2.2.1).map fun v => v.category)).sum ≤ 8 := by
    show 2 * 0 + _ ≤ 8
    omega
  have hfix : CallFix p m c M.2.1 M.2.2.1 s args jr_T M.1.cls := ⟨hx, hb, hml, hown, hts⟩
  obtain ⟨hI1, hI2, hI3, hI4, hI5⟩ := id hI
  have hpre : ∀ U : State, U.heap = H → s.WarmedH U.vm → jx_P D cl tx G.2.1 b G.2.2.1 G.2.2.2 sa ws tys H.size (S.take M'.2.2.2.2.2.1).reverse (S.take M'.2.2.2.2.2.1).reverse.toArray U := fun U hU hW =>
    ⟨rfl, by rw [hU], va_K.moved hW.alike hI1, by rw [hU]; exact hI2, jx_trueD hI3, hK.next hI4 hI3 hW hU⟩
  obtain ⟨-, ⟨hpl, hmh, hvh⟩, hini, hL100, htabs, hkinds, hvoid⟩ := hok'
  have hRd : (jr_rm d mc ms).frames + 1 ≤ R.frames ∧ 8 + (M'.2.2.1 + 11) + (jr_rm d mc ms).locals ≤ R.locals := ⟨by show 10 + d + 1 ≤ _; omega, by show 8 + (M'.2.2.1 + 11) + (300 + 120 * d) ≤ _; omega⟩
  have hst9 : (F0 m ee.1 ls S).stack = (S.take M'.2.2.2.2.2.1).reverse.reverse ++ S.drop M'.2.2.2.2.2.1 := t1
  rcases jm_kind5 hk5 with ⟨idx, hi⟩ | ⟨idx, hi⟩ | ⟨idx, hi⟩
  · -- invokevirtual
    right
    obtain ⟨pc, i, np, x, y, z, w, u, bs⟩ := ee
    dsimp only at hi
    subst hi
    dsimp only at htb c2 hst9 hd0 hnp ⊢
    have hd : decode M.2.1 pc = .ok (.invokevirtual idx, 3) := by
      have e1 : np - pc = 3 := by simp only [jm_il] at hnp; omega
      rw [← e1]; exact hd0
    simp only [jm_okb, Bool.and_eq_true, decide_eq_true_eq, htb] at hokb
    obtain ⟨-, -, -, q1, q2, q3, q4, q5⟩ := hokb
    have hmi : M'.2.2.2.1 = M'.2.2.2.1 := rfl
    have hcode : Cond.code M'.1 M'.2.1 M'.2.2.1 M'.2.2.2.1 ∈ jr_T := by
      rcases htabs with h9 | h9
      · exact h9.2
      · exact absurd q4 h9.1
    have hpn : jm_pn M' ≠ some M'.2.2.2.2.2.1 := fun h9 => by
      rw [h9] at q5
      simp at q5
    obtain ⟨hin, hsel, -⟩ : Cond.instanceMethod M'.1 ∈ jr_T ∧ Cond.selects M'.1.cls M'.1 M'.1 ∈ jr_T ∧ True := by
      rcases hkinds with h9 | h9
      · exact absurd h9.2 hpn
      · exact ⟨h9.1, h9.2.1.resolve_left q3, trivial⟩
    obtain ⟨b', As', hAs, hrecv⟩ : ∃ (b' : Nat) (As' : List Value), (S.take M'.2.2.2.2.2.1).reverse = .ref b' :: As' ∧ ∃ cellB : Cell, H[b']? = some cellB ∧ cellB.vm.isStatics = false ∧ s.vm.findClass M'.1.cls = some cellB.cls := by
      unfold jm_rcv at c2
      generalize (st.take M'.2.2.2.2.2.1).reverse = vs at c2 t3
      generalize (S.take M'.2.2.2.2.2.1).reverse = As at t3
      dsimp only at c2
      split at c2
      next a r =>
        split at c2
        next c0 fs0 ha =>
          have c2 := of_decide_eq_true c2
          subst c2
          obtain ⟨w1, R1, hw1, rfl, -⟩ := jr_S_r t3
          obtain ⟨Fs, hw2, -⟩ := hI5.obj ha hw1
          obtain ⟨a1, e1⟩ := w1
          dsimp only at hw2
          cases hw2
          obtain ⟨q', hq', -⟩ := hI2 _ _ hw1
          have hz : ¬ c0 = 50 := fun h9 => by rw [h9, hcl50] at hq'; cases hq'
          rw [if_neg hz, hq'] at q2
          have e9 : q'.1 = M'.1.cls := Option.some.inj q2
          refine ⟨a1, R1, rfl, ?_⟩
          rw [← e9]
          exact va_recv hI1 hI2 hq' hw1
        next => cases c2
      next kk r =>
        have c2 := of_decide_eq_true c2
        obtain ⟨rfl, hk2⟩ := c2
        rw [if_pos rfl] at q2
        obtain ⟨V, R1, rfl, hV, -⟩ := jr_S_c t3
        have hV : V = .ref (sa kk) := hV
        subst hV
        refine ⟨_, R1, rfl, ?_⟩
        rw [q2]
        exact vk_recv hK.2.2.2.1 hk2 hI4
      next => cases c2
    rw [hAs] at hpre hst9 t2 t3 ⊢
    have hlk : Cond.methodLink M.1.cls idx M'.1 ∈ jr_T := jr_g (hWd _ (List.mem_of_getElem? q1)) rfl
    have hn' : (parseMethodDescriptor M'.1.desc).map (fun d => d.parameters.length) = some As'.length := by
      have q5' : (jm_pn M').map (· + 1) = some (As'.length + 1) := by rw [q5, ← t2]; rfl
      obtain ⟨k9, e8, e9⟩ := Option.map_eq_some_iff.mp q5'
      have e10 : k9 = As'.length := by simpa using e9
      rw [← e10]; exact e8
    have hst10 : (F0 m pc ls S).stack = As'.reverse ++ .ref b' :: S.drop M'.2.2.2.2.2.1 := hst9.trans (by simp)
    refine vx_runV (C := M'.1.cls) (As := As') (b := b') hfix (jy_metx hWk hl hT hM' hrun c4 t3 hI5 hmc hms q4) (cwV As'.length hts (jr_good fun w hw => ?_) rfl rfl rfl ⟨rfl, hmh, hvh, hn'⟩ hRd) ⟨jx_P_blind, hrecv, hpre⟩ rfl rfl hL hst10 hW8 hd hroom
    simp only [wsV, List.mem_append, List.mem_cons, List.not_mem_nil, or_false] at hw
    rcases hw with (rfl | rfl | rfl | rfl) | rfl | hw
    · exact hlk
    · exact hin
    · exact hsel
    · exact hini
    · exact hcode
    · exact hw
  · -- invokestatic
    right
    obtain ⟨pc, i, np, x, y, z, w, u, bs⟩ := ee
    dsimp only at hi
    subst hi
    dsimp only at htb c2 hst9 hd0 hnp hk5 ⊢
    have hd : decode M.2.1 pc = .ok (.invokestatic idx, 3) := by
      have e1 : np - pc = 3 := by simp only [jm_il] at hnp; omega
      rw [← e1]; exact hd0
    have hx1000 : x < 1000 := by
      simp only [jm_kind] at hk5
      split at hk5
      next h9 => exact h9
      next => exact absurd hk5 (by decide)
    simp only [jm_okb, Bool.and_eq_true, decide_eq_true_eq, htb] at hokb
    obtain ⟨-, -, -, hokb⟩ := hokb
    rw [if_neg (by omega), if_neg (by omega), if_neg (by omega), if_neg (by omega)] at hokb
    simp only [Bool.and_eq_true, decide_eq_true_eq] at hokb
    obtain ⟨q1, q5⟩ := hokb
    have hlk : Cond.methodLink M.1.cls idx M'.1 ∈ jr_T := jr_g (hWd _ (List.mem_of_getElem? q1)) rfl
    have hstat : Cond.static M'.1 ∈ jr_T := by
      rcases hkinds with h9 | h9
      · exact h9.1
      · have h9 := h9.2.2
        rw [q5] at h9
        simp at h9
    have hn' : (parseMethodDescriptor M'.1.desc).map (fun d => d.parameters.length) = some M'.2.2.2.2.2.1 := q5
    rcases htabs with ⟨hhs, hcode⟩ | ⟨hhs, hh, hcode, hhh⟩
    · refine vx_runS (As := (S.take M'.2.2.2.2.2.1).reverse) hfix (jy_metx hWk hl hT hM' hrun c4 t3 hI5 hmc hms hhs) (va_cwS M'.2.2.2.2.2.1 hts (jr_good fun w hw => ?_) rfl rfl rfl ⟨hmh, hvh, hn'⟩ hRd) ⟨jx_P_blind, hpre⟩ rfl t2 hL hst9 hW8 hd hroom
      simp only [va_wsS, List.mem_append, List.mem_cons, List.not_mem_nil, or_false] at hw
      rcases hw with (rfl | rfl | rfl) | rfl | hw
      · exact hlk
      · exact hstat
      · exact hini
      · exact hcode
      · exact hw
    · refine vx_runSX (As := (S.take M'.2.2.2.2.2.1).reverse) hfix (jy_meth hWk hl hT hM' hrun c4 t3 hI5 hmc hms hhs hhh) (vx_cwSW M'.2.2.2.2.2.1 hts (jr_good fun w hw => ?_) rfl rfl rfl ⟨hmh, hvh, hn'⟩ hRd) ⟨jx_P_blind, hpre⟩ rfl t2 hL hst9 hW8 hd hroom
      simp only [va_wsS, List.mem_append, List.mem_cons, List.not_mem_nil, or_false] at hw
      rcases hw with (rfl | rfl | rfl) | rfl | hw
      · exact hlk
      · exact hstat
      · exact hini
      · exact hcode
      · exact hw
  · -- invokespecial
    left
    obtain ⟨pc, i, np, x, y, z, w, u, bs⟩ := ee
    dsimp only at hi
    subst hi
    dsimp only at htb c2 hst9 hd0 hnp hk5 hsp ⊢
    refine ⟨rfl, ?_⟩
    obtain ⟨v9, ho⟩ := hsp rfl
    subst ho
    have hd : decode M.2.1 pc = .ok (.invokespecial idx, 3) := by
      have e1 : np - pc = 3 := by simp only [jm_il] at hnp; omega
      rw [← e1]; exact hd0
    have hx1000 : x < 1000 := by
      simp only [jm_kind] at hk5
      split at hk5
      next h9 => exact h9
      next => exact absurd hk5 (by decide)
    simp only [jm_okb, Bool.and_eq_true, decide_eq_true_eq, htb] at hokb
    obtain ⟨-, -, -, hokb⟩ := hokb
    rw [if_neg (by omega)] at hokb
    simp only [Bool.and_eq_true, decide_eq_true_eq] at hokb
    obtain ⟨q1, q3, q4, q5⟩ := hokb
    have hlk : Cond.methodLink M.1.cls idx M'.1 ∈ jr_T := jr_g (hWd _ (List.mem_of_getElem? q1)) rfl
    have hcode : Cond.code M'.1 M'.2.1 M'.2.2.1 M'.2.2.2.1 ∈ jr_T := by
      rcases htabs with h9 | h9
      · exact h9.2
      · exact absurd q4 h9.1
    have hin : Cond.instanceMethod M'.1 ∈ jr_T := by
      rcases hkinds with h9 | h9
      · have h9 := h9.2
        rw [h9] at q5
        simp at q5
      · exact h9.1
    have hn1 : (jm_pn M').map (· + 1) = some (S.take M'.2.2.2.2.2.1).reverse.length := by rw [q5, t2]
    obtain ⟨b', As', hAs⟩ : ∃ (b' : Nat) (As' : List Value), (S.take M'.2.2.2.2.2.1).reverse = .ref b' :: As' := by
      unfold jm_rcv at c2
      generalize (st.take M'.2.2.2.2.2.1).reverse = vs at c2 t3
      generalize (S.take M'.2.2.2.2.2.1).reverse = As at t3
      dsimp only at c2
      split at c2
      next a r =>
        obtain ⟨w1, R1, hw1, rfl, -⟩ := jr_S_r t3
        exact ⟨_, _, rfl⟩
      next => cases c2
    rw [hAs] at hpre hst9 t2 t3 hn1 ⊢
    have hn' : (parseMethodDescriptor M'.1.desc).map (fun d => d.parameters.length) = some As'.length := by
      obtain ⟨k9, e8, e9⟩ := Option.map_eq_some_iff.mp hn1
      have e10 : k9 = As'.length := by simpa using e9
      rw [← e10]; exact e8
    have hst10 : (F0 m pc ls S).stack = As'.reverse ++ .ref b' :: S.drop M'.2.2.2.2.2.1 := hst9.trans (by simp)
    have hv0 := hvoid q3
    have hmet := jx_metI (jy_metx hWk hl hT hM' hrun c4 t3 (D := D) (tx := tx) (sz := H.size) hI5 hmc hms q4)
    rw [hv0] at hmet hcode
    refine va_runI (As := As') (b := b') hfix hmet (cwI As'.length hts (jr_good fun w hw => ?_) rfl rfl rfl (hts _ hini) (hts _ hlk) (hts _ hin) q3 ⟨hmh, hvh, hn'⟩ hRd) ⟨jx_P_blind, hpre⟩ rfl rfl hL hst10 hW8 hd hroom
    simp only [List.mem_cons] at hw
    rcases hw with rfl | hw
    · exact hcode
    · exact hw
end JV2
section JV3
variable {G : jm_G} {tb : List jm_M} {cl : List vw_C} {tx : List String} {l : Launch}
set_option maxHeartbeats 4000000 in
theorem jy_walk (hC : jr_cls cl G) (hcl50 : cl[50]? = none) (hl : l.stackTraces = false) (hT : ∀ M ∈ tb, jy_okM cl tx tb M) : ∀ n, jy_Walk G tb cl tx l n := by
  intro n
  induction n with
  | zero => intro d M pc L st h o h' hok hrun; cases hrun
  | succ n ih =>
    intro d M pc L0 st h o h' hok hrun p e R s m args below meth c H locs cells slots Q ls S D A tys ws b sa hE hR hK hOk hI hL0 hS hroom kE kT kX
    obtain ⟨ee, L, hat, hLeq, hcase⟩ := jm_run_succ hrun
    obtain ⟨hee, hpc⟩ := jm_at_inv hat
    subst hpc
    obtain ⟨-, hnp, hmask⟩ := jy_code hok hee
    have hL : jr_L b sa ws L ls M.2.2.1 := by
      rw [hLeq]
      split
      next => exact hL0
      next h9 => exact hL0.masked (hmask.resolve_left h9)
    have go : ∀ (pc2 : Nat) (L2 : jm_L) (st2 : List Value) (h2 : jm_H), jm_run G tb n d M pc2 L2 st2 h2 = some (o, h') → ∀ (ws' : va_W) (tys' : List (ClassId × FieldType)) (H' : Heap) (locs' : List Loc) (ls' : Array Slot) (S' : List Value) (cells' slots' : Nat), jr_le ws ws' → (∀ t ∈ tys, t ∈ tys') → jr_I D cl A b sa s h2 H' locs' ws' tys' → jr_L b sa ws' L2 ls' M.2.2.1 → jr_S b sa ws' st2 S' → cells' + h.2.1 = cells + h2.2.1 → slots' + h.2.2 = slots + h2.2.2 → W p l e R s m args below meth c H' locs' cells' slots' Q (F0 m pc2 ls' S') := by
      intro pc2 L2 st2 h2 hrest ws' tys' H' locs' ls' S' cells' slots' g1 g2 hI' hL' hS' hc hs
      refine ih d M pc2 L2 st2 h2 o h' hok hrest p e R s m args below meth c H' locs' cells' slots' Q ls' S' D A tys' ws' b sa hE hR hK hOk hI' hL' hS' ⟨by omega, by omega⟩ ?_ ?_ ?_
      · intro ee v st' a1 a2 a3 ws2 tys2 H2 locs2 ls2 S2 cells2 slots2 b1 b2 b3 b4 b5 b6 b7
        exact kE ee v st' a1 a2 a3 ws2 tys2 H2 locs2 ls2 S2 cells2 slots2 (g1.tr b1) (fun t ht => b2 t (g2 t ht)) b3 b4 b5 (by omega) (by omega)
      · intro ee h1 a1 a2 a3 a4 a5 ws2 tys2 H2 locs2 ls2 cells2 slots2 b1 b2 b3 b4 b6 b7
        exact kT ee h1 a1 a2 a3 a4 a5 ws2 tys2 H2 locs2 ls2 cells2 slots2 (g1.tr b1) (fun t ht => b2 t (g2 t ht)) b3 b4 (by omega) (by omega)
      · intro E a1 a2 ws2 tys2 H2 locs2 ls2 pc9 rest9 cells2 slots2 q9 ce b1 b2 b3 b4 b5 b6 b7 b8
        exact kX E a1 a2 ws2 tys2 H2 locs2 ls2 pc9 rest9 cells2 slots2 q9 ce (g1.tr b1) (fun t ht => b2 t (g2 t ht)) b3 (by omega) (by omega) b6 b7 b8
    rcases hcase with ⟨hk0, q, hst, hrest⟩ | ⟨hk5, d', M', o1, h1, hd, htb, c1, c2, c3, c4, hr1, hgo⟩ | ⟨hk6, hM0, hst0, hr⟩ | ⟨v, hret, hr⟩
    · obtain ⟨Wd, hWd, hall⟩ := id hok
      have hmono := jm_run_mono hrest
      dsimp only at hmono
      refine jr_step hE hK hC hcl50 hk0 hWd (hall ee hee).1 hst hI hL hS ⟨by omega, by omega⟩ ?_
      intro ws' tys' H' locs' ls' S' cells' slots' g1 g2 hI' hL' hS' hc hs
      exact go _ _ _ _ hrest ws' tys' H' locs' ls' S' cells' slots' g1 g2 hI' hL' hS' hc hs
    · subst hd
      have hm1 := jm_run_mono hr1
      dsimp only at hm1
      obtain ⟨mc, hmc⟩ : ∃ mc, h1.2.1 = h.2.1 + mc := ⟨h1.2.1 - h.2.1, by omega⟩
      obtain ⟨ms, hms⟩ : ∃ ms, h1.2.2 = h.2.2 + ms := ⟨h1.2.2 - h.2.2, by omega⟩
      have hnp3 : ee.2.2.1 = ee.1 + 3 := by rw [jm_il3 _ (jm_kind5 hk5)] at hnp; exact hnp
      have hm2 : h1.2.1 ≤ h'.2.1 ∧ h1.2.2 ≤ h'.2.2 := by
        rcases hgo with ⟨v, -, h2⟩ | ⟨E, -, -, ⟨hp, -, h2⟩ | ⟨-, h2⟩⟩
        · exact jm_run_mono h2
        · exact jm_run_mono h2
        · cases h2; exact ⟨Nat.le_refl _, Nat.le_refl _⟩
      obtain ⟨-, -, -, t4⟩ := jr_take hS c1
      have hsp : jm_sp ee.2.1 = true → ∃ v, o1 = .inl v := fun h9 => by
        rcases hgo with ⟨v, h2, -⟩ | ⟨E, -, h2, -⟩
        · exact ⟨v, h2⟩
        · rw [h9] at h2; cases h2
      have hrr := jy_runs ih hl hT hcl50 hC (p := p) (e := e) (below := below) (meth := meth) (c := c) (D := D) (cells := cells) (slots := slots) (locs := locs) hok hee hk5 (L := L) htb c1 c2 c3 c4 hr1 hE hR hK hI hL.2.1 hS hmc hms ⟨by omega, by omega⟩ hsp
      have hback : ∀ (v : Option Value) (st₀ t : State) (H1 : Heap) (L1 : List Loc), t.heap = H1 → s.vm.Alike t.vm → st₀.heap = H → jx_Q D cl b sa ws tys H.size o1 h1 (S.take M'.2.2.2.2.2.1).reverse.toArray st₀ (.returned v) t → (∀ q ∈ L1, va_A ws H.size q.base) → W p l e R s m args below meth c H1 (locs ++ L1) (cells + mc) (slots + ms) Q (F0 m (ee.1 + 3) ls (v.toList ++ S.drop M'.2.2.2.2.2.1)) := by
        intro v st₀ t H1 L1 e1 hvm h0 hq hL1
        obtain ⟨⟨v1, V, ws', ho1, hV, hvV, hB⟩, hF⟩ := hq
        cases hV
        obtain ⟨tys', g1, g2, hI'⟩ := jr_I_back (p := p) hK hI e1 hvm h0 hB hF hL1
        rcases hgo with ⟨v2, h2, hrest⟩ | ⟨E, h2, -⟩
        · rw [h2] at ho1
          cases ho1
          rw [hnp3] at hrest
          exact go _ _ _ _ hrest ws' tys' H1 _ ls _ _ _ g1 g2 hI' (hL.mono g1) (hvV.app (t4.mono g1)) (by omega) (by omega)
        · rw [h2] at ho1; cases ho1
      rcases hrr with ⟨-, hr9⟩ | hr9
      · exact jx_callI hr9 hback
      · refine jx_call hr9 ?_ hback
        intro E ce q9 st₀ t H1 L1 e1 hvm h0 hXX hL1 hce hcv hcl
        obtain ⟨⟨k, ws', ho1, rfl, hB⟩, hF⟩ := hXX
        obtain ⟨tys', g1, g2, hI'⟩ := jr_I_back (p := p) hK hI e1 hvm h0 hB hF hL1
        rcases hgo with ⟨v2, h2, hrest⟩ | ⟨E, h2, -, ⟨hp, hhp, hrest⟩ | ⟨hM0, hr⟩⟩
        · rw [h2] at ho1; cases ho1
        · rw [h2] at ho1
          cases ho1
          refine jr_catch hhp hOk hE.2.2.2.2.1 hE.2.2.2.1 hK hce hcv hcl ?_
          exact go _ _ _ _ hrest ws' tys' H1 _ ls _ _ _ g1 g2 hI' (hL.mono g1) ⟨Or.inr ⟨by decide, Or.inr ⟨_, rfl⟩⟩, trivial⟩ (by omega) (by omega)
        · rw [h2] at ho1
          cases ho1
          cases hr
          exact kX _ hM0 rfl ws' tys' H1 _ ls _ _ _ _ q9 ce g1 g2 hI' (by omega) (by omega) hce hcv hcl
    · cases hr
      subst hst0
      cases S with
      | cons => exact hS.elim
      | nil =>
        dsimp only at hroom
        exact kT ee h hee hk6 hM0 rfl rfl ws tys H locs ls cells slots jr_le.rf (fun _ h => h) hI hL.2.1 (by dsimp only; omega) (by dsimp only; omega)
    · cases hr
      exact kE ee v st hee hret rfl ws tys H locs ls S cells slots jr_le.rf (fun _ h => h) hI hL.2.1 hS (by omega) (by omega)
end JV3
theorem jy_thr_of {tx : List String} {M : jm_M} {e : jm_I} (h : jr_thr tx M e) : jy_thr tx M e := by
  obtain ⟨ik, is, ic, j, k, ix, rx, text, e1, e2, e3, e4, e5, e6, e7, e8, e9, e10, e11, e12, hat, e13, e14⟩ := h
  exact ⟨ik, is, ic, j, k, ix, rx, text, e1, e2, e3, e4, e5, e6, e7, e8, e9, e10, e11, e12, fun w hw => (hat w hw).elim Or.inl (fun h => Or.inr (Or.inl h)), e13, e14⟩
theorem jy_of {cl : List vw_C} {tx : List String} {tb : List jm_M} {M : jm_M} (h : jr_okM cl tx tb M) : jy_okM cl tx tb M := by
  obtain ⟨⟨Wd, h1, h2⟩, h3⟩ := h
  exact ⟨⟨Wd, h1, fun e he => ⟨(h2 e he).1, (h2 e he).2.1, fun h6 => jy_thr_of ((h2 e he).2.2 h6)⟩⟩, h3⟩
