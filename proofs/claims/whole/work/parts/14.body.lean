/-! a method's contract out of the walk of its code -/
theorem jr_okM_code {cl : List vw_C} {tx : List String} {tb : List jm_M} {M : jm_M} (h : jr_okW cl tx tb M) {ee : jm_I} (he : ee ∈ M.2.2.2.2.2.2) : decode M.2.1 ee.1 = .ok (ee.2.1, ee.2.2.1 - ee.1) ∧ ee.2.2.1 = ee.1 + jm_il ee.2.1 (ee.2.2.1 - ee.1) ∧ (ee.2.2.2.2.2.2.2.2 = [] ∨ ee.2.2.2.2.2.2.2.2.length = M.2.2.1) := by
  obtain ⟨Wd, -, h2⟩ := h
  have h3 := (h2 ee he).1
  obtain ⟨pc, i, np, x, y, z, w, v, bs⟩ := ee
  simp only [jm_okb, Bool.and_eq_true, decide_eq_true_eq] at h3
  exact ⟨h3.1, h3.2.1, h3.2.2.1⟩
theorem va_P.same {D : va_G} {cl : List vw_C} {ws : va_W} {H H1 : Heap} (h : va_P D cl ws H) (hq : ∀ q : Nat, q < H.size → H1[q]? = H[q]?) : va_P D cl ws H1 := h.kept (fun k q hk => hq q.1 (vx_lt h hk))
section JB
variable {p : Program} {l : Launch} {e : Env} {R : Room} {s : State} {m : MethodId} {args : Array Value} {below : List Frame} {meth : Method} {c : Code} {H : Heap} {locs : List Loc} {mc ms : Nat} {D : va_G} {cl : List vw_C} {b : Nat} {sa : Nat → Nat} {ws ws' : va_W} {tys tys' : List (ClassId × FieldType)} {o : jm_O} {h' : jm_H} {M : jm_M} {tx : List String} {tb : List jm_M} {ls : Array Slot} {S : List Value} {sz : Nat}
theorem jx_back (hsz : s.heap.size = sz) (h1 : jr_le ws ws') (h2 : ∀ t ∈ tys, t ∈ tys') (hI : jr_I D cl (va_A ws sz) b sa s h' H locs ws' tys') {t : State} (ht : t.heap = H) (hvm : s.vm.Alike t.vm) : jx_B D cl b sa ws tys sz h' t ws' ∧ va_F (va_A ws sz) s t := by
  obtain ⟨hK, hP, hD, hS, hH⟩ := hI
  exact ⟨⟨tys', h1, h2, va_K.moved hvm hK, by rw [ht]; exact hP, hD, hH⟩, hS.F ht⟩
/-- the returns -/
theorem jx_rets (hx : p.tables.exec = Jvm.exec) (hb : c.code = M.2.1) (hr : meth.sig.returnType = M.2.2.2.1) (hlocks : meth.locks = false) (hok : jr_okM cl tx tb M) (hsz : s.heap.size = sz) {ee : jm_I} {v : Option Value} {st' : List Value} (hee : ee ∈ M.2.2.2.2.2.2) (hret : jm_ret (jm_rz M.2.2.2.1) (jm_kind ee) st' = some v) (ho : o = .inl v)
    (h1 : jr_le ws ws') (h2 : ∀ t ∈ tys, t ∈ tys') (hI : jr_I D cl (va_A ws sz) b sa s h' H locs ws' tys') (hS : jr_S b sa ws' st' S) : W p l e R s m args below meth c H locs mc ms (vx_MQ below (jx_Q D cl b sa ws tys sz o h') (jx_X D cl b sa ws tys sz o h') args s mc ms (va_A ws sz)) (F0 m ee.1 ls S) := by
  obtain ⟨hd0, hnp, -⟩ := jr_okM_code hok.1 hee
  have hokr := (hok.1.choose_spec.2 ee hee).2.1
  have hlocs := hI.2.2.2.1.2.2
  obtain ⟨pc, i, np, x, y, z, w, u, bs⟩ := ee
  refine vx_ret ?_
  have hi : i = .return_ ∨ i = .ireturn ∨ i = .lreturn ∨ i = .areturn := by
    cases i <;> simp only [jm_kind] at hret <;> first
      | exact Or.inl rfl
      | exact Or.inr (Or.inl rfl)
      | exact Or.inr (Or.inr (Or.inl rfl))
      | exact Or.inr (Or.inr (Or.inr rfl))
      | (simp [jm_ret] at hret; done)
      | (split at hret <;> simp [jm_ret] at hret; done)
  have hnp1 : np = pc + 1 := by rcases hi with rfl | rfl | rfl | rfl <;> exact hnp
  have hd : decode M.2.1 pc = .ok (i, 1) := by
    have e1 : np - pc = 1 := by omega
    rw [← e1]; exact hd0
  rcases hi with rfl | rfl | rfl | rfl
  · have hret : jm_ret (jm_rz M.2.2.2.1) 1 st' = some v := hret
    unfold jm_ret at hret
    split at hret <;> first | contradiction | skip
    cases hret
    cases S with
    | cons => exact hS.elim
    | nil =>
      have hrn : M.2.2.2.1 = none := of_decide_eq_true hokr
      exact W.vret hx hb (hr.trans hrn) (fun t ht hW => by
        obtain ⟨g1, g2⟩ := jx_back hsz h1 h2 hI ht hW.alike
        exact ⟨⟨none, none, ws', ho, rfl, trivial, g1⟩, g2⟩) hlocs hd hlocks
  · have hret : jm_ret (jm_rz M.2.2.2.1) 2 st' = some v := hret
    unfold jm_ret at hret
    split at hret <;> first | contradiction | skip
    rename_i x0 _ _
    split at hret
    next hc =>
      cases hret
      obtain ⟨R0, rfl, hS0⟩ := jr_S_i hS
      cases R0 with
      | cons => exact hS0.elim
      | nil =>
      have hq : ∀ t : State, t.heap = H → s.WarmedH t.vm → jx_Q D cl b sa ws tys sz o h' args s (.returned (some (.int x0))) t := fun t ht hW => by
        obtain ⟨g1, g2⟩ := jx_back hsz h1 h2 hI ht hW.alike
        exact ⟨⟨some (.int x0), some (.int x0), ws', ho, rfl, ⟨rfl, trivial⟩, g1⟩, g2⟩
      have hrr : jm_rz M.2.2.2.1 < 4 := of_decide_eq_true hokr
      cases hM : M.2.2.2.1 with
      | none => rw [hM] at hrr; exact absurd hrr (by decide)
      | some ty =>
        rw [hM] at hrr hc hr
        have hn : narrow ty (.int x0) = .int x0 := by
          cases ty <;> simp only [jm_rz] at hc hrr <;> first
            | (exfalso; revert hrr; decide)
            | rfl
            | (rcases hc with h | h | h | h <;> first | (exfalso; revert h; decide) | (obtain ⟨h9, h | h⟩ := h <;> subst h <;> first | rfl | (exfalso; revert h9; decide)) | (obtain ⟨h9, h⟩ := h; first | exact h | (subst h; rfl) | (exfalso; revert h9; decide)))
            | skip
        exact W.zret hx hb hr hn hq hlocs hd hlocks
    next => cases hret
  · have hret : jm_ret (jm_rz M.2.2.2.1) 3 st' = some v := hret
    unfold jm_ret at hret
    split at hret <;> first | contradiction | skip
    rename_i x0 _ _
    cases hret
    obtain ⟨R0, rfl, hS0⟩ := jr_S_l hS
    cases R0 with
    | cons => exact hS0.elim
    | nil =>
      have hrn : M.2.2.2.1 = some .long := of_decide_eq_true hokr
      exact W.lret hx hb (hr.trans hrn) (fun t ht hW => by
        obtain ⟨g1, g2⟩ := jx_back hsz h1 h2 hI ht hW.alike
        exact ⟨⟨some (.long x0), some (.long x0), ws', ho, rfl, ⟨rfl, trivial⟩, g1⟩, g2⟩) hlocs hd hlocks
  · have hret : jm_ret (jm_rz M.2.2.2.1) 4 st' = some v := hret
    unfold jm_ret at hret
    split at hret <;> first | contradiction | skip
    rename_i x0 _ _
    cases hret
    obtain ⟨w0, R0, hw0, rfl, hS0⟩ := jr_S_r hS
    cases R0 with
    | cons => exact hS0.elim
    | nil =>
      simp only [jm_okr] at hokr
      cases hM : M.2.2.2.1 with
      | none => rw [hM] at hokr; cases hokr
      | some ty =>
        rw [hM] at hokr hr
        have hrt : (∃ n, ty = .object n) ∨ ∃ t, ty = .array t := by
          cases ty <;> first | exact Or.inl ⟨_, rfl⟩ | exact Or.inr ⟨_, rfl⟩ | cases hokr
        exact W.aret hx hb hr hrt (Or.inr ⟨_, rfl⟩) (fun t ht hW => by
          obtain ⟨g1, g2⟩ := jx_back hsz h1 h2 hI ht hW.alike
          exact ⟨⟨some (.ref x0), some (.ref w0.1), ws', ho, rfl, ⟨⟨w0, hw0, rfl⟩, trivial⟩, g1⟩, g2⟩) hlocs hd hlocks
/-- a throw -/
theorem jx_throws {G : jm_G} {A0 : Nat → Prop} (hx : p.tables.exec = Jvm.exec) (hb : c.code = M.2.1) (hl : l.stackTraces = false) (hlocks : meth.locks = false) (hE : jr_E p c M.2.1 M.2.2.1 s args M.1.cls M.1.name m meth R) (hK : jr_K tx G.2.1 b G.2.2.1 G.2.2.2 sa (va_A ws sz) s) (hok : jr_okM cl tx tb M) (hXt : ∀ x ∈ c.exceptionTable.toList, False) (hsz : s.heap.size = sz) {ee : jm_I} {h1 : jm_H} (hee : ee ∈ M.2.2.2.2.2.2) (hk6 : jm_kind ee = 6) (ho : o = .inr (ee.2.2.2.1 - 2000)) (hh : h' = (h1.1, h1.2.1 + 1, h1.2.2 + 6))
    (g1 : jr_le ws ws') (g2 : ∀ t ∈ tys, t ∈ tys') (hI : jr_I D cl (va_A ws sz) b sa s h1 H locs ws' tys') {cells slots : Nat} (hls : ls.size = M.2.2.1) (hc : cells + 1 = mc) (hs : slots + 6 = ms) (hRc : mc ≤ R.cells) (hRs : ms ≤ R.slots) : W p l e R s m args below meth c H locs cells slots (vx_MQ below (jx_Q D cl b sa ws tys sz o h') (jx_X D cl b sa ws tys sz o h') args s mc ms (va_A ws sz)) (F0 m ee.1 ls []) := by
  obtain ⟨ik, is, ic, j, k, ix, rx, text, e1, hk2, d0, d3, d4, d7, d10, htx, hstr, hlk, hini, ⟨x0, x1, x2, x5⟩, hat, hgood, hfit⟩ := (hok.1.choose_spec.2 ee hee).2.2 hk6
  obtain ⟨-, -, hml, hts, hown, hnm, hRf, hRl⟩ := hE
  obtain ⟨hKA, -, hKs, -, -, ⟨hU, hN⟩, -, hCa, hCb, -⟩ := hK
  obtain ⟨hI1, hI2, hI3, hI4, hI5⟩ := hI
  have hat' : ∀ w ∈ wx_at M.1.cls ic (jr_exn k) ix rx, w.before args s = true := fun w hw => by
    rcases hat w hw with h | h
    · exact hts w h
    · subst h
      have : k = 0 ∨ k = 1 := by omega
      rcases this with rfl | rfl
      · exact hCa.use
      · exact hCb.use
  refine wx_throwSW (cls := jr_exn k) (text := text) (sa := sa j) (own := M.1.cls) hx hb hl x0 x1 x2 x5 hown hfit (hts _ hlk) (hts _ hini) (hKs _ _ _ _ hstr htx) hat' hgood hU hN hI4 (by rw [hls, hml]) d0 d3 d4 d7 d10 (fun x hx => (hXt x hx).elim) (by show 5 < R.frames; omega) (by show ([] : List Value).map (fun v => v.category) |>.sum |> (· + 82) |> (· ≤ R.locals); show 0 + 82 ≤ R.locals; omega) (by omega) (by omega) hlocks (fun t hvm hz hq => ?_) hI4.2.2 (by omega) (by omega)
  refine ⟨⟨k, ws', by rw [ho, e1, Nat.add_sub_cancel_left], rfl, tys', g1, g2, va_K.moved hvm hI1, hI2.same hq, hI3, by rw [hh]; exact ⟨hI5.1, hI5.2⟩⟩, Nat.le_trans hI4.1 hz, fun q hq1 hq2 => ?_⟩
  rw [hq q (Nat.lt_of_lt_of_le hq1 hI4.1)]
  exact hI4.2.1 q hq1 hq2
end JB
