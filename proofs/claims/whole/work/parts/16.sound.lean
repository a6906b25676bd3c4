/-! every run of the abstract machine is one of the machine -/
section JV
variable {G : jm_G} {tb : List jm_M} {cl : List vw_C} {tx : List String} {l : Launch} {n : Nat}
theorem jm_kind5 {ee : jm_I} (h : jm_kind ee = 5) : (∃ i, ee.2.1 = .invokevirtual i) ∨ (∃ i, ee.2.1 = .invokestatic i) ∨ ∃ i, ee.2.1 = .invokespecial i := by
  obtain ⟨pc, i, np, x, y, z, w, u, bs⟩ := ee
  cases i <;> simp only [jm_kind] at h <;> first
    | exact Or.inl ⟨_, rfl⟩
    | exact Or.inr (Or.inl ⟨_, rfl⟩)
    | exact Or.inr (Or.inr ⟨_, rfl⟩)
    | (exfalso; revert h; decide)
    | (split at h <;> exfalso <;> revert h <;> decide)
theorem jr_take {b : Nat} {sa : Nat → Nat} {ws : va_W} {st S : List Value} (h : jr_S b sa ws st S) {k : Nat} (hk : k ≤ st.length) : S = (S.take k).reverse.reverse ++ S.drop k ∧ (S.take k).reverse.length = k ∧ jr_S b sa ws (st.take k).reverse (S.take k).reverse ∧ jr_S b sa ws (st.drop k) (S.drop k) := by
  refine ⟨by rw [List.reverse_reverse, List.take_append_drop], ?_, (h.take k).rev, h.drop k⟩
  rw [List.length_reverse, List.length_take, jr_S_len h]
  omega
/-- the call -/
theorem jx_runs (hWk : jx_Walk G tb cl tx l n) (hl : l.stackTraces = false) (hT : ∀ M ∈ tb, jr_okM cl tx tb M) (hcl50 : cl[50]? = none) (hC : jr_cls cl G)
    {p : Program} {e : Env} {R : Room} {s : State} {m : MethodId} {args : Array Value} {below : List Frame} {meth : Method} {c : Code} {H : Heap} {locs : List Loc} {cells slots : Nat} {ls : Array Slot} {S : List Value} {D : va_G} {A : Nat → Prop} {tys : List (ClassId × FieldType)} {ws : va_W} {b : Nat} {sa : Nat → Nat}
    {M : jm_M} {ee : jm_I} (hok : jr_okW cl tx tb M) (hee : ee ∈ M.2.2.2.2.2.2) (hk5 : jm_kind ee = 5) {d : Nat} {M' : jm_M} {st : List Value} {L : jm_L} {h : jm_H} {o : jm_O} {h1 : jm_H} (htb : tb[ee.2.2.2.1]? = some M') (c1 : M'.2.2.2.2.2.1 ≤ st.length) (c2 : jm_rcv G h ee.2.1 ee.2.2.2.2.2.1 (st.take M'.2.2.2.2.2.1).reverse = true) (c3 : jm_lt (st.drop M'.2.2.2.2.2.1) = true) (c4 : (jm_lay (st.take M'.2.2.2.2.2.1).reverse).length ≤ M'.2.2.1)
    (hrun : jm_run G tb n d M' 0 (jm_ent (st.take M'.2.2.2.2.2.1).reverse M'.2.2.1) [] h = some (o, h1))
    (hE : jr_E p c M.2.1 M.2.2.1 s args M.1.cls M.1.name m meth R) (hR : 10 + (d + 1) ≤ R.frames ∧ 300 + 120 * (d + 1) ≤ R.locals) (hK : jr_K tx G.2.1 b G.2.2.1 G.2.2.2 sa A s) (hI : jr_I D cl A b sa s h H locs ws tys) (hL : ls.size = M.2.2.1) (hS : jr_S b sa ws st S) {mc ms : Nat} (hmc : h1.2.1 = h.2.1 + mc) (hms : h1.2.2 = h.2.2 + ms) (hroom : cells + mc ≤ R.cells ∧ slots + ms ≤ R.slots) (hsp : jm_sp ee.2.1 = true → ∃ v, o = .inl v) :
    (jm_sp ee.2.1 = true ∧ va_Run p l e R s m args below meth c H locs cells slots mc ms (F0 m ee.1 ls S) (S.drop M'.2.2.2.2.2.1) (jx_Q D cl b sa ws tys H.size o h1 (S.take M'.2.2.2.2.2.1).reverse.toArray) (va_A ws H.size)) ∨
    (vx_Run p l e R s m args below meth c H locs cells slots mc ms (F0 m ee.1 ls S) (S.drop M'.2.2.2.2.2.1) (jx_Q D cl b sa ws tys H.size o h1 (S.take M'.2.2.2.2.2.1).reverse.toArray) (jx_X D cl b sa ws tys H.size o h1) (va_A ws H.size)) := by
  have hM' : M' ∈ tb := List.mem_of_getElem? htb
  have hok' := hT M' hM'
  obtain ⟨hd0, hnp, -⟩ := jr_okM_code hok hee
  obtain ⟨Wd, hWd, hall⟩ := id hok
  have hokb := (hall ee hee).1
  obtain ⟨hx, hb, hml, hts, hown, hnm, hRf, hRl⟩ := hE
  obtain ⟨t1, t2, t3, t4⟩ := jr_take hS c1
  have hw8 : (((S.drop M'.2.2.2.2.2.1).map fun v => v.category)).sum ≤ 8 := by
    rw [jr_S_w t4]; exact of_decide_eq_true c3
  have hW8 : 2 * (F0 m ee.1 ls S).monitorRoom + (((S.drop M'.2.2.2.2.2.1).map fun v => v.category)).sum ≤ 8 := by
    show 2 * 0 + _ ≤ 8
    omega
  have hfix : CallFix p m c M.2.1 M.2.2.1 s args jr_T M.1.cls := ⟨hx, hb, hml, hown, hts⟩
  obtain ⟨hI1, hI2, hI3, hI4, hI5⟩ := id hI
  have hpre : ∀ U : State, U.heap = H → s.WarmedH U.vm → jx_P D cl tx G.2.1 b G.2.2.1 G.2.2.2 sa ws tys H.size (S.take M'.2.2.2.2.2.1).reverse (S.take M'.2.2.2.2.2.1).reverse.toArray U := fun U hU hW =>
    ⟨rfl, by rw [hU], va_K.moved hW.alike hI1, by rw [hU]; exact hI2, jx_trueD hI3, hK.next hI4 hI3 hW hU⟩
  obtain ⟨-, ⟨hpl, hmh, hvh⟩, hini, hL100, htabs, hkinds, hvoid⟩ := hok'
  have hRd : (jr_rm d mc ms).frames + 1 ≤ R.frames ∧ 8 + (M'.2.2.1 + 11) + (jr_rm d mc ms).locals ≤ R.locals := ⟨by show 10 + d + 1 ≤ _; omega, by show 8 + (M'.2.2.1 + 11) + (300 + 120 * d) ≤ _; omega⟩
  have hst9 : (F0 m ee.1 ls S).stack = (S.take M'.2.2.2.2.2.1).reverse.reverse ++ S.drop M'.2.2.2.2.2.1 := t1
  rcases jm_kind5 hk5 with ⟨idx, hi⟩ | ⟨idx, hi⟩ | ⟨idx, hi⟩
  · -- invokevirtual
    right
    obtain ⟨pc, i, np, x, y, z, w, u, bs⟩ := ee
    dsimp only at hi
    subst hi
    dsimp only at htb c2 hst9 hd0 hnp ⊢
    have hd : decode M.2.1 pc = .ok (.invokevirtual idx, 3) := by
      have e1 : np - pc = 3 := by simp only [jm_il] at hnp; omega
      rw [← e1]; exact hd0
    simp only [jm_okb, Bool.and_eq_true, decide_eq_true_eq, htb] at hokb
    obtain ⟨-, -, -, q1, q2, q3, q4, q5⟩ := hokb
    have hmi : M'.2.2.2.1 = M'.2.2.2.1 := rfl
    have hcode : Cond.code M'.1 M'.2.1 M'.2.2.1 M'.2.2.2.1 ∈ jr_T := by
      rcases htabs with h9 | h9
      · exact h9.2
      · exact absurd q4 h9.1
    have hpn : jm_pn M' ≠ some M'.2.2.2.2.2.1 := fun h9 => by
      rw [h9] at q5
      simp at q5
    obtain ⟨hin, hsel, -⟩ : Cond.instanceMethod M'.1 ∈ jr_T ∧ Cond.selects M'.1.cls M'.1 M'.1 ∈ jr_T ∧ True := by
      rcases hkinds with h9 | h9
      · exact absurd h9.2 hpn
      · exact ⟨h9.1, h9.2.1.resolve_left q3, trivial⟩
    obtain ⟨b', As', hAs, hrecv⟩ : ∃ (b' : Nat) (As' : List Value), (S.take M'.2.2.2.2.2.1).reverse = .ref b' :: As' ∧ ∃ cellB : Cell, H[b']? = some cellB ∧ cellB.vm.isStatics = false ∧ s.vm.findClass M'.1.cls = some cellB.cls := by
      unfold jm_rcv at c2
      generalize (st.take M'.2.2.2.2.2.1).reverse = vs at c2 t3
      generalize (S.take M'.2.2.2.2.2.1).reverse = As at t3
      dsimp only at c2
      split at c2
      next a r =>
        split at c2
        next c0 fs0 ha =>
          have c2 := of_decide_eq_true c2
          subst c2
          obtain ⟨w1, R1, hw1, rfl, -⟩ := jr_S_r t3
          obtain ⟨Fs, hw2, -⟩ := hI5.obj ha hw1
          obtain ⟨a1, e1⟩ := w1
          dsimp only at hw2
          cases hw2
          obtain ⟨q', hq', -⟩ := hI2 _ _ hw1
          have hz : ¬ c0 = 50 := fun h9 => by rw [h9, hcl50] at hq'; cases hq'
          rw [if_neg hz, hq'] at q2
          have e9 : q'.1 = M'.1.cls := Option.some.inj q2
          refine ⟨a1, R1, rfl, ?_⟩
          rw [← e9]
          exact va_recv hI1 hI2 hq' hw1
        next => cases c2
      next kk r =>
        have c2 := of_decide_eq_true c2
        obtain ⟨rfl, hk2⟩ := c2
        rw [if_pos rfl] at q2
        obtain ⟨V, R1, rfl, hV, -⟩ := jr_S_c t3
        have hV : V = .ref (sa kk) := hV
        subst hV
        refine ⟨_, R1, rfl, ?_⟩
        rw [q2]
        exact vk_recv hK.2.2.2.1 hk2 hI4
      next => cases c2
    rw [hAs] at hpre hst9 t2 t3 ⊢
    have hlk : Cond.methodLink M.1.cls idx M'.1 ∈ jr_T := jr_g (hWd _ (List.mem_of_getElem? q1)) rfl
    have hn' : (parseMethodDescriptor M'.1.desc).map (fun d => d.parameters.length) = some As'.length := by
      have q5' : (jm_pn M').map (· + 1) = some (As'.length + 1) := by rw [q5, ← t2]; rfl
      obtain ⟨k9, e8, e9⟩ := Option.map_eq_some_iff.mp q5'
      have e10 : k9 = As'.length := by simpa using e9
      rw [← e10]; exact e8
    have hst10 : (F0 m pc ls S).stack = As'.reverse ++ .ref b' :: S.drop M'.2.2.2.2.2.1 := hst9.trans (by simp)
    refine vx_runV (C := M'.1.cls) (As := As') (b := b') hfix (jx_metx hWk hl hT hM' hrun c4 t3 hI5 hmc hms q4) (cwV As'.length hts (jr_good fun w hw => ?_) rfl rfl rfl ⟨rfl, hmh, hvh, hn'⟩ hRd) ⟨jx_P_blind, hrecv, hpre⟩ rfl rfl hL hst10 hW8 hd hroom
    simp only [wsV, List.mem_append, List.mem_cons, List.not_mem_nil, or_false] at hw
    rcases hw with (rfl | rfl | rfl | rfl) | rfl | hw
    · exact hlk
    · exact hin
    · exact hsel
    · exact hini
    · exact hcode
    · exact hw
  · -- invokestatic
    right
    obtain ⟨pc, i, np, x, y, z, w, u, bs⟩ := ee
    dsimp only at hi
    subst hi
    dsimp only at htb c2 hst9 hd0 hnp hk5 ⊢
    have hd : decode M.2.1 pc = .ok (.invokestatic idx, 3) := by
      have e1 : np - pc = 3 := by simp only [jm_il] at hnp; omega
      rw [← e1]; exact hd0
    have hx1000 : x < 1000 := by
      simp only [jm_kind] at hk5
      split at hk5
      next h9 => exact h9
      next => exact absurd hk5 (by decide)
    simp only [jm_okb, Bool.and_eq_true, decide_eq_true_eq, htb] at hokb
    obtain ⟨-, -, -, hokb⟩ := hokb
    rw [if_neg (by omega), if_neg (by omega), if_neg (by omega), if_neg (by omega)] at hokb
    simp only [Bool.and_eq_true, decide_eq_true_eq] at hokb
    obtain ⟨q1, q5⟩ := hokb
    have hlk : Cond.methodLink M.1.cls idx M'.1 ∈ jr_T := jr_g (hWd _ (List.mem_of_getElem? q1)) rfl
    have hstat : Cond.static M'.1 ∈ jr_T := by
      rcases hkinds with h9 | h9
      · exact h9.1
      · have h9 := h9.2.2
        rw [q5] at h9
        simp at h9
    have hn' : (parseMethodDescriptor M'.1.desc).map (fun d => d.parameters.length) = some M'.2.2.2.2.2.1 := q5
    rcases htabs with ⟨hhs, hcode⟩ | ⟨hhs, hh, hcode, hhh⟩
    · refine vx_runS (As := (S.take M'.2.2.2.2.2.1).reverse) hfix (jx_metx hWk hl hT hM' hrun c4 t3 hI5 hmc hms hhs) (va_cwS M'.2.2.2.2.2.1 hts (jr_good fun w hw => ?_) rfl rfl rfl ⟨hmh, hvh, hn'⟩ hRd) ⟨jx_P_blind, hpre⟩ rfl t2 hL hst9 hW8 hd hroom
      simp only [va_wsS, List.mem_append, List.mem_cons, List.not_mem_nil, or_false] at hw
      rcases hw with (rfl | rfl | rfl) | rfl | hw
      · exact hlk
      · exact hstat
      · exact hini
      · exact hcode
      · exact hw
    · refine vx_runSX (As := (S.take M'.2.2.2.2.2.1).reverse) hfix (jx_meth hWk hl hT hM' hrun c4 t3 hI5 hmc hms hhs hhh) (vx_cwSW M'.2.2.2.2.2.1 hts (jr_good fun w hw => ?_) rfl rfl rfl ⟨hmh, hvh, hn'⟩ hRd) ⟨jx_P_blind, hpre⟩ rfl t2 hL hst9 hW8 hd hroom
      simp only [va_wsS, List.mem_append, List.mem_cons, List.not_mem_nil, or_false] at hw
      rcases hw with (rfl | rfl | rfl) | rfl | hw
      · exact hlk
      · exact hstat
      · exact hini
      · exact hcode
      · exact hw
  · -- invokespecial
    left
    obtain ⟨pc, i, np, x, y, z, w, u, bs⟩ := ee
    dsimp only at hi
    subst hi
    dsimp only at htb c2 hst9 hd0 hnp hk5 hsp ⊢
    refine ⟨rfl, ?_⟩
    obtain ⟨v9, ho⟩ := hsp rfl
    subst ho
    have hd : decode M.2.1 pc = .ok (.invokespecial idx, 3) := by
      have e1 : np - pc = 3 := by simp only [jm_il] at hnp; omega
      rw [← e1]; exact hd0
    have hx1000 : x < 1000 := by
      simp only [jm_kind] at hk5
      split at hk5
      next h9 => exact h9
      next => exact absurd hk5 (by decide)
    simp only [jm_okb, Bool.and_eq_true, decide_eq_true_eq, htb] at hokb
    obtain ⟨-, -, -, hokb⟩ := hokb
    rw [if_neg (by omega)] at hokb
    simp only [Bool.and_eq_true, decide_eq_true_eq] at hokb
    obtain ⟨q1, q3, q4, q5⟩ := hokb
    have hlk : Cond.methodLink M.1.cls idx M'.1 ∈ jr_T := jr_g (hWd _ (List.mem_of_getElem? q1)) rfl
    have hcode : Cond.code M'.1 M'.2.1 M'.2.2.1 M'.2.2.2.1 ∈ jr_T := by
      rcases htabs with h9 | h9
      · exact h9.2
      · exact absurd q4 h9.1
    have hin : Cond.instanceMethod M'.1 ∈ jr_T := by
      rcases hkinds with h9 | h9
      · have h9 := h9.2
        rw [h9] at q5
        simp at q5
      · exact h9.1
    have hn1 : (jm_pn M').map (· + 1) = some (S.take M'.2.2.2.2.2.1).reverse.length := by rw [q5, t2]
    obtain ⟨b', As', hAs⟩ : ∃ (b' : Nat) (As' : List Value), (S.take M'.2.2.2.2.2.1).reverse = .ref b' :: As' := by
      unfold jm_rcv at c2
      generalize (st.take M'.2.2.2.2.2.1).reverse = vs at c2 t3
      generalize (S.take M'.2.2.2.2.2.1).reverse = As at t3
      dsimp only at c2
      split at c2
      next a r =>
        obtain ⟨w1, R1, hw1, rfl, -⟩ := jr_S_r t3
        exact ⟨_, _, rfl⟩
      next => cases c2
    rw [hAs] at hpre hst9 t2 t3 hn1 ⊢
    have hn' : (parseMethodDescriptor M'.1.desc).map (fun d => d.parameters.length) = some As'.length := by
      obtain ⟨k9, e8, e9⟩ := Option.map_eq_some_iff.mp hn1
      have e10 : k9 = As'.length := by simpa using e9
      rw [← e10]; exact e8
    have hst10 : (F0 m pc ls S).stack = As'.reverse ++ .ref b' :: S.drop M'.2.2.2.2.2.1 := hst9.trans (by simp)
    have hv0 := hvoid q3
    have hmet := jx_metI (jx_metx hWk hl hT hM' hrun c4 t3 (D := D) (tx := tx) (sz := H.size) hI5 hmc hms q4)
    rw [hv0] at hmet hcode
    refine va_runI (As := As') (b := b') hfix hmet (cwI As'.length hts (jr_good fun w hw => ?_) rfl rfl rfl (hts _ hini) (hts _ hlk) (hts _ hin) q3 ⟨hmh, hvh, hn'⟩ hRd) ⟨jx_P_blind, hpre⟩ rfl rfl hL hst10 hW8 hd hroom
    simp only [List.mem_cons] at hw
    rcases hw with rfl | hw
    · exact hcode
    · exact hw
end JV
