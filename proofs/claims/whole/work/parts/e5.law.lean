/-! THE CLAIM: the law's walk (its head and end began as the skeleton of kit/laws) -/
def R_law : String := "CardCupsLaw"
def lw_P (b : Addr) (xs : List Int32) (args : Array Value) (s : State) : Prop := args = #[.ref b] ∧ s.IntsAt b xs ∧ xs.length ≤ 3072 ∧ (Jvm.Cond.and given_1 narrow_1).before args s = true
def lw_Q (_ : Array Value) (s : State) (o : Outcome) (t : State) : Prop := o = .returned (some (.int 1)) ∧ Framed s o t [] 601024 7293034
def lw_Z (below : List Frame) (a : Array Value) (s : State) : State → Prop := fun t => ∃ o, t.status = .running ∧ Ended t below o ∧ lw_Q a s o t
/-- the law's own end, with 1 on the stack, nothing written that was there before, its room as the claim has it -/
theorem lw_ret {p : Program} {l : Launch} {e : Env} {s : State} {m : MethodId} {below : List Frame} {meth : Method} {c : Code} {b : Nat} (hx : p.tables.exec = Jvm.exec) (hb : c.code = code) (hr : meth.sig.returnType = ret) (hlocks : meth.locks = false) {pc : Nat} {H : Heap} {ls : Array Slot} (hdg : decode code pc = .ok (.ireturn, 1)) : W p l e room_1 s m #[Value.ref b] below meth c H [] 601024 7293034 (lw_Z below #[Value.ref b] s) (F0 m pc ls [.int 1]) := by
  intro T hT X
  obtain ⟨fs, hret, hrun, hended, hW, hframe⟩ := X.leave (v := some (.int 1)) (hlocks := hlocks) (fun h => by rw [hr] at h; cases h)
  have hmeth' : T.vm.method? m = some meth := X.method'
  refine ⟨T.setFrames fs, ?_, .returned (some (.int 1)), hrun, hended, rfl, ⟨_, rfl⟩, hW, hframe⟩
  jvm_step X.here [X.here.top, hx, hb, hdg, hmeth', hr, ret, narrow_b1]
  (try refine ⟨rfl, ?_⟩); (try refine ⟨rfl, ?_⟩)
  first | (intro acts; rw [hret _ acts rfl rfl rfl]) | rw [hret _ _ rfl rfl rfl]
  exact Steps.refl _
/-- what holds at the law's entry: the machine, the code, the tables' words (any of lw_tbl by 'hts w (by decide +kernel)'), the script of L ints xs at the cell b, what the Statement gives of the start (any of its parts by flat_of_before) -/
def lw_At (p : Program) (s : State) (m : MethodId) (meth : Method) (c : Code) (b L : Nat) (xs : Nat → Int32) : Prop :=
  p.tables.exec = Jvm.exec ∧ c.code = code ∧ meth.sig.returnType = ret ∧ c.maxLocals = 8 ∧ s.vm.findClass R_law = some m.cls ∧ (∀ w ∈ lw_tbl, w.before #[Value.ref b] s = true) ∧ va_X b L xs s s.heap ∧ b < s.heap.size ∧ meth.locks = false ∧ (Jvm.Cond.and given_1 narrow_1).before #[Value.ref b] s = true ∧ meth.name = "law" ∧ (∀ x ∈ c.exceptionTable.toList, False)
theorem law_run {Ln : Nat} {xs : Nat → Int32} (hL : Ln ≤ 3072) : ∃ (N : Nat) (h' : jm_H), jm_run (jm_G0 Ln xs) jm_tb N 40 mL_law 0 [some (.float 0), none, none, none, none, none, none, none] [] ([], 0, 0) = some (.inl (some (.int (Int32.ofNat 1))), h') ∧ h'.2.1 ≤ 601024 ∧ h'.2.2 ≤ 7293034 := by
  obtain ⟨h, hR, hgo⟩ := start_run Ln xs
  obtain ⟨t, e1, e2, e3⟩ := lw_loop (g := (Ln, xs)) (d := 4) 512 0 0 S0 (by show Ln < 0 + 6 * 512 + 6; omega) (by omega) (by show Ln < 10000; omega) (by omega) k_Inv
  obtain ⟨n, hn⟩ := fm_ev_iff.mp (show fm_ev shp (jm_G0 Ln xs) jm_tb 40 mL_law 23 kLL [] S0 = some (.inl (some (.int (Int32.ofNat 1))), t) from e1)
  obtain ⟨h', g1, g2⟩ := fm_sim fm_okTb fm_okL hR hn
  obtain ⟨N, hN⟩ := hgo n _ g1
  have h0 : S0.2.2.2.1 = 461 ∧ S0.2.2.2.2 = 126690 := ⟨rfl, rfl⟩
  have h9 := g2.2.2
  exact ⟨N, h', hN, by rw [h9]; omega, by rw [h9]; omega⟩
section WS0
variable {s : State} {args : Array Value}
theorem ws_D (hts : ∀ w ∈ lw_tbl, w.before args s = true) : ∃ D : va_G, va_K D vwCl [] s := by
    obtain ⟨c0, i0, hk0⟩ := u_known (C := RX0) (T := TX0) (N := 4) (n := 4) hts (fun w hw => (List.mem_filter.mp (cls0.1 w hw)).1) (hts _ (List.mem_filter.mp cls0.2.2.2.1).1)
    obtain ⟨c1, i1, hk1⟩ := u_known (C := RX1) (T := TX1) (N := 3) (n := 3) hts (fun w hw => (List.mem_filter.mp (cls1.1 w hw)).1) (hts _ (List.mem_filter.mp cls1.2.2.2.1).1)
    obtain ⟨c2, i2, hk2⟩ := u_known (C := RX2) (T := TX2) (N := 12) (n := 12) hts (fun w hw => (List.mem_filter.mp (cls2.1 w hw)).1) (hts _ (List.mem_filter.mp cls2.2.2.2.1).1)
    obtain ⟨c3, i3, hk3⟩ := u_known (C := RX3) (T := TX3) (N := 5) (n := 5) hts (fun w hw => (List.mem_filter.mp (cls3.1 w hw)).1) (hts _ (List.mem_filter.mp cls3.2.2.2.1).1)
    obtain ⟨c4, i4, hk4⟩ := u_known (C := RX4) (T := TX4) (N := 4) (n := 4) hts (fun w hw => (List.mem_filter.mp (cls4.1 w hw)).1) (hts _ (List.mem_filter.mp cls4.2.2.2.1).1)
    obtain ⟨c5, i5, hk5⟩ := u_known (C := RX5) (T := TX5) (N := 9) (n := 9) hts (fun w hw => (List.mem_filter.mp (cls5.1 w hw)).1) (hts _ (List.mem_filter.mp cls5.2.2.2.1).1)
    obtain ⟨c6, i6, hk6⟩ := u_known (C := RX6) (T := TX6) (N := 16) (n := 16) hts (fun w hw => (List.mem_filter.mp (cls6.1 w hw)).1) (hts _ (List.mem_filter.mp cls6.2.2.2.1).1)
    obtain ⟨c7, i7, hk7⟩ := u_known (C := RX7) (T := TX7) (N := 14) (n := 14) hts (fun w hw => (List.mem_filter.mp (cls7.1 w hw)).1) (hts _ (List.mem_filter.mp cls7.2.2.2.1).1)
    obtain ⟨c8, i8, hk8⟩ := u_known (C := RX8) (T := TX8) (N := 3) (n := 3) hts (fun w hw => (List.mem_filter.mp (cls8.1 w hw)).1) (hts _ (List.mem_filter.mp cls8.2.2.2.1).1)
    obtain ⟨c9, i9, hk9⟩ := u_known (C := RX9) (T := TX9) (N := 6) (n := 6) hts (fun w hw => (List.mem_filter.mp (cls9.1 w hw)).1) (hts _ (List.mem_filter.mp cls9.2.2.2.1).1)
    obtain ⟨c10, i10, hk10⟩ := u_known (C := RX10) (T := TX10) (N := 4) (n := 4) hts (fun w hw => (List.mem_filter.mp (cls10.1 w hw)).1) (hts _ (List.mem_filter.mp cls10.2.2.2.1).1)
    obtain ⟨c11, i11, hk11⟩ := u_known (C := RX11) (T := TX11) (N := 12) (n := 12) hts (fun w hw => (List.mem_filter.mp (cls11.1 w hw)).1) (hts _ (List.mem_filter.mp cls11.2.2.2.1).1)
    obtain ⟨c12, i12, hk12⟩ := u_known (C := RX12) (T := TX12) (N := 65) (n := 65) hts (fun w hw => (List.mem_filter.mp (cls12.1 w hw)).1) (hts _ (List.mem_filter.mp cls12.2.2.2.1).1)
    refine ⟨(fun k => if k = 0 then c0 else if k = 1 then c1 else if k = 2 then c2 else if k = 3 then c3 else if k = 4 then c4 else if k = 5 then c5 else if k = 6 then c6 else if k = 7 then c7 else if k = 8 then c8 else if k = 9 then c9 else if k = 10 then c10 else if k = 11 then c11 else c12, fun k => if k = 0 then i0 else if k = 1 then i1 else if k = 2 then i2 else if k = 3 then i3 else if k = 4 then i4 else if k = 5 then i5 else if k = 6 then i6 else if k = 7 then i7 else if k = 8 then i8 else if k = 9 then i9 else if k = 10 then i10 else if k = 11 then i11 else i12), fun k q hq => ?_, fun k q h => by simp at h⟩
    match k, hq with
    | 0, hq => cases hq; exact hk0
    | 1, hq => cases hq; exact hk1
    | 2, hq => cases hq; exact hk2
    | 3, hq => cases hq; exact hk3
    | 4, hq => cases hq; exact hk4
    | 5, hq => cases hq; exact hk5
    | 6, hq => cases hq; exact hk6
    | 7, hq => cases hq; exact hk7
    | 8, hq => cases hq; exact hk8
    | 9, hq => cases hq; exact hk9
    | 10, hq => cases hq; exact hk10
    | 11, hq => cases hq; exact hk11
    | 12, hq => cases hq; exact hk12
    | k + 13, hq => simp [vwCl] at hq
theorem ws_K {b Ln : Nat} {xs : Nat → Int32} (hts : ∀ w ∈ lw_tbl, w.before args s = true) (hg : (Jvm.Cond.and given_1 narrow_1).before args s = true) (hX : va_X b Ln xs s s.heap) (hb : b < s.heap.size) : ∃ sa : Nat → Nat, jr_K jm_tx jm_lits b Ln xs sa (fun q => s.heap.size ≤ q) s := by
  have hF : ∀ w ∈ sq_F, w.before args s = true := flat_of_before sq_g hg
  have hA : ∀ a : Nat, a < s.heap.size → ¬ s.heap.size ≤ a := fun a h => Nat.not_le.mpr h
  obtain ⟨sa, h1, h2⟩ := sq_all (A := fun q => s.heap.size ≤ q) hg hA hts
  refine ⟨sa, fun q h => h, ⟨hX, hb, hA b hb⟩, h1, h2, ⟨?_, ?_⟩, ⟨?_, ?_⟩, ⟨?_, ?_, ?_⟩, ⟨?_, ?_, ?_⟩⟩
  · exact va_Zof (args := args) (hts _ (List.mem_append_right _ (List.mem_of_getElem? (i := 927) (by decide +kernel)))) (hts _ (List.mem_append_right _ (List.mem_of_getElem? (i := 19) (by decide +kernel)))) (va_eqt (hF _ (List.mem_of_getElem? (i := 6) (by decide +kernel)))) hA
  · exact va_Zqof (args := args) (hts _ (List.mem_append_right _ (List.mem_of_getElem? (i := 943) (by decide +kernel)))) (hts _ (List.mem_append_right _ (List.mem_of_getElem? (i := 21) (by decide +kernel)))) (hF _ (List.mem_of_getElem? (i := 7) (by decide +kernel))) hA
  · exact vx_Zqof (args := args) (hts _ (List.mem_append_right _ (List.mem_of_getElem? (i := 840) (by decide +kernel)))) (hts _ (List.mem_append_right _ (List.mem_of_getElem? (i := 15) (by decide +kernel)))) (hF _ (List.mem_of_getElem? (i := 4) (by decide +kernel))) hA
  · exact vx_Zqof (args := args) (hts _ (List.mem_append_right _ (List.mem_of_getElem? (i := 842) (by decide +kernel)))) (hts _ (List.mem_append_right _ (List.mem_of_getElem? (i := 15) (by decide +kernel)))) (hF _ (List.mem_of_getElem? (i := 5) (by decide +kernel))) hA
  · intro C hC
    simp only [jr_AO, List.mem_cons, List.not_mem_nil, or_false] at hC
    rcases hC with rfl | rfl
    · exact va_AO.of (A := args) (hts _ (List.mem_append_right _ (List.mem_of_getElem? (i := 213) (by decide +kernel))))
    · exact va_AO.of (A := args) (hts _ (List.mem_append_right _ (List.mem_of_getElem? (i := 128) (by decide +kernel))))
  · exact va_AOA.of (A := args) (hts _ (List.mem_append_right _ (List.mem_of_getElem? (i := 80) (by decide +kernel))))
  · exact va_AOA.of (A := args) (hts _ (List.mem_append_right _ (List.mem_of_getElem? (i := 358) (by decide +kernel))))
  · exact jr_Ca.of (args := args) (hts _ (List.mem_append_right _ (List.mem_of_getElem? (i := 1063) (by decide +kernel))))
  · exact jr_Ca.of (args := args) (hts _ (List.mem_append_right _ (List.mem_of_getElem? (i := 815) (by decide +kernel))))
  · exact va_Nc.of (args := args) (hF _ (List.mem_of_getElem? (i := 38) (by decide +kernel)))
end WS0
theorem jm_k2 {e : jm_I} (h : jm_kind e = 2) : e.2.1 = .ireturn := by
  obtain ⟨pc, i, np, x, y, z, w, v, bs⟩ := e
  cases i <;> simp only [jm_kind] at h <;> first
    | rfl
    | (exfalso; revert h; decide)
    | (exfalso; revert h; split <;> decide)
theorem jm_ret1 {z k : Nat} {st : List Value} {u : Int32} (h : jm_ret z k st = some (some (.int u))) : k = 2 ∧ st = [.int u] := by
  unfold jm_ret at h
  split at h
  · cases h
  · split at h
    · cases h; exact ⟨rfl, rfl⟩
    · cases h
  · cases h
  · cases h
  · cases h
theorem whole_start {p : Program} {e : Env} {s : State} {m : MethodId} {below : List Frame} {meth : Method} {c : Code} (l : Launch) (hflags : l.flags = flags0) {b L : Nat} {xs : Nat → Int32} (hL : L ≤ 3072) (C0 : lw_At p s m meth c b L xs) : W p l e room_1 s m #[Value.ref b] below meth c s.heap [] 0 0 (lw_Z below #[Value.ref b] s) (entryFrame m ([Value.ref b] : List Value).toArray 8) := by
  obtain ⟨hx, hb, hr, hml, hown, hts, hX, hbl, hlocks, hgv, hname, hexc⟩ := C0
  obtain ⟨N, h', hrun, hc, hs⟩ := law_run (xs := xs) hL
  obtain ⟨D, hD⟩ := ws_D hts
  obtain ⟨sa, hK⟩ := ws_K hts hgv hX hbl
  have hl : l.stackTraces = false := by
    unfold Launch.stackTraces
    rw [hflags]
    decide +kernel
  have hTs : ∀ w ∈ jr_T, w.before #[Value.ref b] s = true := fun w hw => hts w (List.mem_filter.mp hw).1
  have hE : jr_E p c mL_law.2.1 mL_law.2.2.1 s #[Value.ref b] mL_law.1.cls mL_law.1.name m meth room_1 := ⟨hx, hb, hml, hTs, hown, hname, Nat.le_of_ble_eq_true rfl, Nat.le_of_ble_eq_true rfl⟩
  have hI : jr_I D vwCl (fun q => s.heap.size ≤ q) b sa s ([], 0, 0) s.heap [] [] [] := ⟨hD, fun k q h => by simp at h, ⟨fun i j p q h => by simp at h, fun k q h => by simp at h⟩, va_S.rf, rfl, fun k c h => by simp at h⟩
  have hvs : jr_S b sa [] [.float 0] [.ref b] := ⟨Or.inl ⟨rfl, rfl⟩, trivial⟩
  have hLL : jr_L b sa [] [some (.float 0), none, none, none, none, none, none, none] ((lg_sl [Value.ref b] ++ List.replicate (8 - (lg_sl [Value.ref b]).length) Slot.unset).toArray) 8 := jr_ent (vs := [.float 0]) (As := [.ref b]) (n := 8) hvs (by decide)
  rw [lg_entry_eq]
  refine jy_walk (G := jm_G0 L xs) (clsOK L xs) rfl hl okTb N 40 mL_law 0 _ [] ([], 0, 0) _ h' okwL_law hrun p e room_1 s m #[Value.ref b] below meth c s.heap [] 0 0 _ _ [] D (fun q => s.heap.size ≤ q) [] [] b sa hE ⟨Nat.le_of_ble_eq_true rfl, Nat.le_of_ble_eq_true rfl⟩ hK (Or.inl ⟨rfl, hexc⟩) hI hLL trivial ⟨by show 0 + h'.2.1 ≤ 601024 + 0; omega, by show 0 + h'.2.2 ≤ 7293034 + 0; omega⟩ ?_ ?_ ?_
  · intro ee v st' hee hret ho ws' tys' H' locs' ls' S' cells' slots' g1 g2 hI' hls hS' hc' hs'
    cases ho
    obtain ⟨hk, rfl⟩ := jm_ret1 hret
    obtain ⟨hdec, hnp, -⟩ := jy_code okwL_law hee
    have hi := jm_k2 hk
    rw [hi] at hdec hnp
    have h1 : ee.2.2.1 - ee.1 = 1 := by
      simp only [jm_il] at hnp
      omega
    rw [h1] at hdec
    match S', hS' with
    | [V], ⟨hV, _⟩ =>
      have hV : V = .int (Int32.ofNat 1) := hV
      subst hV
      refine va_forget (fun q hq => hI'.2.2.2.1.2.2 q hq) ?_
      dsimp only at hc' hs'
      exact W.widen (k := 601024) (n := 7293034) (by omega) (by omega) (lw_ret hx hb hr hlocks hdec)
  · intro ee h1 hee hk6 hM0 ho
    cases ho
  · intro E hM0 ho
    cases ho
