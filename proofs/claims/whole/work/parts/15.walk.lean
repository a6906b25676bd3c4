/-! the walk of a method, and the contracts of those that it calls -/
theorem jr_good {ws : List Cond} (h : ∀ w ∈ ws, w ∈ jr_T) : GoodIn jr_T ws := goodIn_sub h (List.all_eq_true.mpr fun w hw => (List.mem_filter.mp (h w hw)).2)
theorem jx_trueD {A : Nat → Prop} {ws : va_W} (h : va_D A ws) : va_D (fun _ => True) ws := h.weaken (fun _ _ _ _ => trivial)
section JV
variable {G : jm_G} {tb : List jm_M} {cl : List vw_C} {tx : List String} {l : Launch} {n : Nat}
theorem jx_body (hWk : jx_Walk G tb cl tx l n) (hl : l.stackTraces = false) (hT : ∀ M ∈ tb, jr_okM cl tx tb M) {d : Nat} {M : jm_M} {vs : List Value} {h : jm_H} {o : jm_O} {h' : jm_H} (hM : M ∈ tb) (hrun : jm_run G tb n d M 0 (jm_ent vs M.2.2.1) [] h = some (o, h')) (hlen : (jm_lay vs).length ≤ M.2.2.1)
    {D : va_G} {tys : List (ClassId × FieldType)} {ws : va_W} {b : Nat} {sa : Nat → Nat} {sz : Nat} {As : List Value} (hvs : jr_S b sa ws vs As) (hH : jr_H b sa ws tys h) {w0 : Cond} {mc ms : Nat} (hmc : h'.2.1 = h.2.1 + mc) (hms : h'.2.2 = h.2.2 + ms)
    {p : Program} {e : Env} {s : State} {m : MethodId} {args : Array Value} {below : List Frame} {meth : Method} {c : Code} {s₁ : State} (B : BodyLoose p l M.1 (headSpec (w0 :: jr_T) (jr_rm d mc ms)) M.2.1 M.2.2.1 M.2.2.2.1 e s m args below meth c s₁) (hml : c.maxLocals = M.2.2.1) (hok : jx_Ok M c) (hv : jx_P D cl tx G.2.1 b G.2.2.1 G.2.2.2 sa ws tys sz As args s) :
    W p l e (headSpec (w0 :: jr_T) (jr_rm d mc ms)).room s m args below meth c s.heap [] 0 0 (vx_MQ below (jx_Q D cl b sa ws tys sz o h') (jx_X D cl b sa ws tys sz o h') args s mc ms (va_A ws sz)) (entryFrame m args M.2.2.1) := by
  obtain ⟨rfl, hsz, hK, hP, hD0, hKK⟩ := hv
  have hts := atoms_spec (ws := w0 :: jr_T) B.pre
  have hE : jr_E p c M.2.1 M.2.2.1 s As.toArray M.1.cls M.1.name m meth (jr_rm d mc ms) := ⟨B.exec, B.bytes, hml, fun w hw => hts w (List.mem_cons_of_mem _ hw), findClass_of_methodNamed B.named, (name_of_methodNamed B.named B.method).1, by show 10 ≤ 10 + d; omega, by show 300 ≤ 300 + 120 * d; omega⟩
  have hoM := hT M hM
  rw [lg_entry_eq]
  have hI : jr_I D cl (va_A ws sz) b sa s h s.heap [] ws tys := ⟨hK, hP, by rw [← hsz]; exact (hD0.self (sz := s.heap.size)), va_S.rf, hH⟩
  refine hWk d M 0 (jm_ent vs M.2.2.1) [] h o h' (hT M hM).1 hrun p e (jr_rm d mc ms) s m As.toArray below meth c s.heap [] 0 0 _ _ [] D (va_A ws sz) tys ws b sa hE ⟨Nat.le_refl _, Nat.le_refl _⟩ hKK hok hI (jr_ent hvs hlen) trivial ⟨by show 0 + h'.2.1 ≤ mc + h.2.1; omega, by show 0 + h'.2.2 ≤ ms + h.2.2; omega⟩ ?_ ?_ ?_
  · intro ee v st' hee hret ho ws' tys' H' locs' ls' S' cells' slots' g1 g2 hI' hls hS' hc hs
    have e1 : cells' = mc := by omega
    have e2 : slots' = ms := by omega
    subst e1; subst e2
    exact jx_rets B.exec B.bytes B.returns B.notSynchronized hoM hsz hee hret ho g1 g2 hI' hS'
  · intro ee h1 hee hk6 hM0 ho hh ws' tys' H' locs' ls' cells' slots' g1 g2 hI' hls hc hs
    have hX : ∀ x ∈ c.exceptionTable.toList, False := by
      rcases hok with h9 | h9
      · exact h9.2
      · exact absurd hM0 h9.1
    exact jx_throws (G := G) (A0 := fun _ => True) B.exec B.bytes hl B.notSynchronized hE hKK hoM hX hsz hee hk6 ho hh g1 g2 hI' hls (by omega) (by omega) (Nat.le_refl _) (Nat.le_refl _)
  · intro E hM0 ho ws' tys' H' locs' ls' pc' rest cells' slots' q9 ce g1 g2 hI' hc hs hce hcv hcl
    have hX : ∀ x ∈ c.exceptionTable.toList, False := by
      rcases hok with h9 | h9
      · exact h9.2
      · exact absurd hM0 h9.1
    refine vx_outP (own := M.1.cls) hE.2.2.2.2.1 B.notSynchronized (fun z hz => (hX z hz).elim) hce hcv hcl (fun t ht hvm => ?_) hI'.2.2.2.1.2.2 (by omega) (by omega)
    obtain ⟨k1, k2⟩ := jx_back hsz g1 g2 hI' ht hvm
    exact ⟨⟨E, ws', ho, rfl, k1⟩, k2⟩
theorem jx_metx (hWk : jx_Walk G tb cl tx l n) (hl : l.stackTraces = false) (hT : ∀ M ∈ tb, jr_okM cl tx tb M) {d : Nat} {M : jm_M} {vs : List Value} {h : jm_H} {o : jm_O} {h' : jm_H} (hM : M ∈ tb) (hrun : jm_run G tb n d M 0 (jm_ent vs M.2.2.1) [] h = some (o, h')) (hlen : (jm_lay vs).length ≤ M.2.2.1)
    {D : va_G} {tys : List (ClassId × FieldType)} {ws : va_W} {b : Nat} {sa : Nat → Nat} {sz : Nat} {As : List Value} (hvs : jr_S b sa ws vs As) (hH : jr_H b sa ws tys h) {mc ms : Nat} (hmc : h'.2.1 = h.2.1 + mc) (hms : h'.2.2 = h.2.2 + ms) (hhs : M.2.2.2.2.1 = []) :
    vx_Met l M.1 (Cond.code M.1 M.2.1 M.2.2.1 M.2.2.2.1 :: jr_T) (jr_rm d mc ms) (jx_P D cl tx G.2.1 b G.2.2.1 G.2.2.2 sa ws tys sz As) (jx_Q D cl b sa ws tys sz o h') (jx_X D cl b sa ws tys sz o h') mc ms (va_A ws sz) :=
  vx_ofW (hT M hM).2.1.1 rfl (fun _ _ _ _ _ _ _ _ _ B hml hX hv => jx_body hWk hl hT hM hrun hlen hvs hH hmc hms B hml (Or.inl ⟨hhs, hX⟩) hv)
theorem jx_meth (hWk : jx_Walk G tb cl tx l n) (hl : l.stackTraces = false) (hT : ∀ M ∈ tb, jr_okM cl tx tb M) {d : Nat} {M : jm_M} {vs : List Value} {h : jm_H} {o : jm_O} {h' : jm_H} (hM : M ∈ tb) (hrun : jm_run G tb n d M 0 (jm_ent vs M.2.2.1) [] h = some (o, h')) (hlen : (jm_lay vs).length ≤ M.2.2.1)
    {D : va_G} {tys : List (ClassId × FieldType)} {ws : va_W} {b : Nat} {sa : Nat → Nat} {sz : Nat} {As : List Value} (hvs : jr_S b sa ws vs As) (hH : jr_H b sa ws tys h) {mc ms : Nat} (hmc : h'.2.1 = h.2.1 + mc) (hms : h'.2.2 = h.2.2 + ms) {hh : List (Nat × Nat × Nat × Nat)} (hhs : M.2.2.2.2.1 ≠ []) (hhh : jr_hh M.1.cls M.2.2.2.2.1 hh) :
    vx_Met l M.1 (Cond.codeWith M.1 M.2.1 M.2.2.1 M.2.2.2.1 hh :: jr_T) (jr_rm d mc ms) (jx_P D cl tx G.2.1 b G.2.2.1 G.2.2.2 sa ws tys sz As) (jx_Q D cl b sa ws tys sz o h') (jx_X D cl b sa ws tys sz o h') mc ms (va_A ws sz) :=
  vx_ofWH (hT M hM).2.1.1 rfl (fun _ _ _ _ _ _ _ _ _ B hml hv => jx_body hWk hl hT hM hrun hlen hvs hH hmc hms B hml (Or.inr ⟨hhs, hh, vx_table (x := M.1) B (atoms_spec (ws := Cond.codeWith M.1 M.2.1 M.2.2.1 M.2.2.2.1 hh :: jr_T) B.pre _ List.mem_cons_self), hhh⟩) hv)
theorem jx_metI {D : va_G} {tys : List (ClassId × FieldType)} {ws : va_W} {b : Nat} {sa : Nat → Nat} {sz : Nat} {v : Option Value} {h' : jm_H} {y : MethodName} {wl : List Cond} {rm : Room} {Pc : Array Value → State → Prop} {mc ms : Nat} {free : Addr → Prop}
    (hM : vx_Met l y wl rm Pc (jx_Q D cl b sa ws tys sz (.inl v) h') (jx_X D cl b sa ws tys sz (.inl v) h') mc ms free) : Met l y wl rm Pc (jx_Q D cl b sa ws tys sz (.inl v) h') mc ms free := by
  intro p e ha hc hk s m args below hf happ hP hK
  obtain ⟨k, o, h1, h2, h3, h4⟩ := hM p e ha hc hk s m args below hf happ hP hK
  refine ⟨k, o, h1, h2, h3, ?_⟩
  rcases h4 with h4 | ⟨q, -, E, ce, L, ⟨⟨k9, ws9, h9, -⟩, -⟩, -⟩
  · exact h4
  · cases h9
end JV
