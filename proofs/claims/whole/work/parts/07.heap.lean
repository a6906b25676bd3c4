/-! instructions that read, write, make cells; switches; the JDK's members -/
theorem jm_get_inv {h : jm_H} {a ci j : Nat} {v : Value} (e : jm_get h a ci j = some v) : ∃ fs : List Value, h.1[a]? = some (.inl (ci, fs)) ∧ fs[j]? = some v := by
  unfold jm_get at e
  split at e
  next c fs q =>
    split at e
    next g => subst g; exact ⟨fs, q, e⟩
    next => cases e
  next => cases e
theorem jm_getI_inv {h : jm_H} {a ci j : Nat} {v : Int32} (e : jm_getI h a ci j = some v) : jm_get h a ci j = some (.int v) := by
  unfold jm_getI at e
  split at e
  next x q => cases e; exact q
  next => cases e
theorem jm_getL_inv {h : jm_H} {a ci j : Nat} {v : Int64} (e : jm_getL h a ci j = some v) : jm_get h a ci j = some (.long v) := by
  unfold jm_getL at e
  split at e
  next x q => cases e; exact q
  next => cases e
theorem jm_getR_inv {h : jm_H} {a ci j : Nat} {v : Nat} (e : jm_getR h a ci j = some v) : jm_get h a ci j = some (.ref v) := by
  unfold jm_getR at e
  split at e
  next x q => cases e; exact q
  next => cases e
theorem jm_put_inv {h h' : jm_H} {a ci j : Nat} {v : Value} (e : jm_put h a ci j v = some h') : ∃ fs : List Value, h.1[a]? = some (.inl (ci, fs)) ∧ j < fs.length ∧ h' = (h.1.set a (.inl (ci, fs.set j v)), h.2) := by
  unfold jm_put at e
  split at e
  next c fs q =>
    split at e
    next g => obtain ⟨rfl, g2⟩ := g; cases e; exact ⟨fs, q, g2, rfl⟩
    next => cases e
  next => cases e
/-- a place's real cell -/
theorem jr_H.obj {b : Nat} {sa : Nat → Nat} {ws : va_W} {tys : List (ClassId × FieldType)} {h : jm_H} (g : jr_H b sa ws tys h) {k ci : Nat} {fs : List Value} {w : Nat × va_E} (hk : h.1[k]? = some (.inl (ci, fs))) (hw : ws[k]? = some w) : ∃ Fs : List Value, w = (w.1, .inr (ci, Fs)) ∧ Fs.length = fs.length ∧ ∀ (j : Nat) (v : Value), fs[j]? = some v → ∃ V, Fs[j]? = some V ∧ jr_V b sa ws v V := by
  obtain ⟨w', h1, Fs, h2, h3, h4⟩ := g.2 k _ hk
  cases hw.symm.trans h1
  exact ⟨Fs, by rw [← h2], h3, h4⟩
theorem jr_H.arr {b : Nat} {sa : Nat → Nat} {ws : va_W} {tys : List (ClassId × FieldType)} {h : jm_H} (g : jr_H b sa ws tys h) {k : Nat} {t : FieldType} {x : vp_A} {w : Nat × va_E} (hk : h.1[k]? = some (.inr (t, x))) (hw : ws[k]? = some w) : ∃ (cA : ClassId) (y : _) (t0 : Nat), w = (w.1, .inl (cA, (x.1, y))) ∧ tys[t0]? = some (cA, t) ∧ jr_A ws x.2 y := by
  obtain ⟨w', h1, cA, y, h2, h3, h4⟩ := g.2 k _ hk
  cases hw.symm.trans h1
  obtain ⟨t0, ht0⟩ := List.getElem?_of_mem h3
  exact ⟨cA, y, t0, by rw [← h2], ht0, h4⟩
theorem jr_obj_set {b : Nat} {sa : Nat → Nat} {ws : va_W} {tys : List (ClassId × FieldType)} {ci j : Nat} {fs Fs : List Value} {v V : Value} (h1 : Fs.length = fs.length) (h2 : ∀ (j : Nat) (v : Value), fs[j]? = some v → ∃ V, Fs[j]? = some V ∧ jr_V b sa ws v V) (hv : jr_V b sa ws v V) : jr_C b sa ws tys (.inl (ci, fs.set j v)) (.inr (ci, Fs.set j V)) := by
  refine ⟨Fs.set j V, rfl, by simp [h1], fun i u hu => ?_⟩
  have hu : (fs.set j v)[i]? = some u := hu
  by_cases e : j = i
  · subst e
    have hl : j < fs.length := by
      have := (List.getElem?_eq_some_iff.mp hu).1
      simpa using this
    rw [List.getElem?_set_self hl] at hu
    cases hu
    exact ⟨V, List.getElem?_set_self (by rw [h1]; exact hl), hv⟩
  · rw [List.getElem?_set_ne e] at hu
    obtain ⟨U, g1, g2⟩ := h2 i u hu
    exact ⟨U, by rw [List.getElem?_set_ne e]; exact g1, g2⟩
theorem jm_zt_fit {z : Nat} {t : FieldType} {v V : Value} {b : Nat} {sa : Nat → Nat} {ws : va_W} (h : jm_zt z t = true) (hv : jr_V b sa ws v V) (hs : (∃ x, v = .int x ∧ (z = 0 ∨ (z = 3 ∧ (x = 0 ∨ x = 1)))) ∨ (∃ x, v = .long x ∧ z = 1) ∨ (∃ x, v = .ref x ∧ z = 2)) : narrow t V = V ∧ fits t V = true := by
  rcases hs with ⟨x, rfl, rfl | ⟨rfl, h3⟩⟩ | ⟨x, rfl, rfl⟩ | ⟨x, rfl, rfl⟩
  · cases (show V = _ from hv)
    cases t <;> simp [jm_zt] at h
    exact ⟨rfl, rfl⟩
  · cases (show V = _ from hv)
    cases t <;> simp [jm_zt] at h
    rcases h3 with rfl | rfl <;> exact ⟨rfl, rfl⟩
  · cases (show V = _ from hv)
    cases t <;> simp [jm_zt] at h
    exact ⟨rfl, rfl⟩
  · obtain ⟨w, -, rfl⟩ := hv
    cases t <;> simp [jm_zt] at h <;> exact ⟨rfl, rfl⟩
section JR
variable {p : Program} {l : Launch} {e : Env} {R : Room} {s : State} {m : MethodId} {args : Array Value} {below : List Frame} {meth : Method} {c : Code} {H : Heap} {locs : List Loc} {cells slots : Nat} {Q : State → Prop}
variable {cc : ByteArray} {pc : Nat} {ls : Array Slot} {D : va_G} {cl : List vw_C} {A : Nat → Prop} {tys : List (ClassId × FieldType)} {ws : va_W}
variable {G : jm_G} {tx : List String} {tb : List jm_M} {Wd : List Cond} {own nm : String} {nL b Ln : Nat} {xs : Nat → Int32} {sa : Nat → Nat} {L : jm_L} {st S : List Value} {h : jm_H}
set_option maxHeartbeats 4000000 in
theorem jr_getfield {n : Nat} {np x y z w : Nat} {v : Value} {bs : List Bool} {q : jm_S} (hE : jr_E p c cc nL s args own nm m meth R) (hK : jr_K tx G.2.1 b G.2.2.1 G.2.2.2 sa A s) (hC : jr_cls cl G) (hcl50 : cl[50]? = none) (hW : ∀ w ∈ Wd, w ∈ lw_tbl) (he : jm_okb cl tx tb Wd own nm cc nL (pc, .getfield n, np, x, y, z, w, v, bs) = true) (hst : jm_stp G (pc, .getfield n, np, x, y, z, w, v, bs) L st h = some q)
    (hI : jr_I D cl A b sa s h H locs ws tys) (hL : jr_L b sa ws L ls nL) (hS : jr_S b sa ws st S) (hroom : cells + q.2.2.2.2.1 ≤ R.cells + h.2.1 ∧ slots + q.2.2.2.2.2 ≤ R.slots + h.2.2) (k : jr_go p l e R s m args below meth c D cl A nL b sa ws tys h cells slots Q q) : W p l e R s m args below meth c H locs cells slots Q (F0 m pc ls S) := by
  obtain ⟨hx, hb, hml, hts, hown, hnm, hRf, hRl⟩ := hE
  simp only [jm_okb, Bool.and_eq_true, decide_eq_true_eq] at he
  obtain ⟨hd0, hnp, hmk, ho⟩ := he
  simp only [jm_il] at hnp
  simp only [jm_stp] at hst
  have hd : decode cc pc = .ok (.getfield n, 3) := by rw [show np - pc = 3 by omega] at hd0; exact hd0
  split at hst
  case h_3 => cases hst
  case h_2 kk r0 =>
    split at hst
    case isFalse => cases hst
    case isTrue hg =>
    obtain ⟨rfl, hkl⟩ := hg
    rw [if_pos rfl] at ho
    have ho := of_decide_eq_true ho
    obtain ⟨V, R0, rfl, hV, hS0⟩ := jr_S_c hS
    have hV : V = .ref (sa kk) := hV
    subst hV
    obtain ⟨hK1, hP, hD, hSS, hH⟩ := id hI
    obtain ⟨s1, s2, s3, s4⟩ := hK.2.2.2.1.1 kk hkl
    have hlk := hts _ (jr_g (hW _ (List.mem_of_getElem? ho)) (by split <;> rfl))
    subst hnp
    split at hst
    case isTrue hy =>
      cases hst
      rw [if_pos hy] at hlk
      exact vk_getf hx hb s3 hSS hown hlk (fun _ h9 => h9) hd (k.k0 hI rfl hL ⟨rfl, hS0⟩)
    case isFalse hy =>
      cases hst
      rw [if_neg hy] at hlk
      exact vk_getf hx hb s2 hSS hown hlk (fun _ h9 => h9) hd (k.k0 hI rfl hL ⟨rfl, hS0⟩)
  case h_1 a r0 =>
    have hx50 : ¬ x = 50 := fun e9 => by
      subst e9
      have : ∀ u : Value, jm_get h a 50 y = some u → False := fun u hu => by
        obtain ⟨fs, q1, q2⟩ := jm_get_inv hu
        obtain ⟨w9, g1, Fs9, g2, -⟩ := hI.2.2.2.2.2 a _ q1
        obtain ⟨hK1, hP, -⟩ := hI
        have g3 := hP a w9 g1
        unfold va_at at g3
        rw [g2] at g3
        obtain ⟨r9, g4, -⟩ := g3
        have g4 : cl[50]? = some r9 := g4
        rw [hcl50] at g4
        cases g4
      split at hst
      · obtain ⟨u, h1, -⟩ := Option.map_eq_some_iff.mp hst
        exact this _ (jm_getI_inv h1)
      · split at hst
        · obtain ⟨u, h1, -⟩ := Option.map_eq_some_iff.mp hst
          exact this _ (jm_getL_inv h1)
        · obtain ⟨u, h1, -⟩ := Option.map_eq_some_iff.mp hst
          exact this _ (jm_getR_inv h1)
    rw [if_neg hx50] at ho
    obtain ⟨w0, R0, hw0, rfl, hS0⟩ := jr_S_r hS
    split at ho
    case h_2 => cases ho
    case h_1 qc hqc =>
    simp only [Bool.and_eq_true, decide_eq_true_eq] at ho
    obtain ⟨ho1, ho2⟩ := ho
    obtain ⟨hc1, -⟩ := hC x qc hqc
    have hlink := hts _ (jr_g (hW _ (List.mem_of_getElem? ho2)) rfl)
    have fin : ∀ u : Value, jm_get h a x y = some u → ∀ q' : jm_S, q' = (np, L, u :: r0, h) → jr_go p l e R s m args below meth c D cl A nL b sa ws tys h cells slots Q q' → W p l e R s m args below meth c H locs cells slots Q (F0 m pc ls (.ref w0.1 :: R0)) := by
      intro u hu q' hq' k
      subst hq'
      obtain ⟨fs, hf1, hf2⟩ := jm_get_inv hu
      obtain ⟨hK1, hP, hD, hSS, hH⟩ := id hI
      obtain ⟨Fs, ew, el, ev⟩ := hH.obj hf1 hw0
      obtain ⟨V, hV1, hV2⟩ := ev y u hf2
      rw [ew] at hw0
      subst hnp
      exact va_get (D := D) (ci := x) (v := V) (C := qc.1) (T := qc.2.1) (N := qc.2.2) (ref := (qc.2.1 y).1) hx hb hts hc1 hown hK1 hP a hw0 hqc y ho1 hlink (fun _ h9 => h9) hV1 hd (k.k0 hI rfl hL ⟨hV2, hS0⟩)
    split at hst
    case isTrue =>
      obtain ⟨u, h1, rfl⟩ := Option.map_eq_some_iff.mp hst
      exact fin _ (jm_getI_inv h1) _ rfl k
    case isFalse =>
      split at hst
      case isTrue =>
        obtain ⟨u, h1, rfl⟩ := Option.map_eq_some_iff.mp hst
        exact fin _ (jm_getL_inv h1) _ rfl k
      case isFalse =>
        obtain ⟨u, h1, rfl⟩ := Option.map_eq_some_iff.mp hst
        exact fin _ (jm_getR_inv h1) _ rfl k
set_option maxHeartbeats 4000000 in
theorem jr_putfield {n : Nat} {np x y z w : Nat} {v : Value} {bs : List Bool} {q : jm_S} (hE : jr_E p c cc nL s args own nm m meth R) (hK : jr_K tx G.2.1 b G.2.2.1 G.2.2.2 sa A s) (hC : jr_cls cl G) (hW : ∀ w ∈ Wd, w ∈ lw_tbl) (he : jm_okb cl tx tb Wd own nm cc nL (pc, .putfield n, np, x, y, z, w, v, bs) = true) (hst : jm_stp G (pc, .putfield n, np, x, y, z, w, v, bs) L st h = some q)
    (hI : jr_I D cl A b sa s h H locs ws tys) (hL : jr_L b sa ws L ls nL) (hS : jr_S b sa ws st S) (hroom : cells + q.2.2.2.2.1 ≤ R.cells + h.2.1 ∧ slots + q.2.2.2.2.2 ≤ R.slots + h.2.2) (k : jr_go p l e R s m args below meth c D cl A nL b sa ws tys h cells slots Q q) : W p l e R s m args below meth c H locs cells slots Q (F0 m pc ls S) := by
  obtain ⟨hx, hb, hml, hts, hown, hnm, hRf, hRl⟩ := hE
  simp only [jm_okb, Bool.and_eq_true, decide_eq_true_eq] at he
  obtain ⟨hd0, hnp, hmk, ho⟩ := he
  simp only [jm_il] at hnp
  simp only [jm_stp] at hst
  have hd : decode cc pc = .ok (.putfield n, 3) := by rw [show np - pc = 3 by omega] at hd0; exact hd0
  split at ho
  case h_2 => cases ho
  case h_1 qc hqc =>
  simp only [Bool.and_eq_true, decide_eq_true_eq] at ho
  obtain ⟨ho1, ho2, ho3, ho4⟩ := ho
  obtain ⟨hc1, ⟨ty0, hty, hdf⟩, hnn, -⟩ := hC x qc hqc
  have hlink := hts _ (jr_g (hW _ (List.mem_of_getElem? ho2)) rfl)
  have fin : ∀ (a : Nat) (u : Value) (r0 : List Value) (h' : jm_H), st = u :: .ref a :: r0 → jm_put h a x y u = some h' → ((∃ x, u = .int x ∧ (z = 0 ∨ (z = 3 ∧ (x = 0 ∨ x = 1)))) ∨ (∃ x, u = .long x ∧ z = 1) ∨ (∃ x, u = .ref x ∧ z = 2)) → q = (np, L, r0, h') → W p l e R s m args below meth c H locs cells slots Q (F0 m pc ls S) := by
    intro a u r0 h' hst' hu hz hq'
    subst hq'
    subst hst'
    obtain ⟨V, R1, rfl, hV, hS1⟩ := jr_S_c hS
    obtain ⟨w0, R0, hw0, rfl, hS0⟩ := jr_S_r hS1
    obtain ⟨fs, hf1, hf2, rfl⟩ := jm_put_inv hu
    obtain ⟨hK1, hP, hD, hSS, hH⟩ := hI
    obtain ⟨Fs, ew, el, ev⟩ := hH.obj hf1 hw0
    rw [ew] at hw0
    split at ho3
    case h_2 => cases ho3
    case h_1 ty hpt =>
    obtain ⟨hn1, hn2⟩ := jm_zt_fit ho3 hV hz
    subst hnp
    have go : ∀ (H1 : Heap) (locs1 : List Loc), va_P D cl (ws.set a (w0.1, .inr (x, Fs.set y V))) H1 → va_D A (ws.set a (w0.1, .inr (x, Fs.set y V))) → va_S A s.heap H1 locs1 → W p l e R s m args below meth c H1 locs1 cells slots Q (F0 m (pc + 3) ls R0) := by
      intro H1 locs1 hP1 hD1 hS9
      exact k _ tys H1 locs1 ls R0 cells slots (jr_le.set hw0) (fun _ h => h) ⟨hK1, hP1, hD1, hS9, hH.set hw0 (jr_obj_set el ev hV)⟩ (hL.mono (jr_le.set hw0)) (hS0.mono (jr_le.set hw0)) rfl rfl
    split at ho4
    case isTrue hfin =>
      simp only [Bool.and_eq_true, decide_eq_true_eq] at ho4
      exact va_putF (D := D) (ci := x) (v := V) (ty := ty) (C := qc.1) (T := qc.2.1) (N := qc.2.2) (ref := (qc.2.1 y).1) hx hb hts hc1 ty0 hty hnn hown hK1 hP hD hSS a hw0 hqc y ho1 hlink (fun _ h9 => h9) hfin (hnm.trans ho4.1) ho4.2 hpt hn1 hn2 (by rw [el]; exact hf2) hd go
    case isFalse hfin =>
      exact va_put (D := D) (ci := x) (v := V) (ty := ty) (C := qc.1) (T := qc.2.1) (N := qc.2.2) (ref := (qc.2.1 y).1) hx hb hts hc1 ty0 hty hnn hown hK1 hP hD hSS a hw0 hqc y ho1 hlink (fun _ h9 => h9) (by simpa using hfin) hpt hn1 hn2 (by rw [el]; exact hf2) hd go
  split at hst
  case h_1 v0 a r0 =>
    split at hst
    case isTrue hz =>
      obtain ⟨h', h1, rfl⟩ := Option.map_eq_some_iff.mp hst
      exact fin a _ r0 h' rfl h1 (Or.inl ⟨v0, rfl, hz⟩) rfl
    case isFalse => cases hst
  case h_2 v0 a r0 =>
    split at hst
    case isTrue hz =>
      obtain ⟨h', h1, rfl⟩ := Option.map_eq_some_iff.mp hst
      exact fin a _ r0 h' rfl h1 (Or.inr (Or.inl ⟨v0, rfl, hz⟩)) rfl
    case isFalse => cases hst
  case h_3 v0 a r0 =>
    split at hst
    case isTrue hz =>
      obtain ⟨h', h1, rfl⟩ := Option.map_eq_some_iff.mp hst
      exact fin a _ r0 h' rfl h1 (Or.inr (Or.inr ⟨v0, rfl, hz⟩)) rfl
    case isFalse => cases hst
  case h_4 => cases hst
set_option maxHeartbeats 4000000 in
theorem jr_iaload {np x y z w : Nat} {v : Value} {bs : List Bool} {q : jm_S} (hE : jr_E p c cc nL s args own nm m meth R) (hK : jr_K tx G.2.1 b G.2.2.1 G.2.2.2 sa A s) (hC : jr_cls cl G) (hW : ∀ w ∈ Wd, w ∈ lw_tbl) (he : jm_okb cl tx tb Wd own nm cc nL (pc, .iaload, np, x, y, z, w, v, bs) = true) (hst : jm_stp G (pc, .iaload, np, x, y, z, w, v, bs) L st h = some q)
    (hI : jr_I D cl A b sa s h H locs ws tys) (hL : jr_L b sa ws L ls nL) (hS : jr_S b sa ws st S) (hroom : cells + q.2.2.2.2.1 ≤ R.cells + h.2.1 ∧ slots + q.2.2.2.2.2 ≤ R.slots + h.2.2) (k : jr_go p l e R s m args below meth c D cl A nL b sa ws tys h cells slots Q q) : W p l e R s m args below meth c H locs cells slots Q (F0 m pc ls S) := by
  obtain ⟨hx, hb, hml, hts, hown, hnm, hRf, hRl⟩ := hE
  simp only [jm_okb, Bool.and_eq_true, decide_eq_true_eq] at he
  obtain ⟨hd0, hnp, hmk, ho⟩ := he
  simp only [jm_il] at hnp
  simp only [jm_stp] at hst
  have hd : decode cc pc = .ok (.iaload, 1) := by rw [show np - pc = 1 by omega] at hd0; exact hd0
  split at hst
  case h_3 => cases hst
  case h_2 i0 u0 r0 =>
    split at hst
    case isFalse => cases hst
    case isTrue hg =>
    obtain ⟨rfl, hg2⟩ := hg
    cases hst
    obtain ⟨R1, rfl, hS1⟩ := jr_S_i hS
    obtain ⟨V, R0, rfl, hV, hS0⟩ := jr_S_c hS1
    have hV : V = .ref b := by
      rcases hV with ⟨-, h9⟩ | ⟨h9, -⟩
      · exact h9
      · exact absurd rfl h9
    subst hV
    obtain ⟨hK1, hP, hD, hSS, hH⟩ := id hI
    subst hnp
    exact va_sld hx hb hK.2.1.1 hK.2.1.2.1 hK.2.1.2.2 hSS (jm_in_of hg2) hd (k.k0 hI rfl hL ⟨rfl, hS0⟩)
  case h_1 i0 a r0 =>
    obtain ⟨u, h1, rfl⟩ := Option.map_eq_some_iff.mp hst
    obtain ⟨R1, rfl, hS1⟩ := jr_S_i hS
    obtain ⟨w0, R0, hw0, rfl, hS0⟩ := jr_S_r hS1
    unfold jm_aldI at h1
    split at h1
    case h_2 => cases h1
    case h_1 t' n f hf =>
    split at h1
    case isFalse => cases h1
    case isTrue hg =>
    obtain ⟨rfl, hg2⟩ := hg
    cases h1
    obtain ⟨hK1, hP, hD, hSS, hH⟩ := id hI
    obtain ⟨cA, y0, t0, ew, et, ey⟩ := hH.arr hf hw0
    cases (show y0 = _ from ey)
    rw [ew] at hw0
    subst hnp
    exact va_iald hx hb hK1 hP a t0 hw0 et (jm_in_of hg2) hd (k.k0 hI rfl hL ⟨rfl, hS0⟩)
set_option maxHeartbeats 4000000 in
theorem jr_baload {np x y z w : Nat} {v : Value} {bs : List Bool} {q : jm_S} (hE : jr_E p c cc nL s args own nm m meth R) (hK : jr_K tx G.2.1 b G.2.2.1 G.2.2.2 sa A s) (hC : jr_cls cl G) (hW : ∀ w ∈ Wd, w ∈ lw_tbl) (he : jm_okb cl tx tb Wd own nm cc nL (pc, .baload, np, x, y, z, w, v, bs) = true) (hst : jm_stp G (pc, .baload, np, x, y, z, w, v, bs) L st h = some q)
    (hI : jr_I D cl A b sa s h H locs ws tys) (hL : jr_L b sa ws L ls nL) (hS : jr_S b sa ws st S) (hroom : cells + q.2.2.2.2.1 ≤ R.cells + h.2.1 ∧ slots + q.2.2.2.2.2 ≤ R.slots + h.2.2) (k : jr_go p l e R s m args below meth c D cl A nL b sa ws tys h cells slots Q q) : W p l e R s m args below meth c H locs cells slots Q (F0 m pc ls S) := by
  obtain ⟨hx, hb, hml, hts, hown, hnm, hRf, hRl⟩ := hE
  simp only [jm_okb, Bool.and_eq_true, decide_eq_true_eq] at he
  obtain ⟨hd0, hnp, hmk, ho⟩ := he
  simp only [jm_il] at hnp
  simp only [jm_stp] at hst
  have hd : decode cc pc = .ok (.baload, 1) := by rw [show np - pc = 1 by omega] at hd0; exact hd0
  split at hst
  case h_3 => cases hst
  case h_2 j0 kk r0 =>
    split at hst
    case isTrue => cases hst
    case isFalse hk9 =>
    split at hst
    case h_2 => cases hst
    case h_1 sx hsx =>
    split at hst
    case isFalse => cases hst
    case isTrue hin =>
    cases hst
    obtain ⟨R1, rfl, hS1⟩ := jr_S_i hS
    obtain ⟨V, R0, rfl, hV, hS0⟩ := jr_S_c hS1
    have hV : V = .ref (sa kk) := hV
    subst hV
    obtain ⟨hK1, hP, hD, hSS, hH⟩ := id hI
    have hkl := (List.getElem?_eq_some_iff.mp hsx).1
    obtain ⟨s1, s2, s3, s4⟩ := hK.2.2.2.1.1 (kk - 1000) hkl
    dsimp only at s4
    rw [show kk - 1000 + 1000 = kk by omega] at s4
    have e1 : (G.2.1.map List.length).getD (kk - 1000) 0 = sx.length := by simp [List.getD, hsx]
    have e2 : G.2.1.getD (kk - 1000) [] = sx := by simp [List.getD, hsx]
    rw [e1] at s4
    subst hnp
    exact va_tb hx hb s4 hSS (jm_in_of hin) (by rw [e2]) hd (k.k0 hI rfl hL ⟨rfl, hS0⟩)
  case h_1 i0 a r0 =>
    obtain ⟨u, h1, rfl⟩ := Option.map_eq_some_iff.mp hst
    obtain ⟨R1, rfl, hS1⟩ := jr_S_i hS
    obtain ⟨w0, R0, hw0, rfl, hS0⟩ := jr_S_r hS1
    unfold jm_aldI at h1
    split at h1
    case h_2 => cases h1
    case h_1 t' n f hf =>
    split at h1
    case isFalse => cases h1
    case isTrue hg =>
    obtain ⟨rfl, hg2⟩ := hg
    cases h1
    obtain ⟨hK1, hP, hD, hSS, hH⟩ := id hI
    obtain ⟨cA, y0, t0, ew, et, ey⟩ := hH.arr hf hw0
    cases (show y0 = _ from ey)
    rw [ew] at hw0
    subst hnp
    exact va_bald hx hb hK1 hP a t0 hw0 et (jm_in_of hg2) hd (k.k0 hI rfl hL ⟨rfl, hS0⟩)
set_option maxHeartbeats 4000000 in
theorem jr_laload {np x y z w : Nat} {v : Value} {bs : List Bool} {q : jm_S} (hE : jr_E p c cc nL s args own nm m meth R) (hK : jr_K tx G.2.1 b G.2.2.1 G.2.2.2 sa A s) (hC : jr_cls cl G) (hW : ∀ w ∈ Wd, w ∈ lw_tbl) (he : jm_okb cl tx tb Wd own nm cc nL (pc, .laload, np, x, y, z, w, v, bs) = true) (hst : jm_stp G (pc, .laload, np, x, y, z, w, v, bs) L st h = some q)
    (hI : jr_I D cl A b sa s h H locs ws tys) (hL : jr_L b sa ws L ls nL) (hS : jr_S b sa ws st S) (hroom : cells + q.2.2.2.2.1 ≤ R.cells + h.2.1 ∧ slots + q.2.2.2.2.2 ≤ R.slots + h.2.2) (k : jr_go p l e R s m args below meth c D cl A nL b sa ws tys h cells slots Q q) : W p l e R s m args below meth c H locs cells slots Q (F0 m pc ls S) := by
  obtain ⟨hx, hb, hml, hts, hown, hnm, hRf, hRl⟩ := hE
  simp only [jm_okb, Bool.and_eq_true, decide_eq_true_eq] at he
  obtain ⟨hd0, hnp, hmk, ho⟩ := he
  simp only [jm_il] at hnp
  simp only [jm_stp] at hst
  have hd : decode cc pc = .ok (.laload, 1) := by rw [show np - pc = 1 by omega] at hd0; exact hd0
  split at hst
  case h_2 => cases hst
  case h_1 i0 a r0 =>
    obtain ⟨u, h1, rfl⟩ := Option.map_eq_some_iff.mp hst
    obtain ⟨R1, rfl, hS1⟩ := jr_S_i hS
    obtain ⟨w0, R0, hw0, rfl, hS0⟩ := jr_S_r hS1
    unfold jm_aldL at h1
    split at h1
    case h_2 => cases h1
    case h_1 t' n f hf =>
    split at h1
    case isFalse => cases h1
    case isTrue hg =>
    obtain ⟨rfl, hg2⟩ := hg
    cases h1
    obtain ⟨hK1, hP, hD, hSS, hH⟩ := id hI
    obtain ⟨cA, y0, t0, ew, et, ey⟩ := hH.arr hf hw0
    cases (show y0 = _ from ey)
    rw [ew] at hw0
    subst hnp
    exact va_lald hx hb hK1 hP a t0 hw0 et (jm_in_of hg2) hd (k.k0 hI rfl hL ⟨rfl, hS0⟩)
set_option maxHeartbeats 4000000 in
theorem jr_aaload {np x y z w : Nat} {v : Value} {bs : List Bool} {q : jm_S} (hE : jr_E p c cc nL s args own nm m meth R) (hK : jr_K tx G.2.1 b G.2.2.1 G.2.2.2 sa A s) (hC : jr_cls cl G) (hW : ∀ w ∈ Wd, w ∈ lw_tbl) (he : jm_okb cl tx tb Wd own nm cc nL (pc, .aaload, np, x, y, z, w, v, bs) = true) (hst : jm_stp G (pc, .aaload, np, x, y, z, w, v, bs) L st h = some q)
    (hI : jr_I D cl A b sa s h H locs ws tys) (hL : jr_L b sa ws L ls nL) (hS : jr_S b sa ws st S) (hroom : cells + q.2.2.2.2.1 ≤ R.cells + h.2.1 ∧ slots + q.2.2.2.2.2 ≤ R.slots + h.2.2) (k : jr_go p l e R s m args below meth c D cl A nL b sa ws tys h cells slots Q q) : W p l e R s m args below meth c H locs cells slots Q (F0 m pc ls S) := by
  obtain ⟨hx, hb, hml, hts, hown, hnm, hRf, hRl⟩ := hE
  simp only [jm_okb, Bool.and_eq_true, decide_eq_true_eq] at he
  obtain ⟨hd0, hnp, hmk, ho⟩ := he
  simp only [jm_il] at hnp
  simp only [jm_stp] at hst
  have hd : decode cc pc = .ok (.aaload, 1) := by rw [show np - pc = 1 by omega] at hd0; exact hd0
  split at hst
  case h_2 => cases hst
  case h_1 i0 a r0 =>
    obtain ⟨R1, rfl, hS1⟩ := jr_S_i hS
    obtain ⟨w0, R0, hw0, rfl, hS0⟩ := jr_S_r hS1
    have key : ∀ o : Option Nat, jm_aldR h a i0 = some o → ∃ O : Option Nat, jr_O ws o O ∧ (W p l e R s m args below meth c H locs cells slots Q (F0 m (pc + 1) ls (va_rf O :: R0)) → W p l e R s m args below meth c H locs cells slots Q (F0 m pc ls (.int i0 :: .ref w0.1 :: R0))) := by
      intro o h1
      unfold jm_aldR at h1
      split at h1
      case h_2 => cases h1
      case h_1 t' n f hf =>
      split at h1
      case isFalse => cases h1
      case isTrue hg =>
      obtain ⟨hg1, hg2⟩ := hg
      cases h1
      obtain ⟨hK1, hP, hD, hSS, hH⟩ := id hI
      obtain ⟨cA, y0, t0, ew, et, q', ey, eq⟩ := hH.arr hf hw0
      have ey : y0 = _ := ey
      subst ey
      rw [ew] at hw0
      have hin := jm_in_of hg2
      have hlt : i0.toNatClampNeg < n := Nat.not_le.mp fun q => hin (Or.inr q)
      exact ⟨q' i0.toNatClampNeg, eq _, fun kk => W.aald (v := va_rf (q' i0.toNatClampNeg)) (ty := t') hx hb (hP a _ hw0) ((hK1.2 t0 _ et).1 n (fun j => va_rf (q' j))) hg1 (fun q => by cases q) (by show ¬ (i0 < 0 ∨ (arrV _ _ _).slots.size ≤ _); rw [arrV_size]; exact hin) (by show (arrV _ _ _).slots[_]? = _; rw [arrV_read _ _ hlt]) rfl rfl hd kk⟩
    split at hst
    case h_1 v0 hv0 =>
      cases hst
      obtain ⟨O, hO, go⟩ := key _ hv0
      obtain ⟨w1, hw1, rfl⟩ := hO
      subst hnp
      exact go (k.k0 hI rfl hL ⟨⟨w1, hw1, rfl⟩, hS0⟩)
    case h_2 hv0 =>
      cases hst
      obtain ⟨O, hO, go⟩ := key _ hv0
      cases (show O = _ from hO)
      subst hnp
      exact go (k.k0 hI rfl hL ⟨rfl, hS0⟩)
    case h_3 => cases hst
set_option maxHeartbeats 4000000 in
theorem jr_iastore {np x y z w : Nat} {v : Value} {bs : List Bool} {q : jm_S} (hE : jr_E p c cc nL s args own nm m meth R) (hK : jr_K tx G.2.1 b G.2.2.1 G.2.2.2 sa A s) (hC : jr_cls cl G) (hW : ∀ w ∈ Wd, w ∈ lw_tbl) (he : jm_okb cl tx tb Wd own nm cc nL (pc, .iastore, np, x, y, z, w, v, bs) = true) (hst : jm_stp G (pc, .iastore, np, x, y, z, w, v, bs) L st h = some q)
    (hI : jr_I D cl A b sa s h H locs ws tys) (hL : jr_L b sa ws L ls nL) (hS : jr_S b sa ws st S) (hroom : cells + q.2.2.2.2.1 ≤ R.cells + h.2.1 ∧ slots + q.2.2.2.2.2 ≤ R.slots + h.2.2) (k : jr_go p l e R s m args below meth c D cl A nL b sa ws tys h cells slots Q q) : W p l e R s m args below meth c H locs cells slots Q (F0 m pc ls S) := by
  obtain ⟨hx, hb, hml, hts, hown, hnm, hRf, hRl⟩ := hE
  simp only [jm_okb, Bool.and_eq_true, decide_eq_true_eq] at he
  obtain ⟨hd0, hnp, hmk, ho⟩ := he
  simp only [jm_il] at hnp
  simp only [jm_stp] at hst
  have hd : decode cc pc = .ok (.iastore, 1) := by rw [show np - pc = 1 by omega] at hd0; exact hd0
  split at hst
  case h_2 => cases hst
  case h_1 v0 i0 a r0 =>
    obtain ⟨h', h1, rfl⟩ := Option.map_eq_some_iff.mp hst
    obtain ⟨R2, rfl, hS2⟩ := jr_S_i hS
    obtain ⟨R1, rfl, hS1⟩ := jr_S_i hS2
    obtain ⟨w0, R0, hw0, rfl, hS0⟩ := jr_S_r hS1
    unfold jm_astI at h1
    split at h1
    case h_2 => cases h1
    case h_1 t' n f hf =>
    split at h1
    case isFalse => cases h1
    case isTrue hg =>
    obtain ⟨rfl, hg2⟩ := hg
    cases h1
    obtain ⟨hK1, hP, hD, hSS, hH⟩ := hI
    obtain ⟨cA, y0, t0, ew, et, ey⟩ := hH.arr hf hw0
    cases (show y0 = _ from ey)
    rw [ew] at hw0
    subst hnp
    refine va_iast hx hb hK1 hP hD hSS a t0 hw0 et (jm_in_of hg2) hd (fun H1 locs1 hP1 hD1 hS9 => ?_)
    exact k _ tys H1 locs1 ls R0 cells slots (jr_le.set hw0) (fun _ h => h) ⟨hK1, hP1, hD1, hS9, hH.set hw0 ⟨cA, _, rfl, List.mem_of_getElem? et, rfl⟩⟩ (hL.mono (jr_le.set hw0)) (hS0.mono (jr_le.set hw0)) rfl rfl
set_option maxHeartbeats 4000000 in
theorem jr_bastore {np x y z w : Nat} {v : Value} {bs : List Bool} {q : jm_S} (hE : jr_E p c cc nL s args own nm m meth R) (hK : jr_K tx G.2.1 b G.2.2.1 G.2.2.2 sa A s) (hC : jr_cls cl G) (hW : ∀ w ∈ Wd, w ∈ lw_tbl) (he : jm_okb cl tx tb Wd own nm cc nL (pc, .bastore, np, x, y, z, w, v, bs) = true) (hst : jm_stp G (pc, .bastore, np, x, y, z, w, v, bs) L st h = some q)
    (hI : jr_I D cl A b sa s h H locs ws tys) (hL : jr_L b sa ws L ls nL) (hS : jr_S b sa ws st S) (hroom : cells + q.2.2.2.2.1 ≤ R.cells + h.2.1 ∧ slots + q.2.2.2.2.2 ≤ R.slots + h.2.2) (k : jr_go p l e R s m args below meth c D cl A nL b sa ws tys h cells slots Q q) : W p l e R s m args below meth c H locs cells slots Q (F0 m pc ls S) := by
  obtain ⟨hx, hb, hml, hts, hown, hnm, hRf, hRl⟩ := hE
  simp only [jm_okb, Bool.and_eq_true, decide_eq_true_eq] at he
  obtain ⟨hd0, hnp, hmk, ho⟩ := he
  simp only [jm_il] at hnp
  simp only [jm_stp] at hst
  have hd : decode cc pc = .ok (.bastore, 1) := by rw [show np - pc = 1 by omega] at hd0; exact hd0
  split at hst
  case h_2 => cases hst
  case h_1 v0 i0 a r0 =>
    obtain ⟨h', h1, rfl⟩ := Option.map_eq_some_iff.mp hst
    obtain ⟨R2, rfl, hS2⟩ := jr_S_i hS
    obtain ⟨R1, rfl, hS1⟩ := jr_S_i hS2
    obtain ⟨w0, R0, hw0, rfl, hS0⟩ := jr_S_r hS1
    unfold jm_astI at h1
    split at h1
    case h_2 => cases h1
    case h_1 t' n f hf =>
    split at h1
    case isFalse => cases h1
    case isTrue hg =>
    obtain ⟨rfl, hg2⟩ := hg
    cases h1
    obtain ⟨hK1, hP, hD, hSS, hH⟩ := hI
    obtain ⟨cA, y0, t0, ew, et, ey⟩ := hH.arr hf hw0
    cases (show y0 = _ from ey)
    rw [ew] at hw0
    subst hnp
    refine va_bast hx hb hK1 hP hD hSS a t0 hw0 et (jm_in_of hg2) hd (fun H1 locs1 hP1 hD1 hS9 => ?_)
    exact k _ tys H1 locs1 ls R0 cells slots (jr_le.set hw0) (fun _ h => h) ⟨hK1, hP1, hD1, hS9, hH.set hw0 ⟨cA, _, rfl, List.mem_of_getElem? et, rfl⟩⟩ (hL.mono (jr_le.set hw0)) (hS0.mono (jr_le.set hw0)) rfl rfl
set_option maxHeartbeats 4000000 in
theorem jr_lastore {np x y z w : Nat} {v : Value} {bs : List Bool} {q : jm_S} (hE : jr_E p c cc nL s args own nm m meth R) (hK : jr_K tx G.2.1 b G.2.2.1 G.2.2.2 sa A s) (hC : jr_cls cl G) (hW : ∀ w ∈ Wd, w ∈ lw_tbl) (he : jm_okb cl tx tb Wd own nm cc nL (pc, .lastore, np, x, y, z, w, v, bs) = true) (hst : jm_stp G (pc, .lastore, np, x, y, z, w, v, bs) L st h = some q)
    (hI : jr_I D cl A b sa s h H locs ws tys) (hL : jr_L b sa ws L ls nL) (hS : jr_S b sa ws st S) (hroom : cells + q.2.2.2.2.1 ≤ R.cells + h.2.1 ∧ slots + q.2.2.2.2.2 ≤ R.slots + h.2.2) (k : jr_go p l e R s m args below meth c D cl A nL b sa ws tys h cells slots Q q) : W p l e R s m args below meth c H locs cells slots Q (F0 m pc ls S) := by
  obtain ⟨hx, hb, hml, hts, hown, hnm, hRf, hRl⟩ := hE
  simp only [jm_okb, Bool.and_eq_true, decide_eq_true_eq] at he
  obtain ⟨hd0, hnp, hmk, ho⟩ := he
  simp only [jm_il] at hnp
  simp only [jm_stp] at hst
  have hd : decode cc pc = .ok (.lastore, 1) := by rw [show np - pc = 1 by omega] at hd0; exact hd0
  split at hst
  case h_2 => cases hst
  case h_1 v0 i0 a r0 =>
    obtain ⟨h', h1, rfl⟩ := Option.map_eq_some_iff.mp hst
    obtain ⟨R2, rfl, hS2⟩ := jr_S_l hS
    obtain ⟨R1, rfl, hS1⟩ := jr_S_i hS2
    obtain ⟨w0, R0, hw0, rfl, hS0⟩ := jr_S_r hS1
    unfold jm_astL at h1
    split at h1
    case h_2 => cases h1
    case h_1 t' n f hf =>
    split at h1
    case isFalse => cases h1
    case isTrue hg =>
    obtain ⟨rfl, hg2⟩ := hg
    cases h1
    obtain ⟨hK1, hP, hD, hSS, hH⟩ := hI
    obtain ⟨cA, y0, t0, ew, et, ey⟩ := hH.arr hf hw0
    cases (show y0 = _ from ey)
    rw [ew] at hw0
    subst hnp
    refine va_last hx hb hK1 hP hD hSS a t0 hw0 et (jm_in_of hg2) hd (fun H1 locs1 hP1 hD1 hS9 => ?_)
    exact k _ tys H1 locs1 ls R0 cells slots (jr_le.set hw0) (fun _ h => h) ⟨hK1, hP1, hD1, hS9, hH.set hw0 ⟨cA, _, rfl, List.mem_of_getElem? et, rfl⟩⟩ (hL.mono (jr_le.set hw0)) (hS0.mono (jr_le.set hw0)) rfl rfl
set_option maxHeartbeats 4000000 in
theorem jr_aastore {np x y z w : Nat} {v : Value} {bs : List Bool} {q : jm_S} (hE : jr_E p c cc nL s args own nm m meth R) (hK : jr_K tx G.2.1 b G.2.2.1 G.2.2.2 sa A s) (hC : jr_cls cl G) (hW : ∀ w ∈ Wd, w ∈ lw_tbl) (he : jm_okb cl tx tb Wd own nm cc nL (pc, .aastore, np, x, y, z, w, v, bs) = true) (hst : jm_stp G (pc, .aastore, np, x, y, z, w, v, bs) L st h = some q)
    (hI : jr_I D cl A b sa s h H locs ws tys) (hL : jr_L b sa ws L ls nL) (hS : jr_S b sa ws st S) (hroom : cells + q.2.2.2.2.1 ≤ R.cells + h.2.1 ∧ slots + q.2.2.2.2.2 ≤ R.slots + h.2.2) (k : jr_go p l e R s m args below meth c D cl A nL b sa ws tys h cells slots Q q) : W p l e R s m args below meth c H locs cells slots Q (F0 m pc ls S) := by
  obtain ⟨hx, hb, hml, hts, hown, hnm, hRf, hRl⟩ := hE
  simp only [jm_okb, Bool.and_eq_true, decide_eq_true_eq] at he
  obtain ⟨hd0, hnp, hmk, ho⟩ := he
  simp only [jm_il] at hnp
  simp only [jm_stp] at hst
  have hd : decode cc pc = .ok (.aastore, 1) := by rw [show np - pc = 1 by omega] at hd0; exact hd0
  split at hst
  case h_2 => cases hst
  case h_1 v0 i0 a r0 =>
    obtain ⟨h', h1, rfl⟩ := Option.map_eq_some_iff.mp hst
    obtain ⟨w2, R2, hw2, rfl, hS2⟩ := jr_S_r hS
    obtain ⟨R1, rfl, hS1⟩ := jr_S_i hS2
    obtain ⟨w0, R0, hw0, rfl, hS0⟩ := jr_S_r hS1
    unfold jm_astR at h1
    split at h1
    case h_2 => cases h1
    case h_1 t' n f c0 fs0 hf hf2 =>
    split at h1
    case isFalse => cases h1
    case isTrue hg =>
    obtain ⟨rfl, rfl, hg2⟩ := hg
    cases h1
    obtain ⟨hK1, hP, hD, hSS, hH⟩ := hI
    obtain ⟨cA, y0, t0, ew, et, q', ey, eq⟩ := hH.arr hf hw0
    have ey : y0 = _ := ey
    subst ey
    obtain ⟨Fs, ew2, el, ev⟩ := hH.obj hf2 hw2
    rw [ew] at hw0
    have hw2' := hw2
    rw [ew2] at hw2
    have hqc : cl[c0]? = some (cl[c0]'ho) := List.getElem?_eq_getElem ho
    obtain ⟨-, -, -, -, -, hnm9, -⟩ := hC c0 _ hqc
    rw [hnm9] at et
    subst hnp
    refine va_astq hx hb hK1 hP hD hSS a t0 v0 c0 (r := cl[c0]'ho) hw0 et hw2 hqc (jm_in_of hg2) hd (fun H1 locs1 hP1 hD1 hS9 => ?_)
    refine k _ tys H1 locs1 ls R0 cells slots (jr_le.set hw0) (fun _ h => h) ⟨hK1, hP1, hD1, hS9, hH.set hw0 ⟨cA, _, rfl, by rw [hnm9]; exact List.mem_of_getElem? et, _, rfl, fun j => ?_⟩⟩ (hL.mono (jr_le.set hw0)) (hS0.mono (jr_le.set hw0)) rfl rfl
    show jr_O ws (va_up f i0.toNatClampNeg (some v0) j) (va_up q' i0.toNatClampNeg (some w2.1) j)
    unfold va_up
    by_cases ej : j = i0.toNatClampNeg
    · rw [if_pos ej, if_pos ej]
      exact ⟨w2, hw2', rfl⟩
    · rw [if_neg ej, if_neg ej]
      exact eq j
set_option maxHeartbeats 4000000 in
theorem jr_arraylength {np x y z w : Nat} {v : Value} {bs : List Bool} {q : jm_S} (hE : jr_E p c cc nL s args own nm m meth R) (hK : jr_K tx G.2.1 b G.2.2.1 G.2.2.2 sa A s) (hC : jr_cls cl G) (hW : ∀ w ∈ Wd, w ∈ lw_tbl) (he : jm_okb cl tx tb Wd own nm cc nL (pc, .arraylength, np, x, y, z, w, v, bs) = true) (hst : jm_stp G (pc, .arraylength, np, x, y, z, w, v, bs) L st h = some q)
    (hI : jr_I D cl A b sa s h H locs ws tys) (hL : jr_L b sa ws L ls nL) (hS : jr_S b sa ws st S) (hroom : cells + q.2.2.2.2.1 ≤ R.cells + h.2.1 ∧ slots + q.2.2.2.2.2 ≤ R.slots + h.2.2) (k : jr_go p l e R s m args below meth c D cl A nL b sa ws tys h cells slots Q q) : W p l e R s m args below meth c H locs cells slots Q (F0 m pc ls S) := by
  obtain ⟨hx, hb, hml, hts, hown, hnm, hRf, hRl⟩ := hE
  simp only [jm_okb, Bool.and_eq_true, decide_eq_true_eq] at he
  obtain ⟨hd0, hnp, hmk, ho⟩ := he
  simp only [jm_il] at hnp
  simp only [jm_stp] at hst
  have hd : decode cc pc = .ok (.arraylength, 1) := by rw [show np - pc = 1 by omega] at hd0; exact hd0
  split at hst
  case h_4 => cases hst
  case h_2 u0 r0 =>
    split at hst
    case isFalse => cases hst
    case isTrue hg =>
    subst hg
    cases hst
    obtain ⟨V, R0, rfl, hV, hS0⟩ := jr_S_c hS
    have hV : V = .ref b := by
      rcases hV with ⟨-, h9⟩ | ⟨h9, -⟩
      · exact h9
      · exact absurd rfl h9
    subst hV
    obtain ⟨hK1, hP, hD, hSS, hH⟩ := id hI
    subst hnp
    exact va_slen hx hb hK.2.1.1 hK.2.1.2.1 hK.2.1.2.2 hSS hd (k.k0 hI rfl hL ⟨rfl, hS0⟩)
  case h_3 kk r0 =>
    split at hst
    case isTrue => cases hst
    case isFalse hk9 =>
    obtain ⟨sx, hsx, rfl⟩ := Option.map_eq_some_iff.mp hst
    obtain ⟨V, R0, rfl, hV, hS0⟩ := jr_S_c hS
    have hV : V = .ref (sa kk) := hV
    subst hV
    obtain ⟨hK1, hP, hD, hSS, hH⟩ := id hI
    have hkl := (List.getElem?_eq_some_iff.mp hsx).1
    obtain ⟨s1, s2, s3, s4⟩ := hK.2.2.2.1.1 (kk - 1000) hkl
    dsimp only at s4
    rw [show kk - 1000 + 1000 = kk by omega] at s4
    have e1 : (G.2.1.map List.length).getD (kk - 1000) 0 = sx.length := by simp [List.getD, hsx]
    rw [e1] at s4
    obtain ⟨cell, t1, t2, t3, t4, t5, t6, t7⟩ := s4
    subst hnp
    exact W.alen (n := Int32.ofNat sx.length) hx hb (by rw [hSS.2.1 _ (Array.getElem?_eq_some_iff.mp t1).1 t7]; exact t1) t2 t5 rfl rfl hd (k.k0 hI rfl hL ⟨rfl, hS0⟩)
  case h_1 a r0 =>
    obtain ⟨u, h1, rfl⟩ := Option.map_eq_some_iff.mp hst
    obtain ⟨w0, R0, hw0, rfl, hS0⟩ := jr_S_r hS
    unfold jm_len at h1
    split at h1
    case h_2 => cases h1
    case h_1 t' n f hf =>
    cases h1
    obtain ⟨hK1, hP, hD, hSS, hH⟩ := id hI
    obtain ⟨cA, y0, t0, ew, et, ey⟩ := hH.arr hf hw0
    rw [ew] at hw0
    subst hnp
    exact va_alen hx hb hK1 hP a t0 hw0 et rfl hd (k.k0 hI rfl hL ⟨rfl, hS0⟩)
set_option maxHeartbeats 4000000 in
theorem jr_new {n : Nat} {np x y z w : Nat} {v : Value} {bs : List Bool} {q : jm_S} (hE : jr_E p c cc nL s args own nm m meth R) (hK : jr_K tx G.2.1 b G.2.2.1 G.2.2.2 sa A s) (hC : jr_cls cl G) (h20 : ¬ 2000 ≤ x) (hW : ∀ w ∈ Wd, w ∈ lw_tbl) (he : jm_okb cl tx tb Wd own nm cc nL (pc, .new n, np, x, y, z, w, v, bs) = true) (hst : jm_stp G (pc, .new n, np, x, y, z, w, v, bs) L st h = some q)
    (hI : jr_I D cl A b sa s h H locs ws tys) (hL : jr_L b sa ws L ls nL) (hS : jr_S b sa ws st S) (hroom : cells + q.2.2.2.2.1 ≤ R.cells + h.2.1 ∧ slots + q.2.2.2.2.2 ≤ R.slots + h.2.2) (k : jr_go p l e R s m args below meth c D cl A nL b sa ws tys h cells slots Q q) : W p l e R s m args below meth c H locs cells slots Q (F0 m pc ls S) := by
  obtain ⟨hx, hb, hml, hts, hown, hnm, hRf, hRl⟩ := hE
  simp only [jm_okb, Bool.and_eq_true, decide_eq_true_eq] at he
  obtain ⟨hd0, hnp, hmk, ho⟩ := he
  simp only [jm_il] at hnp
  simp only [jm_stp] at hst
  have hd : decode cc pc = .ok (.new n, 3) := by rw [show np - pc = 3 by omega] at hd0; exact hd0
  have hst : some (np, L, Value.ref h.1.length :: st, jm_add h (.inl (x, jm_fld G x)) (jm_fld G x).length) = some q := hst
  cases hst
  split at ho
  case h_2 => exact absurd (of_decide_eq_true ho) h20
  case h_1 qc hqc =>
  have ho := of_decide_eq_true ho
  obtain ⟨hc1, ⟨ty0, hty, hdf⟩, hnn, hin, hini, hnm9, hln, hall⟩ := hC x qc hqc
  obtain ⟨hK1, hP, hD, hSS, hH⟩ := hI
  have hroom : cells + (h.2.1 + 1) ≤ R.cells + h.2.1 ∧ slots + (h.2.2 + (jm_fld G x).length) ≤ R.slots + h.2.2 := hroom
  subst hnp
  refine va_new (ci := x) (fs := jm_fld G x) (C := qc.1) (T := qc.2.1) (N := qc.2.2) hx hb hts hc1 ty0 hty hown (hts _ (jr_g (hW _ (List.mem_of_getElem? ho)) rfl)) (hts _ hin) (hts _ hini) hK1 hP hD hSS hK.1 hqc hdf (by omega) (by rw [← hln]; omega) hd (fun q9 H1 hP1 hD1 hS9 => ?_)
  refine k _ tys H1 locs ls _ (cells + 1) (slots + qc.2.2) (jr_le.app _) (fun _ h => h) ⟨hK1, hP1, hD1, hS9, hH.push (fun _ h => h) ⟨jm_fld G x, rfl, rfl, fun j v hv => ⟨v, hv, ?_⟩⟩⟩ (hL.mono (jr_le.app _)) ⟨⟨(q9, .inr (x, jm_fld G x)), ?_, rfl⟩, hS.mono (jr_le.app _)⟩ (by show cells + 1 + h.2.1 = cells + (h.2.1 + 1); omega) (by show slots + qc.2.2 + h.2.2 = slots + (h.2.2 + (jm_fld G x).length); rw [hln]; omega)
  · rcases hall v (List.mem_of_getElem? hv) with rfl | rfl | rfl <;> rfl
  · rw [List.getElem?_append_right (by rw [hH.1]; exact Nat.le_refl _), hH.1]; simp
set_option maxHeartbeats 4000000 in
theorem jr_getstatic {n : Nat} {np x y z w : Nat} {v : Value} {bs : List Bool} {q : jm_S} (hE : jr_E p c cc nL s args own nm m meth R) (hK : jr_K tx G.2.1 b G.2.2.1 G.2.2.2 sa A s) (hC : jr_cls cl G) (hW : ∀ w ∈ Wd, w ∈ lw_tbl) (he : jm_okb cl tx tb Wd own nm cc nL (pc, .getstatic n, np, x, y, z, w, v, bs) = true) (hst : jm_stp G (pc, .getstatic n, np, x, y, z, w, v, bs) L st h = some q)
    (hI : jr_I D cl A b sa s h H locs ws tys) (hL : jr_L b sa ws L ls nL) (hS : jr_S b sa ws st S) (hroom : cells + q.2.2.2.2.1 ≤ R.cells + h.2.1 ∧ slots + q.2.2.2.2.2 ≤ R.slots + h.2.2) (k : jr_go p l e R s m args below meth c D cl A nL b sa ws tys h cells slots Q q) : W p l e R s m args below meth c H locs cells slots Q (F0 m pc ls S) := by
  obtain ⟨hx, hb, hml, hts, hown, hnm, hRf, hRl⟩ := hE
  simp only [jm_okb, Bool.and_eq_true, decide_eq_true_eq] at he
  obtain ⟨hd0, hnp, hmk, ho⟩ := he
  simp only [jm_il] at hnp
  simp only [jm_stp] at hst
  have hd : decode cc pc = .ok (.getstatic n, 3) := by rw [show np - pc = 3 by omega] at hd0; exact hd0
  have hlk := hts _ (jr_g (hW _ (List.mem_of_getElem? ho)) (by split <;> rfl))
  obtain ⟨hK1, hP, hD, hSS, hH⟩ := id hI
  obtain ⟨z1, z2⟩ := hK.2.2.2.2.1
  subst hnp
  split at hst
  case isTrue hy =>
    cases hst
    rw [if_pos hy] at hlk
    exact va_gets hx hb z1 hSS hown hlk (fun _ h9 => h9) hd (k.k0 hI rfl hL ⟨rfl, hS⟩)
  case isFalse hy =>
    cases hst
    rw [if_neg hy] at hlk
    rcases z2 with z2 | ⟨t, z2⟩
    · exact va_gets hx hb z2 hSS hown hlk (fun _ h9 => h9) hd (k.k0 hI rfl hL ⟨Or.inr ⟨by decide, Or.inl rfl⟩, hS⟩)
    · exact va_gets hx hb z2 hSS hown hlk (fun _ h9 => h9) hd (k.k0 hI rfl hL ⟨Or.inr ⟨by decide, Or.inr ⟨t, rfl⟩⟩, hS⟩)
end JR
