/-! arrays made, switches, constants of the pool, the JDK's members -/
theorem jr_arr_int : Cond.arrayClass .int ∈ jr_T := jr_g (List.mem_append_right _ (by decide +kernel)) rfl
theorem jr_arr_byte : Cond.arrayClass .byte ∈ jr_T := jr_g (List.mem_append_right _ (by decide +kernel)) rfl
theorem jr_arr_long : Cond.arrayClass .long ∈ jr_T := jr_g (List.mem_append_right _ (by decide +kernel)) rfl
theorem jr_oi : Cond.instanceMethod Lib.objectInit ∈ jr_T := jr_g (List.mem_append_right _ (by decide +kernel)) rfl
theorem jr_oc : Cond.code Lib.objectInit ⟨#[0xb1]⟩ 1 none ∈ jr_T := jr_g (List.mem_append_right _ (by decide +kernel)) rfl
theorem jr_ms : Cond.initialized "java/lang/Math" ∈ jr_T := jr_g (List.mem_append_right _ (by decide +kernel)) rfl
theorem jr_max_s : Cond.static Lib.Math.max.name ∈ jr_T := jr_g (List.mem_append_right _ (by decide +kernel)) rfl
theorem jr_max_c : Cond.code Lib.Math.max.name Lib.Math.max.code 2 (some .int) ∈ jr_T := jr_g (List.mem_append_right _ (by decide +kernel)) rfl
theorem jr_min_s : Cond.static Lib.Math.min.name ∈ jr_T := jr_g (List.mem_append_right _ (by decide +kernel)) rfl
theorem jr_min_c : Cond.code Lib.Math.min.name Lib.Math.min.code 2 (some .int) ∈ jr_T := jr_g (List.mem_append_right _ (by decide +kernel)) rfl
theorem jr_maxl_s : Cond.static Lib.MathLoose.max_long.x ∈ jr_T := jr_g (List.mem_append_right _ (by decide +kernel)) rfl
theorem jr_maxl_c : Cond.code Lib.MathLoose.max_long.x Lib.MathLoose.max_long.code 4 (some .long) ∈ jr_T := jr_g (List.mem_append_right _ (by decide +kernel)) rfl
theorem jr_minl_s : Cond.static Lib.MathLoose.min_long.x ∈ jr_T := jr_g (List.mem_append_right _ (by decide +kernel)) rfl
theorem jr_minl_c : Cond.code Lib.MathLoose.min_long.x Lib.MathLoose.min_long.code 4 (some .long) ∈ jr_T := jr_g (List.mem_append_right _ (by decide +kernel)) rfl
section JR
variable {p : Program} {l : Launch} {e : Env} {R : Room} {s : State} {m : MethodId} {args : Array Value} {below : List Frame} {meth : Method} {c : Code} {H : Heap} {locs : List Loc} {cells slots : Nat} {Q : State → Prop}
variable {cc : ByteArray} {pc : Nat} {ls : Array Slot} {D : va_G} {cl : List vw_C} {A : Nat → Prop} {tys : List (ClassId × FieldType)} {ws : va_W}
variable {G : jm_G} {tx : List String} {tb : List jm_M} {Wd : List Cond} {own nm : String} {nL b Ln : Nat} {xs : Nat → Int32} {sa : Nat → Nat} {L : jm_L} {st S : List Value} {h : jm_H}
theorem jr_ldcSW (hexec : p.tables.exec = Jvm.exec) (hb : c.code = cc) {tx0 : String} {index q : Nat} {rest : List Value} (hown : s.vm.findClass own = some m.cls) (hZ : vk_R own index tx0 q s) (hdg : decode cc pc = .ok (.ldc_w index, 3))
    (kk : W p l e R s m args below meth c H locs cells slots Q (F0 m (pc + 3) ls (.ref q :: rest))) : W p l e R s m args below meth c H locs cells slots Q (F0 m pc ls rest) := by
  intro T hT X
  obtain ⟨t, a1, b1⟩ := kk T hT X
  exact ⟨t, X.ldcStringW hexec hown (text := tx0) (a := q) hZ.1 hZ.2 (g := F0 m pc ls rest) rfl (by rw [hb]; exact hdg) t a1, b1⟩
set_option maxHeartbeats 4000000 in
theorem jr_newarray_int {np x y z w : Nat} {v : Value} {bs : List Bool} {q : jm_S} (hE : jr_E p c cc nL s args own nm m meth R) (hK : jr_K tx G.2.1 b G.2.2.1 G.2.2.2 sa A s) (hC : jr_cls cl G) (hW : ∀ w ∈ Wd, w ∈ lw_tbl) (he : jm_okb cl tx tb Wd own nm cc nL (pc, .newarray .int, np, x, y, z, w, v, bs) = true) (hst : jm_stp G (pc, .newarray .int, np, x, y, z, w, v, bs) L st h = some q)
    (hI : jr_I D cl A b sa s h H locs ws tys) (hL : jr_L b sa ws L ls nL) (hS : jr_S b sa ws st S) (hroom : cells + q.2.2.2.2.1 ≤ R.cells + h.2.1 ∧ slots + q.2.2.2.2.2 ≤ R.slots + h.2.2) (k : jr_go p l e R s m args below meth c D cl A nL b sa ws tys h cells slots Q q) : W p l e R s m args below meth c H locs cells slots Q (F0 m pc ls S) := by
  obtain ⟨hx, hb, hml, hts, hown, hnm, hRf, hRl⟩ := hE
  simp only [jm_okb, Bool.and_eq_true, decide_eq_true_eq] at he
  obtain ⟨hd0, hnp, hmk, ho⟩ := he
  simp only [jm_il] at hnp
  simp only [jm_stp] at hst
  have hd : decode cc pc = .ok (.newarray .int, 2) := by rw [show np - pc = 2 by omega] at hd0; exact hd0
  split at hst
  case h_2 => cases hst
  case h_1 n0 r0 =>
    split at hst
    case isTrue => cases hst
    case isFalse hg =>
    cases hst
    obtain ⟨R0, rfl, hS0⟩ := jr_S_i hS
    obtain ⟨hK1, hP, hD, hSS, hH⟩ := hI
    have hroom : cells + (h.2.1 + 1) ≤ R.cells + h.2.1 ∧ slots + (h.2.2 + n0.toNatClampNeg) ≤ R.slots + h.2.2 := hroom
    have hn0 : ¬ n0 < 0 := fun q => hg (Or.inl q)
    have hn1 : n0.toNatClampNeg ≤ 65536 := by omega
    subst hnp
    refine va_newa (atype := .int) (ty := .int) (a0 := (n0.toNatClampNeg, .inl fun _ => 0)) hx hb (hts _ jr_arr_int) rfl hK1 hP hD hSS hK.1 (fun cA => rfl) hn0 rfl (by show _ * 4 ≤ 536870912; omega) (by omega) (by omega) hd (fun q9 cA H1 hK9 hP1 hD1 hS9 => ?_)
    refine k (ws ++ [(q9, .inl (cA, (n0.toNatClampNeg, .inl fun _ => 0)))]) _ H1 locs ls _ (cells + 1) (slots + n0.toNatClampNeg) (jr_le.app _) (fun t ht => List.mem_append_left _ ht) ⟨hK9, hP1, hD1, hS9, hH.push (fun t ht => List.mem_append_left _ ht) ⟨cA, _, rfl, List.mem_append_right _ List.mem_cons_self, rfl⟩⟩ (hL.mono (jr_le.app _)) ⟨⟨(q9, .inl (cA, (n0.toNatClampNeg, .inl fun _ => 0))), ?_, rfl⟩, hS0.mono (jr_le.app _)⟩ (by show cells + 1 + h.2.1 = cells + (h.2.1 + 1); omega) (by show slots + n0.toNatClampNeg + h.2.2 = slots + (h.2.2 + n0.toNatClampNeg); omega)
    rw [List.getElem?_append_right (by rw [hH.1]; exact Nat.le_refl _), hH.1]; simp
set_option maxHeartbeats 4000000 in
theorem jr_newarray_byte {np x y z w : Nat} {v : Value} {bs : List Bool} {q : jm_S} (hE : jr_E p c cc nL s args own nm m meth R) (hK : jr_K tx G.2.1 b G.2.2.1 G.2.2.2 sa A s) (hC : jr_cls cl G) (hW : ∀ w ∈ Wd, w ∈ lw_tbl) (he : jm_okb cl tx tb Wd own nm cc nL (pc, .newarray .byte, np, x, y, z, w, v, bs) = true) (hst : jm_stp G (pc, .newarray .byte, np, x, y, z, w, v, bs) L st h = some q)
    (hI : jr_I D cl A b sa s h H locs ws tys) (hL : jr_L b sa ws L ls nL) (hS : jr_S b sa ws st S) (hroom : cells + q.2.2.2.2.1 ≤ R.cells + h.2.1 ∧ slots + q.2.2.2.2.2 ≤ R.slots + h.2.2) (k : jr_go p l e R s m args below meth c D cl A nL b sa ws tys h cells slots Q q) : W p l e R s m args below meth c H locs cells slots Q (F0 m pc ls S) := by
  obtain ⟨hx, hb, hml, hts, hown, hnm, hRf, hRl⟩ := hE
  simp only [jm_okb, Bool.and_eq_true, decide_eq_true_eq] at he
  obtain ⟨hd0, hnp, hmk, ho⟩ := he
  simp only [jm_il] at hnp
  simp only [jm_stp] at hst
  have hd : decode cc pc = .ok (.newarray .byte, 2) := by rw [show np - pc = 2 by omega] at hd0; exact hd0
  split at hst
  case h_2 => cases hst
  case h_1 n0 r0 =>
    split at hst
    case isTrue => cases hst
    case isFalse hg =>
    cases hst
    obtain ⟨R0, rfl, hS0⟩ := jr_S_i hS
    obtain ⟨hK1, hP, hD, hSS, hH⟩ := hI
    have hroom : cells + (h.2.1 + 1) ≤ R.cells + h.2.1 ∧ slots + (h.2.2 + n0.toNatClampNeg) ≤ R.slots + h.2.2 := hroom
    have hn0 : ¬ n0 < 0 := fun q => hg (Or.inl q)
    have hn1 : n0.toNatClampNeg ≤ 65536 := by omega
    subst hnp
    refine va_newa (atype := .byte) (ty := .byte) (a0 := (n0.toNatClampNeg, .inl fun _ => 0)) hx hb (hts _ jr_arr_byte) rfl hK1 hP hD hSS hK.1 (fun cA => rfl) hn0 rfl (by show _ * 1 ≤ 536870912; omega) (by omega) (by omega) hd (fun q9 cA H1 hK9 hP1 hD1 hS9 => ?_)
    refine k (ws ++ [(q9, .inl (cA, (n0.toNatClampNeg, .inl fun _ => 0)))]) _ H1 locs ls _ (cells + 1) (slots + n0.toNatClampNeg) (jr_le.app _) (fun t ht => List.mem_append_left _ ht) ⟨hK9, hP1, hD1, hS9, hH.push (fun t ht => List.mem_append_left _ ht) ⟨cA, _, rfl, List.mem_append_right _ List.mem_cons_self, rfl⟩⟩ (hL.mono (jr_le.app _)) ⟨⟨(q9, .inl (cA, (n0.toNatClampNeg, .inl fun _ => 0))), ?_, rfl⟩, hS0.mono (jr_le.app _)⟩ (by show cells + 1 + h.2.1 = cells + (h.2.1 + 1); omega) (by show slots + n0.toNatClampNeg + h.2.2 = slots + (h.2.2 + n0.toNatClampNeg); omega)
    rw [List.getElem?_append_right (by rw [hH.1]; exact Nat.le_refl _), hH.1]; simp
set_option maxHeartbeats 4000000 in
theorem jr_newarray_long {np x y z w : Nat} {v : Value} {bs : List Bool} {q : jm_S} (hE : jr_E p c cc nL s args own nm m meth R) (hK : jr_K tx G.2.1 b G.2.2.1 G.2.2.2 sa A s) (hC : jr_cls cl G) (hW : ∀ w ∈ Wd, w ∈ lw_tbl) (he : jm_okb cl tx tb Wd own nm cc nL (pc, .newarray .long, np, x, y, z, w, v, bs) = true) (hst : jm_stp G (pc, .newarray .long, np, x, y, z, w, v, bs) L st h = some q)
    (hI : jr_I D cl A b sa s h H locs ws tys) (hL : jr_L b sa ws L ls nL) (hS : jr_S b sa ws st S) (hroom : cells + q.2.2.2.2.1 ≤ R.cells + h.2.1 ∧ slots + q.2.2.2.2.2 ≤ R.slots + h.2.2) (k : jr_go p l e R s m args below meth c D cl A nL b sa ws tys h cells slots Q q) : W p l e R s m args below meth c H locs cells slots Q (F0 m pc ls S) := by
  obtain ⟨hx, hb, hml, hts, hown, hnm, hRf, hRl⟩ := hE
  simp only [jm_okb, Bool.and_eq_true, decide_eq_true_eq] at he
  obtain ⟨hd0, hnp, hmk, ho⟩ := he
  simp only [jm_il] at hnp
  simp only [jm_stp] at hst
  have hd : decode cc pc = .ok (.newarray .long, 2) := by rw [show np - pc = 2 by omega] at hd0; exact hd0
  split at hst
  case h_2 => cases hst
  case h_1 n0 r0 =>
    split at hst
    case isTrue => cases hst
    case isFalse hg =>
    cases hst
    obtain ⟨R0, rfl, hS0⟩ := jr_S_i hS
    obtain ⟨hK1, hP, hD, hSS, hH⟩ := hI
    have hroom : cells + (h.2.1 + 1) ≤ R.cells + h.2.1 ∧ slots + (h.2.2 + n0.toNatClampNeg) ≤ R.slots + h.2.2 := hroom
    have hn0 : ¬ n0 < 0 := fun q => hg (Or.inl q)
    have hn1 : n0.toNatClampNeg ≤ 65536 := by omega
    subst hnp
    refine va_newa (atype := .long) (ty := .long) (a0 := (n0.toNatClampNeg, .inr (.inl fun _ => 0))) hx hb (hts _ jr_arr_long) rfl hK1 hP hD hSS hK.1 (fun cA => rfl) hn0 rfl (by show _ * 8 ≤ 536870912; omega) (by omega) (by omega) hd (fun q9 cA H1 hK9 hP1 hD1 hS9 => ?_)
    refine k (ws ++ [(q9, .inl (cA, (n0.toNatClampNeg, .inr (.inl fun _ => 0))))]) _ H1 locs ls _ (cells + 1) (slots + n0.toNatClampNeg) (jr_le.app _) (fun t ht => List.mem_append_left _ ht) ⟨hK9, hP1, hD1, hS9, hH.push (fun t ht => List.mem_append_left _ ht) ⟨cA, _, rfl, List.mem_append_right _ List.mem_cons_self, rfl⟩⟩ (hL.mono (jr_le.app _)) ⟨⟨(q9, .inl (cA, (n0.toNatClampNeg, .inr (.inl fun _ => 0)))), ?_, rfl⟩, hS0.mono (jr_le.app _)⟩ (by show cells + 1 + h.2.1 = cells + (h.2.1 + 1); omega) (by show slots + n0.toNatClampNeg + h.2.2 = slots + (h.2.2 + n0.toNatClampNeg); omega)
    rw [List.getElem?_append_right (by rw [hH.1]; exact Nat.le_refl _), hH.1]; simp
set_option maxHeartbeats 4000000 in
theorem jr_anewarray {n : Nat} {np x y z w : Nat} {v : Value} {bs : List Bool} {q : jm_S} (hE : jr_E p c cc nL s args own nm m meth R) (hK : jr_K tx G.2.1 b G.2.2.1 G.2.2.2 sa A s) (hC : jr_cls cl G) (hW : ∀ w ∈ Wd, w ∈ lw_tbl) (he : jm_okb cl tx tb Wd own nm cc nL (pc, .anewarray n, np, x, y, z, w, v, bs) = true) (hst : jm_stp G (pc, .anewarray n, np, x, y, z, w, v, bs) L st h = some q)
    (hI : jr_I D cl A b sa s h H locs ws tys) (hL : jr_L b sa ws L ls nL) (hS : jr_S b sa ws st S) (hroom : cells + q.2.2.2.2.1 ≤ R.cells + h.2.1 ∧ slots + q.2.2.2.2.2 ≤ R.slots + h.2.2) (k : jr_go p l e R s m args below meth c D cl A nL b sa ws tys h cells slots Q q) : W p l e R s m args below meth c H locs cells slots Q (F0 m pc ls S) := by
  obtain ⟨hx, hb, hml, hts, hown, hnm, hRf, hRl⟩ := hE
  simp only [jm_okb, Bool.and_eq_true, decide_eq_true_eq] at he
  obtain ⟨hd0, hnp, hmk, ho⟩ := he
  simp only [jm_il] at hnp
  simp only [jm_stp] at hst
  have hd : decode cc pc = .ok (.anewarray n, 3) := by rw [show np - pc = 3 by omega] at hd0; exact hd0
  split at hst
  case h_2 => cases hst
  case h_1 n0 r0 =>
    split at hst
    case isTrue => cases hst
    case isFalse hg =>
    cases hst
    split at ho
    case h_2 => cases ho
    case h_1 qc hqc =>
    simp only [Bool.and_eq_true, decide_eq_true_eq] at ho
    obtain ⟨ho, hao⟩ := ho
    obtain ⟨R0, rfl, hS0⟩ := jr_S_i hS
    obtain ⟨hK1, hP, hD, hSS, hH⟩ := hI
    obtain ⟨hc1, ⟨ty0, hty, hdf⟩, hnn, hin, hini, hnm9, hln, hall⟩ := hC x qc hqc
    have hroom : cells + (h.2.1 + 1) ≤ R.cells + h.2.1 ∧ slots + (h.2.2 + n0.toNatClampNeg) ≤ R.slots + h.2.2 := hroom
    have hn0 : ¬ n0 < 0 := fun q => hg (Or.inl q)
    have hn1 : n0.toNatClampNeg ≤ 65536 := by omega
    subst hnp
    refine va_newq (C := qc.1) hx hb hown (hts _ (jr_g (hW _ (List.mem_of_getElem? ho)) rfl)) (hK.2.2.2.2.2.2.1.1 _ hao) hK1 hP hD hSS hK.1 hn0 rfl (by omega) (by omega) (by omega) hd (fun q9 cA H1 hK9 hP1 hD1 hS9 => ?_)
    refine k (ws ++ [(q9, .inl (cA, n0.toNatClampNeg, .inr (.inr (.inr (.inr (fun _ => none))))))]) _ H1 locs ls _ (cells + 1) (slots + n0.toNatClampNeg) (jr_le.app _) (fun t ht => List.mem_append_left _ ht) ⟨hK9, hP1, hD1, hS9, hH.push (fun t ht => List.mem_append_left _ ht) ⟨cA, _, rfl, by rw [hnm9]; exact List.mem_append_right _ List.mem_cons_self, _, rfl, fun _ => rfl⟩⟩ (hL.mono (jr_le.app _)) ⟨⟨(q9, .inl (cA, n0.toNatClampNeg, .inr (.inr (.inr (.inr (fun _ => none)))))), ?_, rfl⟩, hS0.mono (jr_le.app _)⟩ (by show cells + 1 + h.2.1 = cells + (h.2.1 + 1); omega) (by show slots + n0.toNatClampNeg + h.2.2 = slots + (h.2.2 + n0.toNatClampNeg); omega)
    rw [List.getElem?_append_right (by rw [hH.1]; exact Nat.le_refl _), hH.1]; simp
set_option maxHeartbeats 4000000 in
theorem jr_tableswitch {dflt lo hi : Int} {offs : Array Int} {np x y z w : Nat} {v : Value} {bs : List Bool} {q : jm_S} (hE : jr_E p c cc nL s args own nm m meth R) (hK : jr_K tx G.2.1 b G.2.2.1 G.2.2.2 sa A s) (hC : jr_cls cl G) (hW : ∀ w ∈ Wd, w ∈ lw_tbl) (he : jm_okb cl tx tb Wd own nm cc nL (pc, .tableswitch dflt lo hi offs, np, x, y, z, w, v, bs) = true) (hst : jm_stp G (pc, .tableswitch dflt lo hi offs, np, x, y, z, w, v, bs) L st h = some q)
    (hI : jr_I D cl A b sa s h H locs ws tys) (hL : jr_L b sa ws L ls nL) (hS : jr_S b sa ws st S) (hroom : cells + q.2.2.2.2.1 ≤ R.cells + h.2.1 ∧ slots + q.2.2.2.2.2 ≤ R.slots + h.2.2) (k : jr_go p l e R s m args below meth c D cl A nL b sa ws tys h cells slots Q q) : W p l e R s m args below meth c H locs cells slots Q (F0 m pc ls S) := by
  obtain ⟨hx, hb, hml, hts, hown, hnm, hRf, hRl⟩ := hE
  simp only [jm_okb, Bool.and_eq_true, decide_eq_true_eq] at he
  obtain ⟨hd0, hnp, hmk, ho⟩ := he
  simp only [jm_il] at hnp
  simp only [jm_stp] at hst
  split at hst
  case h_2 => cases hst
  case h_1 a0 r0 =>
    obtain ⟨R0, rfl, hS0⟩ := jr_S_i hS
    split at hst
    case isTrue hg =>
      unfold jm_to at hst
      split at hst
      case isFalse => cases hst
      case isTrue h0 =>
      cases hst
      exact lv_tableOut hx hb hd0 hg (Int.toNat_of_nonneg h0).symm (k.k0 hI rfl hL hS0)
    case isFalse hg =>
      split at hst
      case h_2 => cases hst
      case h_1 off ho9 =>
      unfold jm_to at hst
      split at hst
      case isFalse => cases hst
      case isTrue h0 =>
      cases hst
      exact lv_tableIn hx hb hd0 (fun q => hg (Or.inl q)) (fun q => hg (Or.inr q)) ho9 (Int.toNat_of_nonneg h0).symm (k.k0 hI rfl hL hS0)
set_option maxHeartbeats 4000000 in
theorem jr_lookupswitch {dflt : Int} {ps : Array (Int × Int)} {np x y z w : Nat} {v : Value} {bs : List Bool} {q : jm_S} (hE : jr_E p c cc nL s args own nm m meth R) (hK : jr_K tx G.2.1 b G.2.2.1 G.2.2.2 sa A s) (hC : jr_cls cl G) (hW : ∀ w ∈ Wd, w ∈ lw_tbl) (he : jm_okb cl tx tb Wd own nm cc nL (pc, .lookupswitch dflt ps, np, x, y, z, w, v, bs) = true) (hst : jm_stp G (pc, .lookupswitch dflt ps, np, x, y, z, w, v, bs) L st h = some q)
    (hI : jr_I D cl A b sa s h H locs ws tys) (hL : jr_L b sa ws L ls nL) (hS : jr_S b sa ws st S) (hroom : cells + q.2.2.2.2.1 ≤ R.cells + h.2.1 ∧ slots + q.2.2.2.2.2 ≤ R.slots + h.2.2) (k : jr_go p l e R s m args below meth c D cl A nL b sa ws tys h cells slots Q q) : W p l e R s m args below meth c H locs cells slots Q (F0 m pc ls S) := by
  obtain ⟨hx, hb, hml, hts, hown, hnm, hRf, hRl⟩ := hE
  simp only [jm_okb, Bool.and_eq_true, decide_eq_true_eq] at he
  obtain ⟨hd0, hnp, hmk, ho⟩ := he
  simp only [jm_il] at hnp
  simp only [jm_stp] at hst
  split at hst
  case h_2 => cases hst
  case h_1 a0 r0 =>
    obtain ⟨R0, rfl, hS0⟩ := jr_S_i hS
    unfold jm_to at hst
    split at hst
    case isFalse => cases hst
    case isTrue h0 =>
    cases hst
    exact lv_lookup hx hb hd0 ho rfl (Int.toNat_of_nonneg h0).symm (k.k0 hI rfl hL hS0)
set_option maxHeartbeats 4000000 in
theorem jr_ldc {n : Nat} {np x y z w : Nat} {v : Value} {bs : List Bool} {q : jm_S} (hE : jr_E p c cc nL s args own nm m meth R) (hK : jr_K tx G.2.1 b G.2.2.1 G.2.2.2 sa A s) (hC : jr_cls cl G) (hW : ∀ w ∈ Wd, w ∈ lw_tbl) (he : jm_okb cl tx tb Wd own nm cc nL (pc, .ldc n, np, x, y, z, w, v, bs) = true) (hst : jm_stp G (pc, .ldc n, np, x, y, z, w, v, bs) L st h = some q)
    (hI : jr_I D cl A b sa s h H locs ws tys) (hL : jr_L b sa ws L ls nL) (hS : jr_S b sa ws st S) (hroom : cells + q.2.2.2.2.1 ≤ R.cells + h.2.1 ∧ slots + q.2.2.2.2.2 ≤ R.slots + h.2.2) (k : jr_go p l e R s m args below meth c D cl A nL b sa ws tys h cells slots Q q) : W p l e R s m args below meth c H locs cells slots Q (F0 m pc ls S) := by
  obtain ⟨hx, hb, hml, hts, hown, hnm, hRf, hRl⟩ := hE
  simp only [jm_okb, Bool.and_eq_true, decide_eq_true_eq] at he
  obtain ⟨hd0, hnp, hmk, ho⟩ := he
  simp only [jm_il] at hnp
  simp only [jm_stp] at hst
  have hd : decode cc pc = .ok (.ldc n, 2) := by rw [show np - pc = 2 by omega] at hd0; exact hd0
  cases hst
  subst hnp
  split at ho
  case h_1 kk =>
    have ho := of_decide_eq_true ho
    exact lv_ldc hx hb hown (hts _ (jr_g (hW _ (List.mem_of_getElem? ho)) rfl)) hd (k.k0 hI rfl hL ⟨rfl, hS⟩)
  case h_2 jj =>
    split at ho
    case h_2 => cases ho
    case h_1 t ht =>
    have ho := of_decide_eq_true ho
    exact va_ldcS hx hb hown (hK.2.2.1 _ _ _ _ (hW _ (List.mem_of_getElem? ho)) ht) hd (k.k0 hI rfl hL ⟨rfl, hS⟩)
  case h_3 => cases ho
set_option maxHeartbeats 4000000 in
theorem jr_ldc_w {n : Nat} {np x y z w : Nat} {v : Value} {bs : List Bool} {q : jm_S} (hE : jr_E p c cc nL s args own nm m meth R) (hK : jr_K tx G.2.1 b G.2.2.1 G.2.2.2 sa A s) (hC : jr_cls cl G) (hW : ∀ w ∈ Wd, w ∈ lw_tbl) (he : jm_okb cl tx tb Wd own nm cc nL (pc, .ldc_w n, np, x, y, z, w, v, bs) = true) (hst : jm_stp G (pc, .ldc_w n, np, x, y, z, w, v, bs) L st h = some q)
    (hI : jr_I D cl A b sa s h H locs ws tys) (hL : jr_L b sa ws L ls nL) (hS : jr_S b sa ws st S) (hroom : cells + q.2.2.2.2.1 ≤ R.cells + h.2.1 ∧ slots + q.2.2.2.2.2 ≤ R.slots + h.2.2) (k : jr_go p l e R s m args below meth c D cl A nL b sa ws tys h cells slots Q q) : W p l e R s m args below meth c H locs cells slots Q (F0 m pc ls S) := by
  obtain ⟨hx, hb, hml, hts, hown, hnm, hRf, hRl⟩ := hE
  simp only [jm_okb, Bool.and_eq_true, decide_eq_true_eq] at he
  obtain ⟨hd0, hnp, hmk, ho⟩ := he
  simp only [jm_il] at hnp
  simp only [jm_stp] at hst
  have hd : decode cc pc = .ok (.ldc_w n, 3) := by rw [show np - pc = 3 by omega] at hd0; exact hd0
  cases hst
  subst hnp
  split at ho
  case h_1 kk =>
    have ho := of_decide_eq_true ho
    exact lv_ldcw hx hb hown (hts _ (jr_g (hW _ (List.mem_of_getElem? ho)) rfl)) hd (k.k0 hI rfl hL ⟨rfl, hS⟩)
  case h_2 jj =>
    split at ho
    case h_2 => cases ho
    case h_1 t ht =>
    have ho := of_decide_eq_true ho
    exact jr_ldcSW hx hb hown (hK.2.2.1 _ _ _ _ (hW _ (List.mem_of_getElem? ho)) ht) hd (k.k0 hI rfl hL ⟨rfl, hS⟩)
  case h_3 => cases ho
set_option maxHeartbeats 4000000 in
theorem jr_objinit {n : Nat} {np x y z w : Nat} {v : Value} {bs : List Bool} {q : jm_S} (hE : jr_E p c cc nL s args own nm m meth R) (hK : jr_K tx G.2.1 b G.2.2.1 G.2.2.2 sa A s) (hC : jr_cls cl G) (hW : ∀ w ∈ Wd, w ∈ lw_tbl) (he : jm_okb cl tx tb Wd own nm cc nL (pc, .invokespecial n, np, x, y, z, w, v, bs) = true) (hst : jm_stp G (pc, .invokespecial n, np, x, y, z, w, v, bs) L st h = some q)
    (hI : jr_I D cl A b sa s h H locs ws tys) (hL : jr_L b sa ws L ls nL) (hS : jr_S b sa ws st S) (hroom : cells + q.2.2.2.2.1 ≤ R.cells + h.2.1 ∧ slots + q.2.2.2.2.2 ≤ R.slots + h.2.2) (k : jr_go p l e R s m args below meth c D cl A nL b sa ws tys h cells slots Q q) : W p l e R s m args below meth c H locs cells slots Q (F0 m pc ls S) := by
  obtain ⟨hx, hb, hml, hts, hown, hnm, hRf, hRl⟩ := hE
  simp only [jm_okb, Bool.and_eq_true, decide_eq_true_eq] at he
  obtain ⟨hd0, hnp, hmk, ho⟩ := he
  simp only [jm_il] at hnp
  simp only [jm_stp] at hst
  have hd : decode cc pc = .ok (.invokespecial n, 3) := by rw [show np - pc = 3 by omega] at hd0; exact hd0
  split at hst
  case h_2 => cases hst
  case h_1 a r0 =>
    split at hst
    case isFalse => cases hst
    case isTrue hg =>
    cases hst
    obtain ⟨rfl, hlt⟩ := hg
    rw [if_pos rfl] at ho
    have ho := of_decide_eq_true ho
    obtain ⟨w0, R0, hw0, rfl, hS0⟩ := jr_S_r hS
    have hlt := of_decide_eq_true hlt
    have hw := jr_S_w hS0
    subst hnp
    exact W.objInit hx hb hown (hts _ (jr_g (hW _ (List.mem_of_getElem? ho)) rfl)) (hts _ jr_oi) (hts _ jr_oc) rfl (by rw [hml]; exact hL.2.1) rfl hd (by omega) (by show 2 * 0 + _ + 12 ≤ _; omega) (k.k0 hI rfl hL hS0)
set_option maxHeartbeats 4000000 in
theorem jr_math {n : Nat} {np x y z w : Nat} {v : Value} {bs : List Bool} {q : jm_S} (hE : jr_E p c cc nL s args own nm m meth R) (hK : jr_K tx G.2.1 b G.2.2.1 G.2.2.2 sa A s) (hC : jr_cls cl G) (hW : ∀ w ∈ Wd, w ∈ lw_tbl) (he : jm_okb cl tx tb Wd own nm cc nL (pc, .invokestatic n, np, x, y, z, w, v, bs) = true) (hst : jm_stp G (pc, .invokestatic n, np, x, y, z, w, v, bs) L st h = some q)
    (hI : jr_I D cl A b sa s h H locs ws tys) (hL : jr_L b sa ws L ls nL) (hS : jr_S b sa ws st S) (hroom : cells + q.2.2.2.2.1 ≤ R.cells + h.2.1 ∧ slots + q.2.2.2.2.2 ≤ R.slots + h.2.2) (k : jr_go p l e R s m args below meth c D cl A nL b sa ws tys h cells slots Q q) : W p l e R s m args below meth c H locs cells slots Q (F0 m pc ls S) := by
  obtain ⟨hx, hb, hml, hts, hown, hnm, hRf, hRl⟩ := hE
  simp only [jm_okb, Bool.and_eq_true, decide_eq_true_eq] at he
  obtain ⟨hd0, hnp, hmk, ho⟩ := he
  simp only [jm_il] at hnp
  simp only [jm_stp] at hst
  have hd : decode cc pc = .ok (.invokestatic n, 3) := by rw [show np - pc = 3 by omega] at hd0; exact hd0
  split at hst
  case h_1 b0 a0 r0 =>
    obtain ⟨R1, rfl, hS1⟩ := jr_S_i hS
    obtain ⟨R0, rfl, hS0⟩ := jr_S_i hS1
    have hw := jr_S_w hS0
    subst hnp
    split at hst
    case isTrue hg =>
      cases hst
      obtain ⟨rfl, hlt⟩ := hg
      have hlt := of_decide_eq_true hlt
      rw [if_pos rfl] at ho
      have ho := of_decide_eq_true ho
      exact va_mmax hx hb (by rw [hml]; exact hL.2.1.symm) hown (hts _ (jr_g (hW _ (List.mem_of_getElem? ho)) rfl)) (hts _ jr_max_s) (hts _ jr_ms) (hts _ jr_max_c) (by omega) (by omega) (by have := hroom.1; dsimp only at this; omega) (by have := hroom.2; dsimp only at this; omega) hd (k.k0 hI rfl hL ⟨rfl, hS0⟩)
    case isFalse hg0 =>
      split at hst
      case isFalse => cases hst
      case isTrue hg =>
      cases hst
      obtain ⟨rfl, hlt⟩ := hg
      have hlt := of_decide_eq_true hlt
      rw [if_neg (by decide), if_pos rfl] at ho
      have ho := of_decide_eq_true ho
      exact va_mmin hx hb (by rw [hml]; exact hL.2.1.symm) hown (hts _ (jr_g (hW _ (List.mem_of_getElem? ho)) rfl)) (hts _ jr_min_s) (hts _ jr_ms) (hts _ jr_min_c) (by omega) (by omega) (by have := hroom.1; dsimp only at this; omega) (by have := hroom.2; dsimp only at this; omega) hd (k.k0 hI rfl hL ⟨rfl, hS0⟩)
  case h_2 b0 a0 r0 =>
    obtain ⟨R1, rfl, hS1⟩ := jr_S_l hS
    obtain ⟨R0, rfl, hS0⟩ := jr_S_l hS1
    have hw := jr_S_w hS0
    subst hnp
    split at hst
    case isTrue hg =>
      cases hst
      obtain ⟨rfl, hlt⟩ := hg
      have hlt := of_decide_eq_true hlt
      rw [if_neg (by decide), if_neg (by decide), if_pos rfl] at ho
      have ho := of_decide_eq_true ho
      exact va_mmax_long hx hb (by rw [hml]; exact hL.2.1.symm) hown (hts _ (jr_g (hW _ (List.mem_of_getElem? ho)) rfl)) (hts _ jr_maxl_s) (hts _ jr_ms) (hts _ jr_maxl_c) (by omega) (by omega) (by have := hroom.1; dsimp only at this; omega) (by have := hroom.2; dsimp only at this; omega) hd (k.k0 hI rfl hL ⟨rfl, hS0⟩)
    case isFalse hg0 =>
      split at hst
      case isFalse => cases hst
      case isTrue hg =>
      cases hst
      obtain ⟨rfl, hlt⟩ := hg
      have hlt := of_decide_eq_true hlt
      rw [if_neg (by decide), if_neg (by decide), if_neg (by decide), if_pos rfl] at ho
      have ho := of_decide_eq_true ho
      exact va_mmin_long hx hb (by rw [hml]; exact hL.2.1.symm) hown (hts _ (jr_g (hW _ (List.mem_of_getElem? ho)) rfl)) (hts _ jr_minl_s) (hts _ jr_ms) (hts _ jr_minl_c) (by omega) (by omega) (by have := hroom.1; dsimp only at this; omega) (by have := hroom.2; dsimp only at this; omega) hd (k.k0 hI rfl hL ⟨rfl, hS0⟩)
  case h_3 => cases hst
end JR
