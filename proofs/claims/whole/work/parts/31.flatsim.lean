/-! a run of the flat machine is one of the abstract machine -/
theorem gI_pI (s : fm_S) (a j : Nat) (v : Int32) (b k : Nat) : gI (pI s a j v) b k = if b = a ∧ k = j then v else gI s b k := rfl
theorem gJ_pI (s : fm_S) (a j : Nat) (v : Int32) (b k : Nat) : gJ (pI s a j v) b k = gJ s b k := rfl
theorem gR_pI (s : fm_S) (a j : Nat) (v : Int32) (b k : Nat) : gR (pI s a j v) b k = gR s b k := rfl
theorem gI_pJ (s : fm_S) (a j : Nat) (v : Int64) (b k : Nat) : gI (pJ s a j v) b k = gI s b k := rfl
theorem gJ_pJ (s : fm_S) (a j : Nat) (v : Int64) (b k : Nat) : gJ (pJ s a j v) b k = if b = a ∧ k = j then v else gJ s b k := rfl
theorem gR_pJ (s : fm_S) (a j : Nat) (v : Int64) (b k : Nat) : gR (pJ s a j v) b k = gR s b k := rfl
theorem gI_pR (s : fm_S) (a j : Nat) (v : Nat) (b k : Nat) : gI (pR s a j v) b k = gI s b k := rfl
theorem gJ_pR (s : fm_S) (a j : Nat) (v : Nat) (b k : Nat) : gJ (pR s a j v) b k = gJ s b k := rfl
theorem gR_pR (s : fm_S) (a j : Nat) (v : Nat) (b k : Nat) : gR (pR s a j v) b k = if b = a ∧ k = j then v else gR s b k := rfl
theorem gI_pX (s : fm_S) (b k : Nat) : gI (pX s) b k = gI s b k := rfl
theorem gJ_pX (s : fm_S) (b k : Nat) : gJ (pX s) b k = gJ s b k := rfl
theorem gR_pX (s : fm_S) (b k : Nat) : gR (pX s) b k = gR s b k := rfl
def fm_heapy : Instr → Bool
  | .getfield _ => true
  | .putfield _ => true
  | .iaload => true
  | .baload => true
  | .laload => true
  | .aaload => true
  | .iastore => true
  | .bastore => true
  | .lastore => true
  | .aastore => true
  | .arraylength => true
  | .new _ => true
  | .newarray _ => true
  | .anewarray _ => true
  | .multianewarray _ _ => true
  | _ => false
set_option maxHeartbeats 4000000 in
theorem jm_stp_blind {G : jm_G} {e : jm_I} {L : jm_L} {st : List Value} (h : jm_H) (hb : fm_heapy e.2.1 = false) : jm_stp G e L st h = (jm_stp G e L st ([], 0, 0)).map (fun q => (q.1, q.2.1, q.2.2.1, h)) := by
  obtain ⟨pc, i, np, x, y, z, w, v, bs⟩ := e
  cases i <;> simp only [fm_heapy] at hb <;> first
    | (exfalso; revert hb; decide)
    | (simp only [jm_stp, jm_stI, jm_stL, jm_stA, jm_to, Option.map_map, Function.comp_def, Option.map_some, Option.map_none]; done)
    | (simp only [jm_stp, jm_stI, jm_stL, jm_stA, jm_to]; (repeat' split) <;> simp [Option.map_map, Function.comp_def]; done)
    | (rename_i cnd off; cases cnd <;> simp only [jm_stp, jm_if1, jm_if2] <;> (repeat' split) <;> simp; done)
theorem fm_stp_blind {sh : fm_H} {G : jm_G} {e : jm_I} {L : jm_L} {st : List Value} (s : fm_S) (hb : fm_heapy e.2.1 = false) : fm_stp sh G e L st s = (jm_stp G e L st ([], 0, 0)).map (fun q => (q.1, q.2.1, q.2.2.1, s)) := by
  obtain ⟨pc, i, np, x, y, z, w, v, bs⟩ := e
  cases i <;> simp only [fm_heapy] at hb <;> first | (exfalso; revert hb; decide) | rfl
theorem fm_C.congr {G : jm_G} {fk : Nat → List Nat} {s s' : fm_S} {a k n : Nat} {c : jm_C} (e : ∀ j, gI s' a j = gI s a j ∧ gJ s' a j = gJ s a j ∧ gR s' a j = gR s a j) (h : fm_C G fk s a k n c) : fm_C G fk s' a k n c := by
  have ev : ∀ j t, fm_val s' a j t = fm_val s a j t := fun j t => by simp only [fm_val, (e j).1, (e j).2.1, (e j).2.2]
  cases c with
  | inl o =>
    obtain ⟨k1, k2, k3, k4, k5⟩ := h
    exact ⟨k1, k2, k3, k4, fun j t ht => by rw [ev]; exact k5 j t ht⟩
  | inr o =>
    obtain ⟨k1, k2, k3, k4⟩ := h
    refine ⟨k1, k2, k3, ?_⟩
    rcases k4 with ⟨h1, h2, g, h3, h4⟩ | ⟨h1, h2, g, h3, h4⟩ | ⟨h1, h2, g, h3, h4⟩ | ⟨h1, h0, h2, g, h3, h4⟩
    · exact Or.inl ⟨h1, h2, g, h3, fun i hi => by rw [(e i).1]; exact h4 i hi⟩
    · exact Or.inr (Or.inl ⟨h1, h2, g, h3, fun i hi => by rw [(e i).1]; exact h4 i hi⟩)
    · exact Or.inr (Or.inr (Or.inl ⟨h1, h2, g, h3, fun i hi => by rw [(e i).2.1]; exact h4 i hi⟩))
    · exact Or.inr (Or.inr (Or.inr ⟨h1, h0, h2, g, h3, fun i hi => by rw [(e i).2.2]; exact h4 i hi⟩))
theorem fm_R.set {sh : fm_H} {G : jm_G} {fk : Nat → List Nat} {s s' : fm_S} {h : jm_H} (g : fm_R sh G fk s h) {a : Nat} {c' : jm_C} (ha : a < h.1.length) (e : ∀ b, b ≠ a → ∀ j, gI s' b j = gI s b j ∧ gJ s' b j = gJ s b j ∧ gR s' b j = gR s b j) (en : s'.2.2.2 = s.2.2.2) (hc : fm_C G fk s' a (sh a).1 (sh a).2 c') : fm_R sh G fk s' (h.1.set a c', h.2) := by
  refine ⟨fun b hb => ?_, fun b hb => g.2.1 b (by simpa using hb), by rw [en]; exact g.2.2⟩
  have hb' : b < h.1.length := by simpa using hb
  by_cases eb : a = b
  · subst eb
    exact ⟨c', List.getElem?_set_self ha, hc⟩
  · obtain ⟨c, h1, h2⟩ := g.1 b hb'
    exact ⟨c, by rw [List.getElem?_set_ne eb]; exact h1, h2.congr (e b (fun q => eb q.symm))⟩
theorem fm_in {i : Int32} {n : Nat} (h : jm_in i n = true) : i.toNatClampNeg < n := by
  unfold jm_in at h
  simp at h
  exact h.2
theorem fm_val_pI {s : fm_S} {a j k t : Nat} {v : Int32} : fm_val (pI s a j v) a k t = if k = j ∧ t = 0 then .int v else fm_val s a k t := by
  unfold fm_val
  simp only [gI_pI, gJ_pI, gR_pI, true_and]
  by_cases h1 : k = j <;> by_cases h2 : t = 0 <;> simp [h1, h2]
theorem fm_val_pJ {s : fm_S} {a j k t : Nat} {v : Int64} : fm_val (pJ s a j v) a k t = if k = j ∧ t = 1 then .long v else fm_val s a k t := by
  unfold fm_val
  simp only [gI_pJ, gJ_pJ, gR_pJ, true_and]
  by_cases h1 : k = j <;> by_cases h2 : t = 0 <;> by_cases h3 : t = 1 <;> simp_all
theorem fm_val_pR {s : fm_S} {a j k t v : Nat} : fm_val (pR s a j v) a k t = if k = j ∧ t ≠ 0 ∧ t ≠ 1 then .ref v else fm_val s a k t := by
  unfold fm_val
  simp only [gI_pR, gJ_pR, gR_pR, true_and]
  by_cases h1 : k = j <;> by_cases h2 : t = 0 <;> by_cases h3 : t = 1 <;> simp_all
/-- a field is written -/
theorem fm_put {sh : fm_H} {G : jm_G} {fk : Nat → List Nat} {s s' : fm_S} {h : jm_H} (g : fm_R sh G fk s h) {a x y z : Nat} {v : Value} (ha : (sh a).1 = x) (hx : x < 60) (hz : (fk x)[y]? = some z) (e : ∀ b, b ≠ a → ∀ j, gI s' b j = gI s b j ∧ gJ s' b j = gJ s b j ∧ gR s' b j = gR s b j) (en : s'.2.2.2 = s.2.2.2) (hv : ∀ k t, (fk x)[k]? = some t → fm_val s' a k t = if k = y then v else fm_val s a k t) : ∃ h', jm_put h a x y v = some h' ∧ fm_R sh G fk s' h' := by
  obtain ⟨fs, h1, h2, h3⟩ := g.obj ha hx
  have hl := (List.getElem?_eq_some_iff.mp h1).1
  have hy : y < fs.length := by rw [h2]; exact (List.getElem?_eq_some_iff.mp hz).1
  refine ⟨(h.1.set a (.inl (x, fs.set y v)), h.2), by simp [jm_put, h1, hy], g.set hl e en ?_⟩
  obtain ⟨c, k1, k2⟩ := g.1 a hl
  rw [h1] at k1
  cases k1
  obtain ⟨q1, q2, q3, q4, q5⟩ := k2
  refine ⟨q1, q2, by rw [List.length_set]; exact q3, q4, fun k t hk => ?_⟩
  rw [hv k t hk]
  by_cases ek : y = k
  · subst ek
    rw [if_pos rfl, List.getElem?_set_self hy]
  · rw [if_neg (fun q => ek q.symm), List.getElem?_set_ne ek]
    exact h3 k t hk
/-- an element is written -/
theorem fm_ast {sh : fm_H} {G : jm_G} {fk : Nat → List Nat} {s s' : fm_S} {h : jm_H} (g : fm_R sh G fk s h) {a : Nat} {c' : jm_C} (ha : a < h.1.length) (e : ∀ b, b ≠ a → ∀ j, gI s' b j = gI s b j ∧ gJ s' b j = gJ s b j ∧ gR s' b j = gR s b j) (en : s'.2.2.2 = s.2.2.2) (hc : fm_C G fk s' a (sh a).1 (sh a).2 c') : fm_R sh G fk s' (h.1.set a c', h.2) := g.set ha e en hc
set_option maxHeartbeats 8000000 in
theorem fm_step {sh : fm_H} {G : jm_G} {fk : Nat → List Nat} {s : fm_S} {h : jm_H} {e : jm_I} {L : jm_L} {st : List Value} {q : Nat × jm_L × List Value × fm_S} (g : fm_R sh G fk s h) (hok : fm_ok fk e = true) (hst : fm_stp sh G e L st s = some q) : ∃ h', jm_stp G e L st h = some (q.1, q.2.1, q.2.2.1, h') ∧ fm_R sh G fk q.2.2.2 h' := by
  by_cases hb : fm_heapy e.2.1 = false
  · rw [fm_stp_blind s hb] at hst
    rw [jm_stp_blind h hb]
    obtain ⟨q0, h1, rfl⟩ := Option.map_eq_some_iff.mp hst
    exact ⟨h, by rw [h1]; rfl, g⟩
  · obtain ⟨pc, i, np, x, y, z, w, v, bs⟩ := e
    cases i <;> simp only [fm_heapy, not_true_eq_false] at hb
    case getfield idx =>
      simp only [fm_ok, Bool.and_eq_true, decide_eq_true_eq] at hok
      simp only [fm_stp] at hst
      split at hst
      case h_3 => cases hst
      case h_2 k r =>
        split at hst
        case isFalse => cases hst
        case isTrue hc =>
        split at hst
        case isTrue hy => cases hst; exact ⟨h, by simp only [jm_stp, if_pos hc, if_pos hy], g⟩
        case isFalse hy => cases hst; exact ⟨h, by simp only [jm_stp, if_pos hc, if_neg hy], g⟩
      case h_1 a r =>
        split at hst
        case isFalse => cases hst
        case isTrue ha =>
        cases hst
        obtain ⟨ha, hx50⟩ := ha
        obtain ⟨fs, h1, h2, h3⟩ := g.obj ha hok.2
        refine ⟨h, ?_, g⟩
        have hz : (fk x)[y]? = some z := hok.1.resolve_left (by omega)
        have h4 := h3 y z hz
        unfold fm_val at h4
        simp only [jm_stp, jm_getI, jm_getL, jm_getR, jm_get, h1, if_true, h4]
        by_cases hz0 : z = 0
        · simp [hz0]
        · by_cases hz1 : z = 1
          · simp [hz1]
          · simp [hz0, hz1]
    case putfield idx =>
      simp only [fm_ok, Bool.and_eq_true, decide_eq_true_eq] at hok
      obtain ⟨hz, hx⟩ := hok
      simp only [fm_stp] at hst
      split at hst
      case h_1 u a r =>
        split at hst
        case isFalse => cases hst
        case isTrue hc =>
        cases hst
        obtain ⟨ha, hc⟩ := hc
        have hz' : (fk x)[y]? = some 0 := by
          rw [hz]
          rcases hc with h9 | h9
          · subst h9; rfl
          · rw [h9.1]; rfl
        obtain ⟨h', e1, e2⟩ := fm_put (s' := pI s a y u) (v := .int u) g ha hx hz' (fun b hb9 j => by simp [gI_pI, gJ_pI, gR_pI, hb9]) rfl (fun k t hk => by
          rw [fm_val_pI]
          by_cases ek : k = y
          · subst ek; rw [hz'] at hk; cases hk; simp
          · simp [ek])
        exact ⟨h', by simp only [jm_stp, if_pos hc, e1]; rfl, e2⟩
      case h_2 u a r =>
        split at hst
        case isFalse => cases hst
        case isTrue hc =>
        cases hst
        obtain ⟨ha, hc⟩ := hc
        have hz' : (fk x)[y]? = some 1 := by rw [hz, hc]; rfl
        obtain ⟨h', e1, e2⟩ := fm_put (s' := pJ s a y u) (v := .long u) g ha hx hz' (fun b hb9 j => by simp [gI_pJ, gJ_pJ, gR_pJ, hb9]) rfl (fun k t hk => by
          rw [fm_val_pJ]
          by_cases ek : k = y
          · subst ek; rw [hz'] at hk; cases hk; simp
          · simp [ek])
        exact ⟨h', by simp only [jm_stp, if_pos hc, e1]; rfl, e2⟩
      case h_3 u a r =>
        split at hst
        case isFalse => cases hst
        case isTrue hc =>
        cases hst
        obtain ⟨ha, hc⟩ := hc
        have hz' : (fk x)[y]? = some 2 := by rw [hz, hc]; rfl
        obtain ⟨h', e1, e2⟩ := fm_put (s' := pR s a y u) (v := .ref u) g ha hx hz' (fun b hb9 j => by simp [gI_pR, gJ_pR, gR_pR, hb9]) rfl (fun k t hk => by
          rw [fm_val_pR]
          by_cases ek : k = y
          · subst ek; rw [hz'] at hk; cases hk; simp
          · simp [ek])
        exact ⟨h', by simp only [jm_stp, if_pos hc, e1]; rfl, e2⟩
      case h_4 => cases hst
    case iaload =>
      simp only [fm_stp] at hst
      split at hst
      case h_3 => cases hst
      case h_2 k u r =>
        split at hst
        case isFalse => cases hst
        case isTrue hc => cases hst; exact ⟨h, by simp only [jm_stp, if_pos hc], g⟩
      case h_1 k a r =>
        split at hst
        case isFalse => cases hst
        case isTrue hc =>
        cases hst
        obtain ⟨t, f, h1, h2⟩ := g.arr (a := a) (by omega) (by omega)
        obtain ⟨-, -, -, h3⟩ := h2
        rcases h3 with ⟨-, rfl, f', rfl, h5⟩ | ⟨h9, -⟩ | ⟨h9, -⟩ | ⟨h9, -⟩
        · exact ⟨h, by simp only [jm_stp, jm_aldI, h1, true_and, if_pos hc.2, Option.map_some, h5 _ (fm_in hc.2)], g⟩
        all_goals omega
    case baload =>
      simp only [fm_stp] at hst
      split at hst
      case h_3 => cases hst
      case h_2 k u r =>
        refine ⟨h, ?_, ?_⟩
        · simp only [jm_stp]
          split at hst
          case isTrue => cases hst
          case isFalse hc =>
          rw [if_neg hc]
          split at hst
          case h_2 => cases hst
          case h_1 t ht =>
          split at hst
          case isFalse => cases hst
          case isTrue hj =>
          cases hst
          simp only [ht, if_pos hj]
        · split at hst
          case isTrue => cases hst
          case isFalse hc =>
          split at hst
          case h_2 => cases hst
          case h_1 t ht =>
          split at hst
          case isFalse => cases hst
          case isTrue hj =>
          cases hst
          exact g
      case h_1 k a r =>
        split at hst
        case isFalse => cases hst
        case isTrue hc =>
        cases hst
        obtain ⟨t, f, h1, h2⟩ := g.arr (a := a) (by omega) (by omega)
        obtain ⟨-, -, -, h3⟩ := h2
        rcases h3 with ⟨h9, -⟩ | ⟨-, rfl, f', rfl, h5⟩ | ⟨h9, -⟩ | ⟨h9, -⟩
        · omega
        · exact ⟨h, by simp only [jm_stp, jm_aldI, h1, true_and, if_pos hc.2, Option.map_some, h5 _ (fm_in hc.2)], g⟩
        all_goals omega
    case laload =>
      simp only [fm_stp] at hst
      split at hst
      case h_2 => cases hst
      case h_1 k a r =>
        split at hst
        case isFalse => cases hst
        case isTrue hc =>
        cases hst
        obtain ⟨t, f, h1, h2⟩ := g.arr (a := a) (by omega) (by omega)
        obtain ⟨-, -, -, h3⟩ := h2
        rcases h3 with ⟨h9, -⟩ | ⟨h9, -⟩ | ⟨-, rfl, f', rfl, h5⟩ | ⟨h9, -⟩
        · omega
        · omega
        · exact ⟨h, by simp only [jm_stp, jm_aldL, h1, true_and, if_pos hc.2, Option.map_some, h5 _ (fm_in hc.2)], g⟩
        · omega
    case aaload =>
      simp only [fm_stp] at hst
      split at hst
      case h_2 => cases hst
      case h_1 k a r =>
        split at hst
        case isFalse => cases hst
        case isTrue hc =>
        cases hst
        have hc99 : (sh a).1 < 99 := by
          apply Classical.byContradiction
          intro h9
          have h8 : h.1.length ≤ a := by
            apply Classical.byContradiction
            intro h7
            obtain ⟨c, h1, h2⟩ := g.1 a (Nat.lt_of_not_le h7)
            cases c with
            | inl o => have := h2.2.1; omega
            | inr o => have := h2.2.2.1; omega
          have h6 := hc.2
          rw [g.2.1 a h8] at h6
          have := fm_in h6
          omega
        obtain ⟨t, f, h1, h2⟩ := g.arr (a := a) (by omega) hc99
        obtain ⟨-, -, -, h3⟩ := h2
        rcases h3 with ⟨h9, -⟩ | ⟨h9, -⟩ | ⟨h9, -⟩ | ⟨-, -, hr, f', rfl, h5⟩
        · omega
        · omega
        · omega
        · refine ⟨h, ?_, g⟩
          simp only [jm_stp, jm_aldR, h1, hr, true_and, if_pos hc.2, h5 _ (fm_in hc.2)]
          by_cases h0 : gR s a k.toNatClampNeg = 0 <;> simp [h0]
    case iastore =>
      simp only [fm_stp] at hst
      split at hst
      case h_2 => cases hst
      case h_1 u k a r =>
        split at hst
        case isFalse => cases hst
        case isTrue hc =>
        cases hst
        obtain ⟨t, f, h1, h2⟩ := g.arr (a := a) (by omega) (by omega)
        have hl := (List.getElem?_eq_some_iff.mp h1).1
        obtain ⟨e1, e2, e3, h3⟩ := h2
        rcases h3 with ⟨h6, rfl, f', rfl, h5⟩ | ⟨h9, -⟩ | ⟨h9, -⟩ | ⟨h9, -⟩
        · refine ⟨(h.1.set a (.inr (.int, ((sh a).2, .inl (upd f' k.toNatClampNeg u)))), h.2), by simp only [jm_stp, jm_astI, h1, true_and, if_pos hc.2, Option.map_some], g.set hl (fun b hb9 j => by simp [gI_pI, gJ_pI, gR_pI, hb9]) rfl ⟨rfl, e2, e3, Or.inl ⟨h6, rfl, _, rfl, fun i hi => ?_⟩⟩⟩
          simp only [gI_pI, true_and, upd]
          by_cases ei : i = k.toNatClampNeg <;> simp [ei, h5 _ hi]
        all_goals omega
    case bastore =>
      simp only [fm_stp] at hst
      split at hst
      case h_2 => cases hst
      case h_1 u k a r =>
        split at hst
        case isFalse => cases hst
        case isTrue hc =>
        cases hst
        obtain ⟨t, f, h1, h2⟩ := g.arr (a := a) (by omega) (by omega)
        have hl := (List.getElem?_eq_some_iff.mp h1).1
        obtain ⟨e1, e2, e3, h3⟩ := h2
        rcases h3 with ⟨h9, -⟩ | ⟨h6, rfl, f', rfl, h5⟩ | ⟨h9, -⟩ | ⟨h9, -⟩
        · omega
        · refine ⟨(h.1.set a (.inr (.byte, ((sh a).2, .inl (upd f' k.toNatClampNeg (vp_nar .byte u))))), h.2), by simp only [jm_stp, jm_astI, h1, true_and, if_pos hc.2, Option.map_some], g.set hl (fun b hb9 j => by simp [gI_pI, gJ_pI, gR_pI, hb9]) rfl ⟨rfl, e2, e3, Or.inr (Or.inl ⟨h6, rfl, _, rfl, fun i hi => ?_⟩)⟩⟩
          simp only [gI_pI, true_and, upd]
          by_cases ei : i = k.toNatClampNeg <;> simp [ei, h5 _ hi]
        all_goals omega
    case lastore =>
      simp only [fm_stp] at hst
      split at hst
      case h_2 => cases hst
      case h_1 u k a r =>
        split at hst
        case isFalse => cases hst
        case isTrue hc =>
        cases hst
        obtain ⟨t, f, h1, h2⟩ := g.arr (a := a) (by omega) (by omega)
        have hl := (List.getElem?_eq_some_iff.mp h1).1
        obtain ⟨e1, e2, e3, h3⟩ := h2
        rcases h3 with ⟨h9, -⟩ | ⟨h9, -⟩ | ⟨h6, rfl, f', rfl, h5⟩ | ⟨h9, -⟩
        · omega
        · omega
        · refine ⟨(h.1.set a (.inr (.long, ((sh a).2, .inr (.inl (vp_updL f' k.toNatClampNeg u))))), h.2), by simp only [jm_stp, jm_astL, h1, true_and, if_pos hc.2, Option.map_some], g.set hl (fun b hb9 j => by simp [gI_pJ, gJ_pJ, gR_pJ, hb9]) rfl ⟨rfl, e2, e3, Or.inr (Or.inr (Or.inl ⟨h6, rfl, _, rfl, fun i hi => ?_⟩))⟩⟩
          simp only [gJ_pJ, true_and, vp_updL]
          by_cases ei : i = k.toNatClampNeg <;> simp [ei, h5 _ hi]
        · omega
    case aastore =>
      simp only [fm_stp] at hst
      split at hst
      case h_2 => cases hst
      case h_1 u k a r =>
        split at hst
        case isFalse => cases hst
        case isTrue hc =>
        cases hst
        obtain ⟨hc1, hc2, hc3, hc4, hu0⟩ := hc
        have hc99 : (sh a).1 < 99 := by
          apply Classical.byContradiction
          intro h9
          have h8 : h.1.length ≤ a := by
            apply Classical.byContradiction
            intro h7
            obtain ⟨c, h1, h2⟩ := g.1 a (Nat.lt_of_not_le h7)
            cases c with
            | inl o => have := h2.2.1; omega
            | inr o => have := h2.2.2.1; omega
          have h6 := hc4
          rw [g.2.1 a h8] at h6
          have := fm_in h6
          omega
        obtain ⟨t, f, h1, h2⟩ := g.arr (a := a) (by omega) hc99
        obtain ⟨fs, v1, v2, v3⟩ := g.obj hc2 hc3
        have hl := (List.getElem?_eq_some_iff.mp h1).1
        obtain ⟨e1, e2, e3, h3⟩ := h2
        rcases h3 with ⟨h9, -⟩ | ⟨h9, -⟩ | ⟨h9, -⟩ | ⟨h6, hk, hr, f', rfl, h5⟩
        · omega
        · omega
        · omega
        · have ht : t = .object (jm_nam G x) := by
            rcases hk with h9 | h9 | ⟨ci, h9, h8⟩
            · omega
            · omega
            · have : ci = x := by omega
              rw [← this]; exact h8
          subst ht
          refine ⟨(h.1.set a (.inr (.object (jm_nam G x), ((sh a).2, .inr (.inr (.inr (.inr (va_up f' k.toNatClampNeg (some u)))))))), h.2), by simp only [jm_stp, jm_astR, h1, v1, true_and, if_pos hc4, Option.map_some], g.set hl (fun b hb9 j => by simp [gI_pR, gJ_pR, gR_pR, hb9]) rfl ⟨rfl, e2, e3, Or.inr (Or.inr (Or.inr ⟨h6, hk, hr, _, rfl, fun i hi => ?_⟩))⟩⟩
          simp only [gR_pR, true_and, va_up]
          by_cases ei : i = k.toNatClampNeg <;> simp [ei, h5 _ hi, hu0]
    case arraylength =>
      simp only [fm_stp] at hst
      split at hst
      case h_4 => cases hst
      case h_3 k r =>
        split at hst
        case isTrue => cases hst
        case isFalse hc =>
        obtain ⟨t, ht, rfl⟩ := Option.map_eq_some_iff.mp hst
        exact ⟨h, by simp only [jm_stp, if_neg hc, ht, Option.map_some], g⟩
      case h_2 u r =>
        split at hst
        case isFalse => cases hst
        case isTrue hc => cases hst; exact ⟨h, by simp only [jm_stp, if_pos hc], g⟩
      case h_1 a r =>
        split at hst
        case isFalse => cases hst
        case isTrue hc =>
        cases hst
        obtain ⟨t, f, h1, h2⟩ := g.arr (a := a) hc.1 hc.2
        exact ⟨h, by simp only [jm_stp, jm_len, h1, Option.map_some], g⟩
    all_goals (simp [fm_stp] at hst; done)
theorem fm_R.px {sh : fm_H} {G : jm_G} {fk : Nat → List Nat} {s : fm_S} {h : jm_H} (g : fm_R sh G fk s h) : fm_R sh G fk (pX s) (h.1, h.2.1 + 1, h.2.2 + 6) := by
  refine ⟨fun a ha => ?_, g.2.1, by rw [g.2.2]; rfl⟩
  obtain ⟨c, h1, h2⟩ := g.1 a ha
  exact ⟨c, h1, h2.congr (fun j => ⟨rfl, rfl, rfl⟩)⟩
theorem fm_rcv_jm {sh : fm_H} {G : jm_G} {fk : Nat → List Nat} {s : fm_S} {h : jm_H} (g : fm_R sh G fk s h) {i : Instr} {ci : Nat} {vs : List Value} (hr : fm_rcv sh G i ci vs = true) : jm_rcv G h i ci vs = true := by
  unfold fm_rcv at hr
  unfold jm_rcv
  split at hr
  next => rfl
  next => exact hr
  next h1 h2 =>
    split
    next => exact absurd rfl (h1 _)
    next => exact absurd rfl (h2 _)
    next =>
    split at hr
    next a r =>
      have hr := of_decide_eq_true hr
      obtain ⟨fs, e1, -⟩ := g.obj hr.1 hr.2
      simp [e1]
    next => exact hr
    next => cases hr
/-- the run -/
theorem fm_sim {sh : fm_H} {G : jm_G} {fk : Nat → List Nat} {tb : List jm_M} (hok : ∀ M ∈ tb, ∀ e ∈ M.2.2.2.2.2.2, fm_ok fk e = true) : ∀ {n d : Nat} {M : jm_M} {pc : Nat} {L : jm_L} {st : List Value} {s : fm_S} {h : jm_H} {o : jm_O} {s' : fm_S}, (∀ e ∈ M.2.2.2.2.2.2, fm_ok fk e = true) → fm_R sh G fk s h → fm_run sh G tb n d M pc L st s = some (o, s') → ∃ h', jm_run G tb n d M pc L st h = some (o, h') ∧ fm_R sh G fk s' h' := by
  intro n
  induction n with
  | zero => intro d M pc L st s h o s' hM g hr; cases hr
  | succ n ih =>
    intro d M pc L0 st s h o s' hM g hr
    rw [fm_run] at hr
    rw [jm_run]
    split at hr
    next => cases hr
    next e he =>
    rw [he]
    obtain ⟨hee, -⟩ := jm_at_inv he
    dsimp only at hr ⊢
    generalize (if e.2.2.2.2.2.2.2.2 = [] then L0 else jm_mask e.2.2.2.2.2.2.2.2 L0) = L at hr ⊢
    split at hr
    next hk =>
      rw [hk]
      obtain ⟨q, h1, h2⟩ := Option.bind_eq_some_iff.mp hr
      obtain ⟨h9, e1, e2⟩ := fm_step g (hM e hee) h1
      obtain ⟨h', e3, e4⟩ := ih hM e2 h2
      exact ⟨h', by rw [e1]; exact e3, e4⟩
    next hk =>
      rw [hk]
      split at hr
      next d' M' hM' =>
        rw [hM']
        dsimp only
        split at hr
        next hc =>
          obtain ⟨c1, c2, c3, c4⟩ := hc
          rw [if_pos ⟨c1, fm_rcv_jm g c2, c3, c4⟩]
          have hMm := hok _ (List.mem_of_getElem? hM')
          split at hr
          next v s1 hrun =>
            obtain ⟨h1, e1, e2⟩ := ih hMm g hrun
            rw [e1]
            exact ih hM e2 hr
          next E s1 hrun =>
            obtain ⟨h1, e1, e2⟩ := ih hMm g hrun
            rw [e1]
            dsimp only
            split at hr
            next => cases hr
            next hsp =>
            rw [if_neg hsp]
            split at hr
            next hp hhp => rw [hhp]; exact ih hM e2 hr
            next hhp =>
              rw [hhp]
              dsimp only
              split at hr
              next hM0 => cases hr; rw [if_pos hM0]; exact ⟨h1, rfl, e2⟩
              next => cases hr
          next => cases hr
        next => cases hr
      next => cases hr
    next hk =>
      rw [hk]
      split at hr
      next hc => cases hr; rw [if_pos hc]; exact ⟨_, rfl, g.px⟩
      next => cases hr
    next hk0 hk5 hk6 =>
      obtain ⟨v, h1, h2⟩ := Option.map_eq_some_iff.mp hr
      cases h2
      refine ⟨h, ?_, g⟩
      split
      next h9 => exact absurd h9 hk0
      next h9 => exact absurd h9 hk5
      next h9 => exact absurd h9 hk6
      next => rw [h1]; rfl
