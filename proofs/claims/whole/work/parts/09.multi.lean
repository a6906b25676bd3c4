/-! an array of arrays is made -/
theorem jr_H.multi {b : Nat} {sa : Nat → Nat} {ws : va_W} {tys tys' : List (ClassId × FieldType)} {h : jm_H} (g : jr_H b sa ws tys h) {q N : Nat} {r : Nat → Nat} {f : Nat → va_E} {cA cy : ClassId} {ty : FieldType} {x : vp_A} {kk : Nat × Nat} (gt : ∀ q ∈ tys, q ∈ tys') (h1 : (cA, .array ty) ∈ tys') (h2 : (cy, ty) ∈ tys') (hx : ∀ ws9, jr_A ws9 x.2 x.2) :
    jr_H b sa ((ws ++ [(q, .inl (cA, N, .inr (.inr (.inr (.inr (fun i => if i < N then some (r i) else none))))))]) ++ va_pl ([] ++ (List.range N).map r) (vr_up f ((List.range N).map r) (.inl (cy, x)))) tys'
      (h.1 ++ [.inr (.array ty, (N, .inr (.inr (.inr (.inr fun i => if i < N then some (h.1.length + 1 + i) else none)))))] ++ List.replicate N (.inr (ty, x)), kk) := by
  obtain ⟨g1, g2⟩ := g
  have row : ∀ i, i < N → ((ws ++ [(q, (Sum.inl (cA, N, .inr (.inr (.inr (.inr (fun i => if i < N then some (r i) else none))))) : va_E))]) ++ va_pl ([] ++ (List.range N).map r) (vr_up f ((List.range N).map r) (.inl (cy, x))))[h.1.length + 1 + i]? = some (r i, .inl (cy, x)) := by
    intro i hi
    rw [List.getElem?_append_right (by simp [g1])]
    have e : h.1.length + 1 + i - (ws ++ [(q, (Sum.inl (cA, N, .inr (.inr (.inr (.inr (fun i => if i < N then some (r i) else none))))) : va_E))]).length = i := by simp [g1]
    rw [e]
    simp only [va_pl, List.nil_append, List.map_map, List.getElem?_map, List.getElem?_range hi, Option.map_some, Function.comp_apply]
    rw [vr_up_in (List.mem_map.mpr ⟨i, List.mem_range.mpr hi, rfl⟩)]
  have le : jr_le ws ((ws ++ [(q, (Sum.inl (cA, N, .inr (.inr (.inr (.inr (fun i => if i < N then some (r i) else none))))) : va_E))]) ++ va_pl ([] ++ (List.range N).map r) (vr_up f ((List.range N).map r) (.inl (cy, x)))) := (jr_le.app _).tr (jr_le.app _)
  refine ⟨by simp [va_pl, g1], fun k c hk => ?_⟩
  have hk : (h.1 ++ [.inr (.array ty, (N, .inr (.inr (.inr (.inr fun i => if i < N then some (h.1.length + 1 + i) else none)))))] ++ List.replicate N (.inr (ty, x)))[k]? = some c := hk
  by_cases e1 : k < h.1.length
  · rw [List.getElem?_append_left (by simp; omega), List.getElem?_append_left e1] at hk
    obtain ⟨w, q1, q2⟩ := g2 k c hk
    obtain ⟨w', q3, q4⟩ := le k w q1
    refine ⟨w, ?_, q2.mono le gt⟩
    rw [List.getElem?_append_left (by simp [g1]; omega), List.getElem?_append_left (by rw [g1]; exact e1)]
    exact q1
  · by_cases e2 : k = h.1.length
    · subst e2
      rw [List.getElem?_append_left (by simp), List.getElem?_append_right (Nat.le_refl _)] at hk
      simp at hk
      subst hk
      refine ⟨_, by rw [List.getElem?_append_left (by simp [g1]), List.getElem?_append_right (by rw [g1]; exact Nat.le_refl _), g1]; simp; rfl, cA, _, rfl, h1, _, rfl, fun i => ?_⟩
      by_cases hi : i < N
      · simp only [if_pos hi]
        exact ⟨_, row i hi, rfl⟩
      · simp only [if_neg hi]
        rfl
    · rw [List.getElem?_append_right (by simp; omega)] at hk
      have hz := (List.getElem?_eq_some_iff.mp hk).1
      simp at hz
      have e3 : k = h.1.length + 1 + (k - (h.1.length + 1)) := by omega
      rw [List.getElem?_replicate] at hk
      rw [if_pos (by simp; omega)] at hk
      cases hk
      refine ⟨_, by rw [e3]; exact row _ (by omega), cy, _, rfl, h2, hx _⟩
section JR
variable {p : Program} {l : Launch} {e : Env} {R : Room} {s : State} {m : MethodId} {args : Array Value} {below : List Frame} {meth : Method} {c : Code} {H : Heap} {locs : List Loc} {cells slots : Nat} {Q : State → Prop}
variable {cc : ByteArray} {pc : Nat} {ls : Array Slot} {D : va_G} {cl : List vw_C} {A : Nat → Prop} {tys : List (ClassId × FieldType)} {ws : va_W}
variable {G : jm_G} {tx : List String} {tb : List jm_M} {Wd : List Cond} {own nm : String} {nL b Ln : Nat} {xs : Nat → Int32} {sa : Nat → Nat} {L : jm_L} {st S : List Value} {h : jm_H}
set_option maxHeartbeats 4000000 in
theorem jr_multianewarray {n n2 : Nat} {np x y z w : Nat} {v : Value} {bs : List Bool} {q : jm_S} (hE : jr_E p c cc nL s args own nm m meth R) (hK : jr_K tx G.2.1 b G.2.2.1 G.2.2.2 sa A s) (hC : jr_cls cl G) (hW : ∀ w ∈ Wd, w ∈ lw_tbl) (he : jm_okb cl tx tb Wd own nm cc nL (pc, .multianewarray n n2, np, x, y, z, w, v, bs) = true) (hst : jm_stp G (pc, .multianewarray n n2, np, x, y, z, w, v, bs) L st h = some q)
    (hI : jr_I D cl A b sa s h H locs ws tys) (hL : jr_L b sa ws L ls nL) (hS : jr_S b sa ws st S) (hroom : cells + q.2.2.2.2.1 ≤ R.cells + h.2.1 ∧ slots + q.2.2.2.2.2 ≤ R.slots + h.2.2) (k : jr_go p l e R s m args below meth c D cl A nL b sa ws tys h cells slots Q q) : W p l e R s m args below meth c H locs cells slots Q (F0 m pc ls S) := by
  obtain ⟨hx, hb, hml, hts, hown, hnm, hRf, hRl⟩ := hE
  simp only [jm_okb, Bool.and_eq_true, decide_eq_true_eq] at he
  obtain ⟨hd0, hnp, hmk, ho⟩ := he
  simp only [jm_il] at hnp
  simp only [jm_stp] at hst
  have hd : decode cc pc = .ok (.multianewarray n n2, 4) := by rw [show np - pc = 4 by omega] at hd0; exact hd0
  split at hst
  case h_2 => cases hst
  case h_1 k0 n0 r0 =>
    split at hst
    case isTrue => cases hst
    case isFalse hg =>
    obtain ⟨rfl, ho2⟩ := ho
    obtain ⟨R1, rfl, hS1⟩ := jr_S_i hS
    obtain ⟨R0, rfl, hS0⟩ := jr_S_i hS1
    obtain ⟨hK1, hP, hD, hSS, hH⟩ := hI
    have hn0 : ¬ n0 < 0 := fun q => hg (Or.inl q)
    have hk0 : ¬ k0 < 0 := fun q => hg (Or.inr (Or.inl q))
    have hn1 : n0.toNatClampNeg ≤ 65536 := by omega
    have hk1 : k0.toNatClampNeg ≤ 65536 := by omega
    have hr1 : q.2.2.2.2.1 = h.2.1 + 1 + n0.toNatClampNeg ∧ q.2.2.2.2.2 = h.2.2 + n0.toNatClampNeg + n0.toNatClampNeg * k0.toNatClampNeg := by cases hst; exact ⟨rfl, rfl⟩
    rw [hr1.1, hr1.2] at hroom
    subst hnp
    by_cases hz : z = 0
    all_goals simp only [hz, ↓reduceIte] at hst ho2
    all_goals cases hst
    · have ho := of_decide_eq_true (show decide (Wd[w]? = some (Cond.classLink own n "[[I")) = true from ho2)
      obtain ⟨cy, ky, comp, fy, ky1, ky2⟩ := Cond.arrayClass_spec (hts _ jr_arr_int)
      refine va_mna (X := ws) (L := []) (f := fun _ => .inr (0, [])) (ty := .int) (cy := cy) (z := (k0.toNatClampNeg, .inl fun _ => 0)) hx hb hown (hts _ (jr_g (hW _ (List.mem_of_getElem? ho)) rfl)) hK.2.2.2.2.2.2.1.2.1 (hts _ jr_arr_int) fy hK1 (by simpa [va_pl] using hP) (by simpa [va_pl] using hD) hSS hK.1 hn0 hk0 rfl rfl (by omega) (by show _ * 4 ≤ _; omega) (by omega) rfl rfl (by omega) (by omega) (fun c9 => by rw [vp_cell_i]; exact (arrV_new _ _ _)) hd (fun q9 r9 cA H1 _ _ hK9 hP1 hD1 hS9 => ?_)
      have hK8 : va_K D cl ((tys ++ [(cA, .array .int)]) ++ [(cy, .int)]) s := hK9.app ⟨hK9.1, fun k9 x9 hx9 => by
        cases k9 with
        | zero => cases hx9; exact ⟨fun n9 z9 => ⟨fun k h => (by cases h), ky, ky1, comp, ky2⟩, fy⟩
        | succ k9 => simp at hx9⟩
      refine k _ _ H1 locs ls _ (cells + 1 + n0.toNatClampNeg) (slots + n0.toNatClampNeg + n0.toNatClampNeg * k0.toNatClampNeg) ((jr_le.app _).tr (jr_le.app _)) (fun t ht => List.mem_append_left _ (List.mem_append_left _ ht)) ⟨hK8, hP1, hD1, hS9, ?_⟩ (hL.mono ((jr_le.app _).tr (jr_le.app _))) ⟨⟨(q9, .inl (cA, n0.toNatClampNeg, .inr (.inr (.inr (.inr (fun i => if i < n0.toNatClampNeg then some (r9 i) else none)))))), ?_, rfl⟩, hS0.mono ((jr_le.app _).tr (jr_le.app _))⟩ ?_ ?_
      · exact hH.multi (ty := .int) (x := (k0.toNatClampNeg, .inl fun _ => 0)) (fun t ht => List.mem_append_left _ (List.mem_append_left _ ht)) (List.mem_append_left _ (List.mem_append_right _ List.mem_cons_self)) (List.mem_append_right _ List.mem_cons_self) (fun _ => rfl)
      · rw [List.getElem?_append_left (by simp [hH.1]), List.getElem?_append_right (by rw [hH.1]; exact Nat.le_refl _), hH.1]; simp
      · show cells + 1 + n0.toNatClampNeg + h.2.1 = cells + (h.2.1 + 1 + n0.toNatClampNeg); omega
      · show slots + n0.toNatClampNeg + n0.toNatClampNeg * k0.toNatClampNeg + h.2.2 = slots + (h.2.2 + n0.toNatClampNeg + n0.toNatClampNeg * k0.toNatClampNeg); omega
    · have ho := of_decide_eq_true (show decide (Wd[w]? = some (Cond.classLink own n "[[J")) = true from ho2)
      obtain ⟨cy, ky, comp, fy, ky1, ky2⟩ := Cond.arrayClass_spec (hts _ jr_arr_long)
      refine va_mna (X := ws) (L := []) (f := fun _ => .inr (0, [])) (ty := .long) (cy := cy) (z := (k0.toNatClampNeg, .inr (.inl fun _ => 0))) hx hb hown (hts _ (jr_g (hW _ (List.mem_of_getElem? ho)) rfl)) hK.2.2.2.2.2.2.1.2.2 (hts _ jr_arr_long) fy hK1 (by simpa [va_pl] using hP) (by simpa [va_pl] using hD) hSS hK.1 hn0 hk0 rfl rfl (by omega) (by show _ * 8 ≤ _; omega) (by omega) rfl rfl (by omega) (by omega) (fun c9 => by rw [vp_cell_l]; exact (arrV_new _ _ _)) hd (fun q9 r9 cA H1 _ _ hK9 hP1 hD1 hS9 => ?_)
      have hK8 : va_K D cl ((tys ++ [(cA, .array .long)]) ++ [(cy, .long)]) s := hK9.app ⟨hK9.1, fun k9 x9 hx9 => by
        cases k9 with
        | zero => cases hx9; exact ⟨fun n9 z9 => ⟨fun k h => (by cases h), ky, ky1, comp, ky2⟩, fy⟩
        | succ k9 => simp at hx9⟩
      refine k _ _ H1 locs ls _ (cells + 1 + n0.toNatClampNeg) (slots + n0.toNatClampNeg + n0.toNatClampNeg * k0.toNatClampNeg) ((jr_le.app _).tr (jr_le.app _)) (fun t ht => List.mem_append_left _ (List.mem_append_left _ ht)) ⟨hK8, hP1, hD1, hS9, ?_⟩ (hL.mono ((jr_le.app _).tr (jr_le.app _))) ⟨⟨(q9, .inl (cA, n0.toNatClampNeg, .inr (.inr (.inr (.inr (fun i => if i < n0.toNatClampNeg then some (r9 i) else none)))))), ?_, rfl⟩, hS0.mono ((jr_le.app _).tr (jr_le.app _))⟩ ?_ ?_
      · exact hH.multi (ty := .long) (x := (k0.toNatClampNeg, .inr (.inl fun _ => 0))) (fun t ht => List.mem_append_left _ (List.mem_append_left _ ht)) (List.mem_append_left _ (List.mem_append_right _ List.mem_cons_self)) (List.mem_append_right _ List.mem_cons_self) (fun _ => rfl)
      · rw [List.getElem?_append_left (by simp [hH.1]), List.getElem?_append_right (by rw [hH.1]; exact Nat.le_refl _), hH.1]; simp
      · show cells + 1 + n0.toNatClampNeg + h.2.1 = cells + (h.2.1 + 1 + n0.toNatClampNeg); omega
      · show slots + n0.toNatClampNeg + n0.toNatClampNeg * k0.toNatClampNeg + h.2.2 = slots + (h.2.2 + n0.toNatClampNeg + n0.toNatClampNeg * k0.toNatClampNeg); omega
end JR
