/-! the String constants of the start -/
def sq_src : List (String × Nat) := [("CardCups", 319), ("CardCups", 326), ("CardCupsModel", 180), ("CardCupsModel", 186), ("CardCupsModel", 188), ("CardCupsModel", 190), ("CardCupsModel", 192), ("CardCupsModel", 194), ("CardCupsModel", 196), ("CardCupsModel", 202), ("CardCupsModel", 211), ("CardCupsModel", 246), ("CardCupsModel", 254), ("CardCupsModel", 262), ("CardCupsModel", 273), ("CardCupsModel", 275), ("CardCupsModel", 277), ("CardCupsModel", 278), ("CardCupsModel", 280), ("CardCupsModel", 282), ("CardCupsModel", 287), ("CardCupsModel", 289), ("CardCupsModel", 291), ("CardCupsModel", 293), ("CardCupsModel", 295), ("CardCupsModel", 297), ("CardCupsModel", 299), ("CardCupsModel", 301), ("CardCupsModel", 309), ("CardCupsModel", 311), ("CardCups$Book", 50), ("CardCups$Habit", 54), ("CardCups$Habit", 64), ("CardCups$Habit", 70), ("CardCups$Habit", 83), ("CardCups$Habit", 91), ("CardCups$Habit", 93), ("CardCups$Habit", 118), ("CardCups$Office", 63)]
def sq_pl : List Nat := [39, 113, 297, 305, 313, 321, 329, 336, 344, 286, 354, 505, 498, 442, 449, 455, 463, 473, 481, 489, 363, 370, 378, 386, 395, 404, 413, 422, 430, 436, 269, 140, 187, 194, 262, 254, 201, 209, 59]
def sq_g : Cond := .and given_1 narrow_1
def sq_F : List Cond := flatC sq_g
def sq_b (i : Nat) : List Int32 := jm_lits.getD i []
def sq_tm (i : Nat) : Term := .string (sq_src.getD i ("", 0)).1 (sq_src.getD i ("", 0)).2
def sq_v (t : Term) : Term := .field t "java/lang/String" "value" "[B"
def sq_el (t : Term) (b : List Int32) : Nat → List Cond
  | 0 => []
  | k + 1 => sq_el t b k ++ [.eq (.elem (sq_v t) (.int (Int32.ofNat k))) (.int (b.getD k 0))]
def sq_ws (t : Term) (b : List Int32) : List Cond := [.exactly t "java/lang/String", .eq (.field t "java/lang/String" "coder" "B") (.int 0), .arrayOf (sq_v t) .byte, .eq (.length (sq_v t)) (.int (Int32.ofNat b.length))] ++ sq_el t b b.length
theorem sq_el_in {t : Term} {b : List Int32} : ∀ {n k : Nat}, k < n → (Cond.eq (.elem (sq_v t) (.int (Int32.ofNat k))) (.int (b.getD k 0))) ∈ sq_el t b n
  | 0, k, h => absurd h (Nat.not_lt_zero k)
  | n + 1, k, h => by
    unfold sq_el
    by_cases e : k = n
    · subst e; exact List.mem_append_right _ List.mem_cons_self
    · exact List.mem_append_left _ (sq_el_in (by omega))
theorem sq_ok : kc_n (fun i => decide (sq_ws (sq_tm i) (sq_b i) = (sq_F.drop (sq_pl.getD i 0)).take ((sq_b i).length + 4))) 39 = true := by decide +kernel
theorem sq_in {i : Nat} (hi : i < 39) : ∀ w ∈ sq_ws (sq_tm i) (sq_b i), w ∈ sq_F := by
  intro w hw
  have h : sq_ws (sq_tm i) (sq_b i) = (sq_F.drop (sq_pl.getD i 0)).take ((sq_b i).length + 4) := of_decide_eq_true (kc_n_ok sq_ok i hi)
  rw [h] at hw
  exact List.mem_of_mem_drop (List.mem_of_mem_take hw)
theorem sq_len : kc_n (fun i => decide ((sq_b i).length < 100)) 39 = true := by decide +kernel
theorem sq_dis : kc_n (fun i => kc_n (fun j => decide (sq_b i = sq_b j → i = j)) 39) 39 = true := by decide +kernel
section SQ0
variable {s : State} {args : Array Value} {A : Nat → Prop}
def sq_P (A : Nat → Prop) (s : State) (i a v : Nat) : Prop := va_O "java/lang/String" a A s s.heap ∧ va_OF "java/lang/String" "coder" "B" (.int 0) a A s s.heap ∧ va_OF "java/lang/String" "value" "[B" (.ref v) a A s s.heap ∧ va_T .byte v (sq_b i).length (fun j => .int ((sq_b i).getD j 0)) A s s.heap
theorem sq_one (hg : sq_g.before args s = true) (hA : ∀ a : Nat, a < s.heap.size → ¬ A a) {i : Nat} (hi : i < 39) : ∃ a v : Nat, sq_P A s i a v ∧ (sq_tm i).eval args s none [] s = some (.ref a) := by
  have hF := flat_of_before sq_g hg
  have hw : ∀ w ∈ sq_ws (sq_tm i) (sq_b i), w.before args s = true := fun w h => hF w (sq_in hi w h)
  have hln : (sq_b i).length < 100 := of_decide_eq_true (kc_n_ok sq_len i hi)
  have one : ∀ k : Nat, k < 1 → k = 0 := fun k hk => by omega
  obtain ⟨adK, adV, ⟨h1, -⟩, h2⟩ := vk_Sof (args := args) (s := s) (N := 1) (tm := fun _ => sq_tm i) (len := [(sq_b i).length]) (byt := [sq_b i]) (A := A)
    (fun k hk => by rw [one k hk]; show (sq_b i).length < 2 ^ 31; omega)
    (fun k _ => hw _ (List.mem_append_left _ List.mem_cons_self))
    (fun k _ => hw _ (List.mem_append_left _ (List.mem_cons_of_mem _ List.mem_cons_self)))
    (fun k _ => hw _ (List.mem_append_left _ (List.mem_cons_of_mem _ (List.mem_cons_of_mem _ List.mem_cons_self))))
    (fun k hk => by rw [one k hk]; exact hw _ (List.mem_append_left _ (List.mem_cons_of_mem _ (List.mem_cons_of_mem _ (List.mem_cons_of_mem _ List.mem_cons_self)))))
    (fun k hk j hj => by rw [one k hk] at hj ⊢; exact hw _ (List.mem_append_right _ (sq_el_in hj)))
    (fun i j hi hj hij => by omega) hA
  exact ⟨adK 0, adV 0, h1 0 (by omega), h2 0 (by omega)⟩
theorem sq_inj {i j a v w : Nat} (hi : i < 39) (hj : j < 39) (h : sq_P A s i a v) (g : sq_P A s j a w) : i = j := by
  obtain ⟨-, -, ⟨cf, k, fi, f, cell, e1, -, e3, -, e5, -⟩, c1, t1, -, -, t4, t5, t6, -⟩ := h
  obtain ⟨-, -, ⟨cf', k', fi', f', cell', e1', -, e3', -, e5', -⟩, c2, u1, -, -, u4, u5, u6, -⟩ := g
  rw [e1] at e1'
  cases e1'
  rw [e3] at e3'
  cases e3'
  rw [e5] at e5'
  cases e5'
  rw [t1] at u1
  cases u1
  have l1 : (sq_b i).length < 100 := of_decide_eq_true (kc_n_ok sq_len i hi)
  have l2 : (sq_b j).length < 100 := of_decide_eq_true (kc_n_ok sq_len j hj)
  have e : (sq_b i).length = (sq_b j).length := by
    rw [t5] at u5
    have := congrArg Int32.toNatClampNeg u5
    rw [n32_cl (by omega), n32_cl (by omega)] at this
    exact this
  have hb : sq_b i = sq_b j := by
    refine List.ext_getElem e (fun k h1 h2 => ?_)
    have h3 := t6 k h1
    rw [u6 k h2] at h3
    simp only [Option.some.injEq, Value.int.injEq] at h3
    rw [List.getD_eq_getElem?_getD, List.getD_eq_getElem?_getD, List.getElem?_eq_getElem h1, List.getElem?_eq_getElem h2] at h3
    exact h3.symm
  exact of_decide_eq_true (kc_n_ok (kc_n_ok sq_dis i hi) j hj) hb
/-- which constant it is -/
theorem sq_wh : (lw_tbl.all fun w => match w with
    | .stringRef o k t => kc_n (fun j => decide (jm_tx[j]? = some t → sq_src[j]? = some (o, k))) 39
    | _ => true) = true := by decide +kernel
theorem sq_which {o t : String} {k j : Nat} (h : Cond.stringRef o k t ∈ lw_tbl) (hj : jm_tx[j]? = some t) : j < 39 ∧ sq_tm j = .string o k := by
  have hl : j < 39 := by
    have h1 := (List.getElem?_eq_some_iff.mp hj).1
    have h2 : jm_tx.length = 39 := by decide +kernel
    omega
  have h3 : kc_n (fun j => decide (jm_tx[j]? = some t → sq_src[j]? = some (o, k))) 39 = true := List.all_eq_true.mp sq_wh _ h
  have h4 : sq_src[j]? = some (o, k) := of_decide_eq_true (kc_n_ok h3 j hl) hj
  refine ⟨hl, ?_⟩
  unfold sq_tm
  rw [List.getD_eq_getElem?_getD, h4]
  rfl
theorem sq_all (hg : sq_g.before args s = true) (hA : ∀ a : Nat, a < s.heap.size → ¬ A a) (hts : ∀ w ∈ lw_tbl, w.before args s = true) : ∃ sa : Nat → Nat, (∀ (own : String) (idx : Nat) (t : String) (j : Nat), Cond.stringRef own idx t ∈ lw_tbl → jm_tx[j]? = some t → vk_R own idx t (sa j) s) ∧ vk_S jm_lits.length (jm_lits.map List.length) jm_lits sa (fun i => sa (i + 1000)) A s s.heap := by
  have h0 : ∀ i : Nat, ∃ q : Nat × Nat, i < 39 → sq_P A s i q.1 q.2 ∧ (sq_tm i).eval args s none [] s = some (.ref q.1) := by
    intro i
    by_cases hi : i < 39
    · obtain ⟨a, v, h1, h2⟩ := sq_one hg hA hi
      exact ⟨(a, v), fun _ => ⟨h1, h2⟩⟩
    · exact ⟨(0, 0), fun h => absurd h hi⟩
  obtain ⟨ad, had⟩ := Classical.axiomOfChoice h0
  have hN : jm_lits.length = 39 := by decide +kernel
  have s1 : ∀ i, i < 39 → (if i < 1000 then (ad i).1 else (ad (i - 1000)).2) = (ad i).1 := fun i hi => if_pos (by omega)
  have s2 : ∀ i, i < 39 → (if i + 1000 < 1000 then (ad (i + 1000)).1 else (ad (i + 1000 - 1000)).2) = (ad i).2 := fun i hi => by rw [if_neg (by omega), Nat.add_sub_cancel]
  have hlen : ∀ i, i < 39 → (jm_lits.map List.length).getD i 0 = (sq_b i).length := fun i hi => by
    have hi' : i < jm_lits.length := by omega
    unfold sq_b
    simp only [List.getD_eq_getElem?_getD, List.getElem?_map, List.getElem?_eq_getElem hi', Option.map_some, Option.getD_some]
  refine ⟨fun i => if i < 1000 then (ad i).1 else (ad (i - 1000)).2, ?_, ?_⟩
  · intro own idx t j hw hj
    obtain ⟨hl, ht⟩ := sq_which hw hj
    have h2 := (had j hl).2
    rw [ht] at h2
    refine vk_R.of (A := args) (hts _ hw) ?_
    dsimp only
    rw [s1 j hl]
    exact h2
  · rw [hN]
    refine ⟨fun i hi => ?_, fun i j hi hj e => ?_⟩
    · obtain ⟨p1, p2, p3, p4⟩ := (had i hi).1
      dsimp only
      rw [s1 i hi, s2 i hi, hlen i hi]
      exact ⟨p1, p2, p3, p4⟩
    · dsimp only at e
      rw [s1 i hi, s1 j hj] at e
      have g := (had j hj).1
      rw [← e] at g
      exact sq_inj hi hj (had i hi).1 g
end SQ0
