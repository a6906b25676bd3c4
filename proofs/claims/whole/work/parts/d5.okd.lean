/-! the two methods that throw, and the law's rows -/
/-- where a word of a throw comes from: 0 the tables at i; 1 the castable; 2 a declares, by the tables at i and j -/
def wx_ck (x : Cond) : List (Nat × Nat × Nat) → List Cond → Bool
  | [], [] => true
  | (0, i, _) :: ps, w :: W => decide (tables_1[i]? = some w) && (goodWord w && wx_ck x ps W)
  | (1, _, _) :: ps, w :: W => decide (w = x) && wx_ck x ps W
  | (_, i, j) :: ps, .declares y :: W => decide (tables_1[i]? = some (.instanceMethod y)) && ((match tables_1[j]? with
    | some (.code z b m r) => decide (z = y) && (goodWord (.instanceMethod y) && goodWord (.code z b m r))
    | _ => false) && wx_ck x ps W)
  | _, _ => false
theorem wx_ckok {x : Cond} : ∀ {ps : List (Nat × Nat × Nat)} {W : List Cond}, wx_ck x ps W = true → ∀ w ∈ W, w ∈ jr_T ∨ w = x ∨ ∃ (y : MethodName) (bytes : ByteArray) (maxL : Nat) (ret : Option FieldType), w = Cond.declares y ∧ Cond.instanceMethod y ∈ jr_T ∧ Cond.code y bytes maxL ret ∈ jr_T := by
  intro ps
  induction ps with
  | nil =>
    intro W h w hw
    cases W with
    | nil => cases hw
    | cons v W => simp [wx_ck] at h
  | cons p ps ih =>
    intro W h w hw
    unfold wx_ck at h
    split at h
    next => cases hw
    next i j ps' v W' e1 =>
      cases e1
      simp only [Bool.and_eq_true, decide_eq_true_eq] at h
      rcases List.mem_cons.mp hw with rfl | hw
      · exact Or.inl (jk_mem i h.1 h.2.1)
      · exact ih h.2.2 w hw
    next i j ps' v W' e1 =>
      cases e1
      simp only [Bool.and_eq_true, decide_eq_true_eq] at h
      rcases List.mem_cons.mp hw with rfl | hw
      · exact Or.inr (Or.inl h.1)
      · exact ih h.2 w hw
    next q i j ps' y W' _ _ e1 =>
      cases e1
      simp only [Bool.and_eq_true, decide_eq_true_eq] at h
      rcases List.mem_cons.mp hw with rfl | hw
      · obtain ⟨h1, h2, -⟩ := h
        split at h2
        next z b m r hz =>
          simp only [Bool.and_eq_true, decide_eq_true_eq] at h2
          obtain ⟨rfl, h3, h4⟩ := h2
          exact Or.inr (Or.inr ⟨z, b, m, r, rfl, jk_mem i h1 h3, jk_mem j hz h4⟩)
        next => cases h2
      · exact ih h.2.2 w hw
    next => cases h
def jk_all6 (cl : List vw_C) (tx : List String) (tb : List jm_M) (W : List Cond) (M : jm_M) (p q : Nat) (l : List jm_I) : Bool := l.all fun e => jm_okb cl tx tb W M.1.cls M.1.name M.2.1 M.2.2.1 e && (jm_okr M e && (decide (jm_kind e ≠ 6) || (decide (e.1 = p) && decide (e.2.2.2.1 = q))))
theorem jk_of6 {cl : List vw_C} {tx : List String} {tb : List jm_M} {W : List Cond} {M : jm_M} {p q : Nat} {l : List jm_I} (h : jk_all6 cl tx tb W M p q l = true) (ht : ∀ e : jm_I, e.1 = p → e.2.2.2.1 = q → jy_thr tx M e) : ∀ e ∈ l, jm_okb cl tx tb W M.1.cls M.1.name M.2.1 M.2.2.1 e = true ∧ jm_okr M e = true ∧ (jm_kind e = 6 → jy_thr tx M e) := by
  intro e he
  have h1 := List.all_eq_true.mp h e he
  simp only [Bool.and_eq_true, Bool.or_eq_true, decide_eq_true_eq] at h1
  refine ⟨h1.1, h1.2.1, fun h6 => ?_⟩
  rcases h1.2.2 with h2 | h2
  · exact absurd h6 h2
  · exact ht e h2.1 h2.2
theorem thr_need : ∀ e : jm_I, e.1 = 14 → e.2.2.2.1 = 2001 → jy_thr jm_tx mX11_need e := fun e e1 e2 => ⟨317, 319, 321, 0, 1, 7, prog_19_method_2_code, "no such argument", by rw [e2], by decide, by rw [e1]; decide +kernel, by rw [e1]; decide +kernel, by rw [e1]; decide +kernel, by rw [e1]; decide +kernel, by rw [e1]; decide +kernel, by decide +kernel, List.mem_append_right _ (List.mem_of_getElem? (i := 853) (by decide +kernel)), jk_mem 813 (by decide +kernel) rfl, jk_mem 18 (by decide +kernel) rfl, ⟨by decide +kernel, by decide +kernel, by decide +kernel, by decide +kernel⟩, wx_ckok (ps := [(0, 15, 0), (0, 835, 0), (0, 844, 0), (0, 847, 0), (0, 850, 0), (0, 852, 0), (0, 836, 0), (0, 837, 0), (0, 30, 0), (0, 31, 0), (0, 838, 0), (0, 843, 0), (0, 848, 0), (0, 868, 0), (0, 825, 0), (0, 869, 0), (0, 827, 0), (0, 870, 0), (0, 829, 0), (0, 839, 0), (0, 841, 0), (0, 831, 0), (0, 864, 0), (0, 865, 0), (0, 867, 0), (0, 831, 0), (0, 855, 0), (0, 856, 0), (0, 857, 0), (0, 858, 0), (2, 858, 859), (0, 858, 0), (0, 859, 0), (0, 860, 0), (0, 861, 0), (2, 861, 862), (0, 861, 0), (0, 862, 0), (0, 863, 0), (0, 864, 0), (2, 864, 865), (0, 854, 0), (0, 814, 0), (1, 0, 0), (0, 822, 0), (0, 823, 0), (0, 824, 0), (0, 826, 0), (0, 828, 0), (0, 830, 0), (0, 834, 0), (0, 833, 0), (0, 832, 0)]) (by decide +kernel), by decide +kernel, by decide +kernel⟩
theorem okX11_need : jy_okM vwCl jm_tx jm_tb mX11_need := ⟨⟨jw_X11, (fun w h => List.mem_append_right _ (jw_X11_in w h)), jk_of6 (p := 14) (q := 2001) (by decide +kernel) thr_need⟩, ⟨by decide +kernel, by decide +kernel, by decide +kernel⟩, jk_mem 1 (by decide +kernel) rfl, by decide, Or.inl ⟨rfl, jk_mem 812 (by decide +kernel) rfl⟩, Or.inr ⟨jk_mem 811 (by decide +kernel) rfl, Or.inr (jk_sel 23 (by decide +kernel) rfl), by decide +kernel⟩, by decide +kernel⟩
theorem thr_needFound : ∀ e : jm_I, e.1 = 14 → e.2.2.2.1 = 2000 → jy_thr jm_tx mX11_needFound e := fun e e1 e2 => ⟨324, 326, 328, 1, 0, 13, prog_28_method_4_code, "no such PERSON or VISIT", by rw [e2], by decide, by rw [e1]; decide +kernel, by rw [e1]; decide +kernel, by rw [e1]; decide +kernel, by rw [e1]; decide +kernel, by rw [e1]; decide +kernel, by decide +kernel, List.mem_append_right _ (List.mem_of_getElem? (i := 1070) (by decide +kernel)), jk_mem 1061 (by decide +kernel) rfl, jk_mem 23 (by decide +kernel) rfl, ⟨by decide +kernel, by decide +kernel, by decide +kernel, by decide +kernel⟩, wx_ckok (ps := [(0, 15, 0), (0, 835, 0), (0, 844, 0), (0, 847, 0), (0, 850, 0), (0, 852, 0), (0, 836, 0), (0, 837, 0), (0, 30, 0), (0, 31, 0), (0, 838, 0), (0, 843, 0), (0, 848, 0), (0, 868, 0), (0, 825, 0), (0, 869, 0), (0, 827, 0), (0, 870, 0), (0, 829, 0), (0, 839, 0), (0, 841, 0), (0, 831, 0), (0, 864, 0), (0, 865, 0), (0, 867, 0), (0, 831, 0), (0, 1072, 0), (0, 1073, 0), (0, 1074, 0), (0, 858, 0), (2, 858, 859), (0, 858, 0), (0, 859, 0), (0, 860, 0), (0, 861, 0), (2, 861, 862), (0, 861, 0), (0, 862, 0), (0, 863, 0), (0, 864, 0), (2, 864, 865), (0, 1071, 0), (0, 1062, 0), (1, 0, 0), (0, 1064, 0), (0, 846, 0), (0, 1065, 0), (0, 1066, 0), (0, 1067, 0), (0, 1068, 0), (0, 834, 0), (0, 833, 0), (0, 1069, 0)]) (by decide +kernel), by decide +kernel, by decide +kernel⟩
theorem okX11_needFound : jy_okM vwCl jm_tx jm_tb mX11_needFound := ⟨⟨jw_X11, (fun w h => List.mem_append_right _ (jw_X11_in w h)), jk_of6 (p := 14) (q := 2000) (by decide +kernel) thr_needFound⟩, ⟨by decide +kernel, by decide +kernel, by decide +kernel⟩, jk_mem 1 (by decide +kernel) rfl, by decide, Or.inl ⟨rfl, jk_mem 1060 (by decide +kernel) rfl⟩, Or.inr ⟨jk_mem 1059 (by decide +kernel) rfl, Or.inr (jk_sel 37 (by decide +kernel) rfl), by decide +kernel⟩, by decide +kernel⟩
theorem jk_take {cl : List vw_C} {tx : List String} {tb : List jm_M} {W : List Cond} {M : jm_M} {l : List jm_I} (n : Nat) (h1 : jk_all cl tx tb W M (l.take n) = true) (h2 : jk_all cl tx tb W M (l.drop n) = true) : jk_all cl tx tb W M l = true := by
  refine List.all_eq_true.mpr fun e he => ?_
  rw [← List.take_append_drop n l] at he
  rcases List.mem_append.mp he with he | he
  · exact List.all_eq_true.mp h1 e he
  · exact List.all_eq_true.mp h2 e he
theorem jk_nil {cl : List vw_C} {tx : List String} {tb : List jm_M} {W : List Cond} {M : jm_M} {l : List jm_I} (h : l = []) : jk_all cl tx tb W M l = true := by rw [h]; rfl
theorem law_r0 : jk_all vwCl jm_tx jm_tb jw_L mL_law ((kL_law.drop 0).take 40) = true := by decide +kernel
theorem law_r40 : jk_all vwCl jm_tx jm_tb jw_L mL_law ((kL_law.drop 40).take 40) = true := by decide +kernel
theorem law_r80 : jk_all vwCl jm_tx jm_tb jw_L mL_law ((kL_law.drop 80).take 40) = true := by decide +kernel
theorem law_r120 : jk_all vwCl jm_tx jm_tb jw_L mL_law ((kL_law.drop 120).take 40) = true := by decide +kernel
theorem law_r160 : jk_all vwCl jm_tx jm_tb jw_L mL_law ((kL_law.drop 160).take 40) = true := by decide +kernel
theorem law_r200 : jk_all vwCl jm_tx jm_tb jw_L mL_law ((kL_law.drop 200).take 40) = true := by decide +kernel
theorem law_r240 : jk_all vwCl jm_tx jm_tb jw_L mL_law ((kL_law.drop 240).take 40) = true := by decide +kernel
theorem law_r280 : jk_all vwCl jm_tx jm_tb jw_L mL_law ((kL_law.drop 280).take 40) = true := by decide +kernel
theorem law_r320 : jk_all vwCl jm_tx jm_tb jw_L mL_law ((kL_law.drop 320).take 40) = true := by decide +kernel
theorem law_r360 : jk_all vwCl jm_tx jm_tb jw_L mL_law ((kL_law.drop 360).take 40) = true := by decide +kernel
theorem law_r400 : jk_all vwCl jm_tx jm_tb jw_L mL_law ((kL_law.drop 400).take 40) = true := by decide +kernel
theorem law_r440 : jk_all vwCl jm_tx jm_tb jw_L mL_law ((kL_law.drop 440).take 40) = true := by decide +kernel
theorem law_r480 : jk_all vwCl jm_tx jm_tb jw_L mL_law ((kL_law.drop 480).take 40) = true := by decide +kernel
theorem law_r520 : jk_all vwCl jm_tx jm_tb jw_L mL_law ((kL_law.drop 520).take 40) = true := by decide +kernel
theorem law_r560 : jk_all vwCl jm_tx jm_tb jw_L mL_law ((kL_law.drop 560).take 40) = true := by decide +kernel
theorem law_r600 : jk_all vwCl jm_tx jm_tb jw_L mL_law ((kL_law.drop 600).take 40) = true := by decide +kernel
theorem law_r640 : jk_all vwCl jm_tx jm_tb jw_L mL_law ((kL_law.drop 640).take 40) = true := by decide +kernel
theorem law_r680 : jk_all vwCl jm_tx jm_tb jw_L mL_law ((kL_law.drop 680).take 40) = true := by decide +kernel
theorem law_r720 : jk_all vwCl jm_tx jm_tb jw_L mL_law ((kL_law.drop 720).take 40) = true := by decide +kernel
theorem law_r760 : jk_all vwCl jm_tx jm_tb jw_L mL_law ((kL_law.drop 760).take 40) = true := by decide +kernel
theorem law_r800 : jk_all vwCl jm_tx jm_tb jw_L mL_law ((kL_law.drop 800).take 40) = true := by decide +kernel
theorem law_r840 : jk_all vwCl jm_tx jm_tb jw_L mL_law ((kL_law.drop 840).take 40) = true := by decide +kernel
theorem law_r880 : jk_all vwCl jm_tx jm_tb jw_L mL_law ((kL_law.drop 880).take 40) = true := by decide +kernel
theorem law_r920 : jk_all vwCl jm_tx jm_tb jw_L mL_law ((kL_law.drop 920).take 40) = true := by decide +kernel
theorem law_r960 : jk_all vwCl jm_tx jm_tb jw_L mL_law ((kL_law.drop 960).take 40) = true := by decide +kernel
theorem law_r1000 : jk_all vwCl jm_tx jm_tb jw_L mL_law ((kL_law.drop 1000).take 40) = true := by decide +kernel
theorem law_r1040 : jk_all vwCl jm_tx jm_tb jw_L mL_law ((kL_law.drop 1040).take 40) = true := by decide +kernel
theorem law_r1080 : jk_all vwCl jm_tx jm_tb jw_L mL_law ((kL_law.drop 1080).take 40) = true := by decide +kernel
theorem law_r1120 : jk_all vwCl jm_tx jm_tb jw_L mL_law ((kL_law.drop 1120).take 40) = true := by decide +kernel
theorem law_r1160 : jk_all vwCl jm_tx jm_tb jw_L mL_law ((kL_law.drop 1160).take 40) = true := by decide +kernel
theorem law_r1200 : jk_all vwCl jm_tx jm_tb jw_L mL_law ((kL_law.drop 1200).take 40) = true := by decide +kernel
theorem law_r1240 : jk_all vwCl jm_tx jm_tb jw_L mL_law ((kL_law.drop 1240).take 40) = true := by decide +kernel
theorem law_r1280 : jk_all vwCl jm_tx jm_tb jw_L mL_law ((kL_law.drop 1280).take 40) = true := by decide +kernel
theorem law_r1320 : jk_all vwCl jm_tx jm_tb jw_L mL_law ((kL_law.drop 1320).take 40) = true := by decide +kernel
theorem law_r1360 : jk_all vwCl jm_tx jm_tb jw_L mL_law ((kL_law.drop 1360).take 40) = true := by decide +kernel
theorem law_r1400 : jk_all vwCl jm_tx jm_tb jw_L mL_law ((kL_law.drop 1400).take 40) = true := by decide +kernel
theorem law_r1440 : jk_all vwCl jm_tx jm_tb jw_L mL_law ((kL_law.drop 1440).take 40) = true := by decide +kernel
theorem law_r1480 : jk_all vwCl jm_tx jm_tb jw_L mL_law ((kL_law.drop 1480).take 40) = true := by decide +kernel
theorem law_r1520 : jk_all vwCl jm_tx jm_tb jw_L mL_law ((kL_law.drop 1520).take 40) = true := by decide +kernel
theorem law_r1560 : jk_all vwCl jm_tx jm_tb jw_L mL_law ((kL_law.drop 1560).take 40) = true := by decide +kernel
theorem law_r1600 : jk_all vwCl jm_tx jm_tb jw_L mL_law ((kL_law.drop 1600).take 40) = true := by decide +kernel
theorem law_all : jk_all vwCl jm_tx jm_tb jw_L mL_law kL_law = true := by
  refine jk_take 40 (by have h := law_r0; rw [List.drop_zero] at h; exact h) ?_
  refine jk_take 40 law_r40 ?_
  rw [List.drop_drop]
  refine jk_take 40 law_r80 ?_
  rw [List.drop_drop]
  refine jk_take 40 law_r120 ?_
  rw [List.drop_drop]
  refine jk_take 40 law_r160 ?_
  rw [List.drop_drop]
  refine jk_take 40 law_r200 ?_
  rw [List.drop_drop]
  refine jk_take 40 law_r240 ?_
  rw [List.drop_drop]
  refine jk_take 40 law_r280 ?_
  rw [List.drop_drop]
  refine jk_take 40 law_r320 ?_
  rw [List.drop_drop]
  refine jk_take 40 law_r360 ?_
  rw [List.drop_drop]
  refine jk_take 40 law_r400 ?_
  rw [List.drop_drop]
  refine jk_take 40 law_r440 ?_
  rw [List.drop_drop]
  refine jk_take 40 law_r480 ?_
  rw [List.drop_drop]
  refine jk_take 40 law_r520 ?_
  rw [List.drop_drop]
  refine jk_take 40 law_r560 ?_
  rw [List.drop_drop]
  refine jk_take 40 law_r600 ?_
  rw [List.drop_drop]
  refine jk_take 40 law_r640 ?_
  rw [List.drop_drop]
  refine jk_take 40 law_r680 ?_
  rw [List.drop_drop]
  refine jk_take 40 law_r720 ?_
  rw [List.drop_drop]
  refine jk_take 40 law_r760 ?_
  rw [List.drop_drop]
  refine jk_take 40 law_r800 ?_
  rw [List.drop_drop]
  refine jk_take 40 law_r840 ?_
  rw [List.drop_drop]
  refine jk_take 40 law_r880 ?_
  rw [List.drop_drop]
  refine jk_take 40 law_r920 ?_
  rw [List.drop_drop]
  refine jk_take 40 law_r960 ?_
  rw [List.drop_drop]
  refine jk_take 40 law_r1000 ?_
  rw [List.drop_drop]
  refine jk_take 40 law_r1040 ?_
  rw [List.drop_drop]
  refine jk_take 40 law_r1080 ?_
  rw [List.drop_drop]
  refine jk_take 40 law_r1120 ?_
  rw [List.drop_drop]
  refine jk_take 40 law_r1160 ?_
  rw [List.drop_drop]
  refine jk_take 40 law_r1200 ?_
  rw [List.drop_drop]
  refine jk_take 40 law_r1240 ?_
  rw [List.drop_drop]
  refine jk_take 40 law_r1280 ?_
  rw [List.drop_drop]
  refine jk_take 40 law_r1320 ?_
  rw [List.drop_drop]
  refine jk_take 40 law_r1360 ?_
  rw [List.drop_drop]
  refine jk_take 40 law_r1400 ?_
  rw [List.drop_drop]
  refine jk_take 40 law_r1440 ?_
  rw [List.drop_drop]
  refine jk_take 40 law_r1480 ?_
  rw [List.drop_drop]
  refine jk_take 40 law_r1520 ?_
  rw [List.drop_drop]
  refine jk_take 40 law_r1560 ?_
  rw [List.drop_drop]
  refine jk_take 40 law_r1600 ?_
  rw [List.drop_drop]
  exact jk_nil (List.drop_eq_nil_of_le (Nat.le_of_ble_eq_true (by decide +kernel)))
theorem okwL_law0 : jr_okW vwCl jm_tx jm_tb mL_law := ⟨jw_L, (fun w h => List.mem_append_right _ (jw_L_in w h)), jk_of law_all⟩
theorem okwL_law : jy_okW vwCl jm_tx jm_tb mL_law := by
  obtain ⟨Wd, h1, h2⟩ := okwL_law0
  exact ⟨Wd, h1, fun e he => ⟨(h2 e he).1, (h2 e he).2.1, fun h6 => jy_thr_of ((h2 e he).2.2 h6)⟩⟩
def okAll (l : List jm_M) : Prop := ∀ M ∈ l, jy_okM vwCl jm_tx jm_tb M
theorem okAll0 : okAll [] := fun _ h => absurd h List.not_mem_nil
theorem okAll1 {M : jm_M} {l : List jm_M} (h : jy_okM vwCl jm_tx jm_tb M) (t : okAll l) : okAll (M :: l) := List.forall_mem_cons.mpr ⟨h, t⟩
set_option maxRecDepth 100000 in
theorem okTb : ∀ M ∈ jm_tb, jy_okM vwCl jm_tx jm_tb M :=
  show okAll jm_tb from
  okAll1 (jy_of okX11_init) <|
  okAll1 (jy_of okX11_feed) <|
  okAll1 (jy_of okX11_office) <|
  okAll1 (jy_of okX11_habit) <|
  okAll1 (jy_of okX11_rule) <|
  okAll1 (jy_of okX11_book) <|
  okAll1 (jy_of okX11_fault) <|
  okAll1 (jy_of okX11_readHabit) <|
  okAll1 (jy_of okX11_closeTape) <|
  okAll1 (jy_of okX11_faultAnswer) <|
  okAll1 (jy_of okX11_told) <|
  okAll1 (jy_of okX11_visit) <|
  okAll1 (jy_of okX11_person) <|
  okAll1 (jy_of okX11_price) <|
  okAll1 (jy_of okX11_states) <|
  okAll1 (jy_of okX11_likely) <|
  okAll1 (jy_of okX11_state) <|
  okAll1 (jy_of okX11_likeliest) <|
  okAll1 (jy_of okX11_mean) <|
  okAll1 (jy_of okX11_often) <|
  okAll1 (jy_of okX11_since) <|
  okAll1 (jy_of okX11_drunk) <|
  okAll1 (jy_of okX11_done) <|
  okAll1 (jy_of okX11_cost) <|
  okAll1 (jy_of okX11_fits) <|
  okAll1 (jy_of okX11_given) <|
  okAll1 (jy_of okX11_best) <|
  okAll1 (jy_of okX11_worth) <|
  okAll1 (jy_of okX11_gain) <|
  okAll1 (jy_of okX11_without) <|
  okAll1 (jy_of okX11_keeper) <|
  okAll1 (jy_of okX11_spoiler) <|
  okAll1 (jy_of okX11_falling) <|
  okAll1 (jy_of okX11_seeing) <|
  okAll1 (jy_of okX11_filled) <|
  okAll1 (jy_of okX11_fill) <|
  okAll1 (jy_of okX11_ruled) <|
  okAll1 (jy_of okX11_swapped) <|
  okAll1 (jy_of okX11_swap) <|
  okAll1 (jy_of okX11_pairOf) <|
  okAll1 (jy_of okX11_day) <|
  okAll1 (jy_of okX11_span) <|
  okAll1 (jy_of okX11_come) <|
  okAll1 (jy_of okX11_skip) <|
  okAll1 (jy_of okX11_shift) <|
  okAll1 (jy_of okX11_teach) <|
  okAll1 (jy_of okX11_undo) <|
  okAll1 (jy_of okX11_image) <|
  okAll1 (jy_of okX11_restore) <|
  okAll1 (jy_of okX11_status) <|
  okAll1 (jy_of okX11_count) <|
  okAll1 okX11_need <|
  okAll1 okX11_needFound <|
  okAll1 (jy_of okX11_needPerson) <|
  okAll1 (jy_of okX11_needVisit) <|
  okAll1 (jy_of okX11_needBytes) <|
  okAll1 (jy_of okX11_isWithin) <|
  okAll1 (jy_of okX11_isPart) <|
  okAll1 (jy_of okX11_diary) <|
  okAll1 (jy_of okX11_people) <|
  okAll1 (jy_of okX11_inLeastTerms) <|
  okAll1 (jy_of okX11_commonDivisor) <|
  okAll1 (jy_of okX12_thrown) <|
  okAll1 (jy_of okX12_may) <|
  okAll1 (jy_of okX12_within) <|
  okAll1 (jy_of okX12_init) <|
  okAll1 (jy_of okX12_feed) <|
  okAll1 (jy_of okX12_fine) <|
  okAll1 (jy_of okX12_wrong) <|
  okAll1 (jy_of okX12_here) <|
  okAll1 (jy_of okX12_isSmall) <|
  okAll1 (jy_of okX12_isDigit) <|
  okAll1 (jy_of okX12_word) <|
  okAll1 (jy_of okX12_of) <|
  okAll1 (jy_of okX12_pass) <|
  okAll1 (jy_of okX12_readNumber) <|
  okAll1 (jy_of okX12_sign) <|
  okAll1 (jy_of okX12_isMore) <|
  okAll1 (jy_of okX12_begins) <|
  okAll1 (jy_of okX12_result) <|
  okAll1 (jy_of okX12_fault) <|
  okAll1 (jy_of okX12_clears) <|
  okAll1 (jy_of okX12_copies) <|
  okAll1 (jy_of okX12_sets) <|
  okAll1 (jy_of okX12_puts) <|
  okAll1 (jy_of okX12_readClause) <|
  okAll1 (jy_of okX12_standsHere) <|
  okAll1 (jy_of okX12_clauseHere) <|
  okAll1 (jy_of okX12_office) <|
  okAll1 (jy_of okX12_emit) <|
  okAll1 (jy_of okX12_opensOne) <|
  okAll1 (jy_of okX12_readAny) <|
  okAll1 (jy_of okX12_readAll) <|
  okAll1 (jy_of okX12_readOne) <|
  okAll1 (jy_of okX12_readSum) <|
  okAll1 (jy_of okX12_readProduct) <|
  okAll1 (jy_of okX12_factOf) <|
  okAll1 (jy_of okX12_readUnit) <|
  okAll1 (jy_of okX12_actOf) <|
  okAll1 (jy_of okX12_readStep) <|
  okAll1 (jy_of okX12_readHabit) <|
  okAll1 (jy_of okX12_isPerson) <|
  okAll1 (jy_of okX12_isVisit) <|
  okAll1 (jy_of okX12_isTold) <|
  okAll1 (jy_of okX12_habit) <|
  okAll1 (jy_of okX12_rule) <|
  okAll1 (jy_of okX12_book) <|
  okAll1 (jy_of okX12_told) <|
  okAll1 (jy_of okX12_whichOf) <|
  okAll1 (jy_of okX12_sinceOf) <|
  okAll1 (jy_of okX12_visit) <|
  okAll1 (jy_of okX12_person) <|
  okAll1 (jy_of okX12_price) <|
  okAll1 (jy_of okX12_plain) <|
  okAll1 (jy_of okX12_index) <|
  okAll1 (jy_of okX12_begin) <|
  okAll1 (jy_of okX12_gives) <|
  okAll1 (jy_of okX12_takesNext) <|
  okAll1 (jy_of okX12_stateOf) <|
  okAll1 (jy_of okX12_falls) <|
  okAll1 (jy_of okX12_isWarm) <|
  okAll1 (jy_of okX12_isLine) <|
  okAll1 (jy_of okX12_keepsBook) <|
  okAll1 (jy_of okX12_isSo) <|
  okAll1 (jy_of okX12_both) <|
  okAll1 (jy_of okX12_findFacts) <|
  okAll1 (jy_of okX12_habitOf) <|
  okAll1 (jy_of okX12_does) <|
  okAll1 (jy_of okX12_takes) <|
  okAll1 (jy_of okX12_starts) <|
  okAll1 (jy_of okX12_goesStep) <|
  okAll1 (jy_of okX12_ends) <|
  okAll1 (jy_of okX12_comes) <|
  okAll1 (jy_of okX12_goes) <|
  okAll1 (jy_of okX12_goesAll) <|
  okAll1 (jy_of okX12_isOf) <|
  okAll1 (jy_of okX12_likelyOf) <|
  okAll1 (jy_of okX12_all) <|
  okAll1 (jy_of okX12_least) <|
  okAll1 (jy_of okX12_states) <|
  okAll1 (jy_of okX12_likely) <|
  okAll1 (jy_of okX12_partsOf) <|
  okAll1 (jy_of okX12_state) <|
  okAll1 (jy_of okX12_likeliest) <|
  okAll1 (jy_of okX12_mean) <|
  okAll1 (jy_of okX12_isPart) <|
  okAll1 (jy_of okX12_often) <|
  okAll1 (jy_of okX12_since) <|
  okAll1 (jy_of okX12_drunk) <|
  okAll1 (jy_of okX12_done) <|
  okAll1 (jy_of okX12_costNow) <|
  okAll1 (jy_of okX12_cost) <|
  okAll1 (jy_of okX12_fits) <|
  okAll1 (jy_of okX12_goesGiven) <|
  okAll1 (jy_of okX12_share) <|
  okAll1 (jy_of okX12_given) <|
  okAll1 (jy_of okX12_takeCost) <|
  okAll1 (jy_of okX12_worthOf) <|
  okAll1 (jy_of okX12_best) <|
  okAll1 (jy_of okX12_worth) <|
  okAll1 (jy_of okX12_gain) <|
  okAll1 (jy_of okX12_trueNow) <|
  okAll1 (jy_of okX12_without) <|
  okAll1 (jy_of okX12_leastWithout) <|
  okAll1 (jy_of okX12_keeper) <|
  okAll1 (jy_of okX12_spoiler) <|
  okAll1 (jy_of okX12_falling) <|
  okAll1 (jy_of okX12_seeing) <|
  okAll1 (jy_of okX12_filled) <|
  okAll1 (jy_of okX12_fill) <|
  okAll1 (jy_of okX12_ruled) <|
  okAll1 (jy_of okX12_swapped) <|
  okAll1 (jy_of okX12_swap) <|
  okAll1 (jy_of okX12_draws) <|
  okAll1 (jy_of okX12_dayDoes) <|
  okAll1 (jy_of okX12_dayGoes) <|
  okAll1 (jy_of okX12_day) <|
  okAll1 (jy_of okX12_span) <|
  okAll1 (jy_of okX12_keepsVisits) <|
  okAll1 (jy_of okX12_leaves) <|
  okAll1 (jy_of okX12_come) <|
  okAll1 (jy_of okX12_skip) <|
  okAll1 (jy_of okX12_shift) <|
  okAll1 (jy_of okX12_teach) <|
  okAll1 (jy_of okX12_undo) <|
  okAll1 (jy_of okX12_keepsRow) <|
  okAll1 (jy_of okX12_keepsAll) <|
  okAll1 (jy_of okX12_image) <|
  okAll1 (jy_of okX12_restore) <|
  okAll1 (jy_of okX12_status) <|
  okAll1 (jy_of okX12_count) <|
  okAll1 (jy_of okX0_init) <|
  okAll1 (jy_of okX0_clear) <|
  okAll1 (jy_of okX0_copy) <|
  okAll1 (jy_of okX0_read) <|
  okAll1 (jy_of okX0_readLine) <|
  okAll1 (jy_of okX0_tellsOf) <|
  okAll1 (jy_of okX0_isFitting) <|
  okAll1 (jy_of okX0_valueOf) <|
  okAll1 (jy_of okX1_init) <|
  okAll1 (jy_of okX1_pairOf) <|
  okAll1 (jy_of okX1_numberOf) <|
  okAll1 (jy_of okX1_stateAt) <|
  okAll1 (jy_of okX1_partsAt) <|
  okAll1 (jy_of okX1_add) <|
  okAll1 (jy_of okX1_clear) <|
  okAll1 (jy_of okX2_init) <|
  okAll1 (jy_of okX2_setOut) <|
  okAll1 (jy_of okX2_enter) <|
  okAll1 (jy_of okX2_warmth) <|
  okAll1 (jy_of okX2_hasRoom) <|
  okAll1 (jy_of okX2_isTrue) <|
  okAll1 (jy_of okX2_isSo) <|
  okAll1 (jy_of okX2_wordWorths) <|
  okAll1 (jy_of okX3_init) <|
  okAll1 (jy_of okX3_pass) <|
  okAll1 (jy_of okX3_answer) <|
  okAll1 (jy_of okX3_passVisit) <|
  okAll1 (jy_of okX3_isDone) <|
  okAll1 (jy_of okX3_draw) <|
  okAll1 (jy_of okX3_doAct) <|
  okAll1 (jy_of okX3_drink) <|
  okAll1 (jy_of okX3_lookInside) <|
  okAll1 (jy_of okX3_start) <|
  okAll1 (jy_of okX4_init) <|
  okAll1 (jy_of okX4_clear) <|
  okAll1 (jy_of okX4_page) <|
  okAll1 (jy_of okX4_total) <|
  okAll1 (jy_of okX4_personOf) <|
  okAll1 (jy_of okX4_minuteOf) <|
  okAll1 (jy_of okX4_whichOfHis) <|
  okAll1 (jy_of okX4_minutesSinceHis) <|
  okAll1 (jy_of okX4_visitsOf) <|
  okAll1 (jy_of okX4_firstOf) <|
  okAll1 (jy_of okX4_insert) <|
  okAll1 (jy_of okX4_remove) <|
  okAll1 (jy_of okX4_turnPage) <|
  okAll1 (jy_of okX4_turnBack) <|
  okAll1 (jy_of okX4_copy) <|
  okAll1 (jy_of okX4_copyPage) <|
  okAll1 (jy_of okX5_init) <|
  okAll1 (jy_of okX5_clear) <|
  okAll1 (jy_of okX5_copy) <|
  okAll1 (jy_of okX5_actOf) <|
  okAll1 (jy_of okX5_oddsOf) <|
  okAll1 (jy_of okX5_hasCondition) <|
  okAll1 (jy_of okX5_read) <|
  okAll1 (jy_of okX5_readStep) <|
  okAll1 (jy_of okX5_readEither) <|
  okAll1 (jy_of okX5_readBoth) <|
  okAll1 (jy_of okX5_readClaim) <|
  okAll1 (jy_of okX5_takeRelation) <|
  okAll1 (jy_of okX5_readSum) <|
  okAll1 (jy_of okX5_readProduct) <|
  okAll1 (jy_of okX5_readUnit) <|
  okAll1 (jy_of okX5_mayOpen) <|
  okAll1 (jy_of okX5_order) <|
  okAll1 (jy_of okX5_isSo) <|
  okAll1 (jy_of okX5_joined) <|
  okAll1 (jy_of okX5_push) <|
  okAll1 (jy_of okX5_pop) <|
  okAll1 (jy_of okX6_init) <|
  okAll1 (jy_of okX6_forget) <|
  okAll1 (jy_of okX6_endBy) <|
  okAll1 (jy_of okX6_costBy) <|
  okAll1 (jy_of okX6_endOrCostBy) <|
  okAll1 (jy_of okX6_statesBehind) <|
  okAll1 (jy_of okX6_factBehind) <|
  okAll1 (jy_of okX6_partsBehind) <|
  okAll1 (jy_of okX6_drunkBy) <|
  okAll1 (jy_of okX6_washedAgain) <|
  okAll1 (jy_of okX6_looksTaken) <|
  okAll1 (jy_of okX6_factGiven) <|
  okAll1 (jy_of okX6_wayGiven) <|
  okAll1 (jy_of okX6_allGiven) <|
  okAll1 (jy_of okX6_fitting) <|
  okAll1 (jy_of okX6_isVisit) <|
  okAll1 (jy_of okX6_reckon) <|
  okAll1 (jy_of okX6_keepCounts) <|
  okAll1 (jy_of okX6_reckonGiven) <|
  okAll1 (jy_of okX7_init) <|
  okAll1 (jy_of okX7_plan) <|
  okAll1 (jy_of okX7_setOut) <|
  okAll1 (jy_of okX7_isLeftOut) <|
  okAll1 (jy_of okX7_enter) <|
  okAll1 (jy_of okX7_keepFitting) <|
  okAll1 (jy_of okX7_act) <|
  okAll1 (jy_of okX7_doStep) <|
  okAll1 (jy_of okX7_clearMemo) <|
  okAll1 (jy_of okX7_isSo) <|
  okAll1 (jy_of okX7_doAct) <|
  okAll1 (jy_of okX7_drink) <|
  okAll1 (jy_of okX7_lookInside) <|
  okAll1 (jy_of okX7_start) <|
  okAll1 (jy_of okX7_forgetSeen) <|
  okAll1 (jy_of okX7_startFull) <|
  okAll1 (jy_of okX7_goOn) <|
  okAll1 (jy_of okX7_load) <|
  okAll1 (jy_of okX7_drunkFrom) <|
  okAll1 (jy_of okX7_costAt) <|
  okAll1 (jy_of okX7_allParts) <|
  okAll1 (jy_of okX7_trueParts) <|
  okAll1 (jy_of okX7_sumFacts) <|
  okAll1 (jy_of okX7_sumStates) <|
  okAll1 (jy_of okX7_weighWays) <|
  okAll1 (jy_of okX7_takeCost) <|
  okAll1 (jy_of okX7_startCost) <|
  okAll1 (jy_of okX8_init) <|
  okAll1 (jy_of okX8_setOut) <|
  okAll1 (jy_of okX8_tell) <|
  okAll1 (jy_of okX8_priceAt) <|
  okAll1 (jy_of okX8_toldOf) <|
  okAll1 (jy_of okX8_priceOf) <|
  okAll1 (jy_of okX8_copy) <|
  okAll1 (jy_of okX8_read) <|
  okAll1 (jy_of okX8_readClause) <|
  okAll1 (jy_of okX8_isTooMany) <|
  okAll1 (jy_of okX8_readNumbers) <|
  okAll1 (jy_of okX8_readCups) <|
  okAll1 (jy_of okX8_readPrices) <|
  okAll1 (jy_of okX8_readVisit) <|
  okAll1 (jy_of okX9_init) <|
  okAll1 (jy_of okX9_hasRoom) <|
  okAll1 (jy_of okX9_put) <|
  okAll1 (jy_of okX9_open) <|
  okAll1 (jy_of okX9_isFine) <|
  okAll1 (jy_of okX9_refuse) <|
  okAll1 (jy_of okX9_nextPlace) <|
  okAll1 (jy_of okX9_goesOn) <|
  okAll1 (jy_of okX9_takeSign) <|
  okAll1 (jy_of okX9_needSign) <|
  okAll1 (jy_of okX9_goTo) <|
  okAll1 (jy_of okX9_takeWordOf) <|
  okAll1 (jy_of okX9_matches) <|
  okAll1 (jy_of okX9_takeNumber) <|
  okAll1 (jy_of okX9_byteAt) <|
  okAll1 (jy_of okX9_isLetter) <|
  okAll1 (jy_of okX9_isDigit) <|
  okAll1 (jy_of okX10_init) <|
  okAll1 (jy_of okX10_begin) <|
  okAll1 (jy_of okX10_habitOf) <|
  okAll1 (jy_of okL_office) <|
  okAll1 (jy_of okL_habit) <|
  okAll1 (jy_of okL_rule) <|
  okAll1 (jy_of okL_book) <|
  okAll1 (jy_of okL_told) <|
  okAll1 (jy_of okL_visit) <|
  okAll1 (jy_of okL_person) <|
  okAll1 (jy_of okL_price) <|
  okAll1 (jy_of okL_states) <|
  okAll1 (jy_of okL_likely) <|
  okAll1 (jy_of okL_state) <|
  okAll1 (jy_of okL_likeliest) <|
  okAll1 (jy_of okL_mean) <|
  okAll1 (jy_of okL_often) <|
  okAll1 (jy_of okL_drunk) <|
  okAll1 (jy_of okL_done) <|
  okAll1 (jy_of okL_cost) <|
  okAll1 (jy_of okL_fits) <|
  okAll1 (jy_of okL_given) <|
  okAll1 (jy_of okL_best) <|
  okAll1 (jy_of okL_worth) <|
  okAll1 (jy_of okL_gain) <|
  okAll1 (jy_of okL_without) <|
  okAll1 (jy_of okL_falling) <|
  okAll1 (jy_of okL_seeing) <|
  okAll1 (jy_of okL_filled) <|
  okAll1 (jy_of okL_ruled) <|
  okAll1 (jy_of okL_swapped) <|
  okAll1 (jy_of okL_day) <|
  okAll1 (jy_of okL_span) <|
  okAll1 (jy_of okL_come) <|
  okAll1 (jy_of okL_skip) <|
  okAll1 (jy_of okL_shift) <|
  okAll1 (jy_of okL_teach) <|
  okAll1 (jy_of okX9_isFine) <|
  okAll1 (jy_of okJS_charAt) <|
  okAll1 (jy_of okJS_checkIndex) <|
  okAll1 (jy_of okJS_coder) <|
  okAll1 (jy_of okJS_isLatin1) <|
  okAll1 (jy_of okJS_length) <|
  okAll1 (jy_of okJL_charAt) <|
  okAll1 (jy_of okJP_checkIndex) <|
  okAll0
