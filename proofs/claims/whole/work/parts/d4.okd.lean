/-! the two methods that throw, and the law's rows -/
def wx_ck (x : Cond) : List (Option Nat) → List Cond → Bool
  | [], [] => true
  | some i :: ps, w :: W => decide (tables_1[i]? = some w) && (goodWord w && wx_ck x ps W)
  | none :: ps, w :: W => decide (w = x) && wx_ck x ps W
  | _, _ => false
theorem wx_ckok {x : Cond} : ∀ {ps : List (Option Nat)} {W : List Cond}, wx_ck x ps W = true → ∀ w ∈ W, w ∈ jr_T ∨ w = x
  | [], [], _, w, hw => by cases hw
  | [], _ :: _, h, _, _ => by simp [wx_ck] at h
  | _ :: _, [], h, w, hw => by cases hw
  | some i :: ps, v :: W, h, w, hw => by
    unfold wx_ck at h
    simp only [Bool.and_eq_true, decide_eq_true_eq] at h
    rcases List.mem_cons.mp hw with rfl | hw
    · exact Or.inl (jk_mem i h.1 h.2.1)
    · exact wx_ckok h.2.2 w hw
  | none :: ps, v :: W, h, w, hw => by
    unfold wx_ck at h
    simp only [Bool.and_eq_true, decide_eq_true_eq] at h
    rcases List.mem_cons.mp hw with rfl | hw
    · exact Or.inr h.1
    · exact wx_ckok h.2 w hw
def jk_all6 (cl : List vw_C) (tx : List String) (tb : List jm_M) (W : List Cond) (M : jm_M) (p q : Nat) (l : List jm_I) : Bool := l.all fun e => jm_okb cl tx tb W M.1.cls M.1.name M.2.1 M.2.2.1 e && (jm_okr M e && (decide (jm_kind e ≠ 6) || (decide (e.1 = p) && decide (e.2.2.2.1 = q))))
theorem jk_of6 {cl : List vw_C} {tx : List String} {tb : List jm_M} {W : List Cond} {M : jm_M} {p q : Nat} {l : List jm_I} (h : jk_all6 cl tx tb W M p q l = true) (ht : ∀ e : jm_I, e.1 = p → e.2.2.2.1 = q → jr_thr tx M e) : ∀ e ∈ l, jm_okb cl tx tb W M.1.cls M.1.name M.2.1 M.2.2.1 e = true ∧ jm_okr M e = true ∧ (jm_kind e = 6 → jr_thr tx M e) := by
  intro e he
  have h1 := List.all_eq_true.mp h e he
  simp only [Bool.and_eq_true, Bool.or_eq_true, decide_eq_true_eq] at h1
  refine ⟨h1.1, h1.2.1, fun h6 => ?_⟩
  rcases h1.2.2 with h2 | h2
  · exact absurd h6 h2
  · exact ht e h2.1 h2.2
theorem thr_need : ∀ e : jm_I, e.1 = 14 → e.2.2.2.1 = 2001 → jr_thr jm_tx mX11_need e := fun e e1 e2 => ⟨317, 319, 321, 0, 1, 7, prog_19_method_2_code, "no such argument", by rw [e2], by decide, by rw [e1]; decide +kernel, by rw [e1]; decide +kernel, by rw [e1]; decide +kernel, by rw [e1]; decide +kernel, by rw [e1]; decide +kernel, by decide +kernel, List.mem_append_right _ (List.mem_of_getElem? (i := 842) (by decide +kernel)), jk_mem 802 (by decide +kernel) rfl, jk_mem 18 (by decide +kernel) rfl, ⟨by decide +kernel, by decide +kernel, by decide +kernel, by decide +kernel⟩, wx_ckok (ps := [some 15, some 824, some 833, some 836, some 839, some 841, some 825, some 826, some 30, some 31, some 827, some 832, some 837, some 857, some 814, some 858, some 816, some 859, some 818, some 828, some 830, some 820, some 853, some 854, some 856, some 820, some 844, some 845, some 846, some 847, some 806, some 847, some 848, some 849, some 850, some 808, some 850, some 851, some 852, some 853, some 810, some 843, some 803, none, some 811, some 812, some 813, some 815, some 817, some 819, some 823, some 822, some 821]) (by decide +kernel), by decide +kernel, by decide +kernel⟩
theorem okX11_need : jr_okM vwCl jm_tx jm_tb mX11_need := ⟨⟨jw_X11, (fun w h => List.mem_append_right _ (jw_X11_in w h)), jk_of6 (p := 14) (q := 2001) (by decide +kernel) thr_need⟩, ⟨by decide +kernel, by decide +kernel, by decide +kernel⟩, jk_mem 1 (by decide +kernel) rfl, by decide, Or.inl ⟨rfl, jk_mem 801 (by decide +kernel) rfl⟩, Or.inr ⟨jk_mem 800 (by decide +kernel) rfl, Or.inr (jk_sel 21 (by decide +kernel) rfl), by decide +kernel⟩, by decide +kernel⟩
theorem thr_needFound : ∀ e : jm_I, e.1 = 14 → e.2.2.2.1 = 2000 → jr_thr jm_tx mX11_needFound e := fun e e1 e2 => ⟨324, 326, 328, 1, 0, 13, prog_28_method_4_code, "no such PERSON or VISIT", by rw [e2], by decide, by rw [e1]; decide +kernel, by rw [e1]; decide +kernel, by rw [e1]; decide +kernel, by rw [e1]; decide +kernel, by rw [e1]; decide +kernel, by decide +kernel, List.mem_append_right _ (List.mem_of_getElem? (i := 1060) (by decide +kernel)), jk_mem 1051 (by decide +kernel) rfl, jk_mem 23 (by decide +kernel) rfl, ⟨by decide +kernel, by decide +kernel, by decide +kernel, by decide +kernel⟩, wx_ckok (ps := [some 15, some 824, some 833, some 836, some 839, some 841, some 825, some 826, some 30, some 31, some 827, some 832, some 837, some 857, some 814, some 858, some 816, some 859, some 818, some 828, some 830, some 820, some 853, some 854, some 856, some 820, some 1062, some 1063, some 1064, some 847, some 806, some 847, some 848, some 849, some 850, some 808, some 850, some 851, some 852, some 853, some 810, some 1061, some 1052, none, some 1054, some 835, some 1055, some 1056, some 1057, some 1058, some 823, some 822, some 1059]) (by decide +kernel), by decide +kernel, by decide +kernel⟩
theorem okX11_needFound : jr_okM vwCl jm_tx jm_tb mX11_needFound := ⟨⟨jw_X11, (fun w h => List.mem_append_right _ (jw_X11_in w h)), jk_of6 (p := 14) (q := 2000) (by decide +kernel) thr_needFound⟩, ⟨by decide +kernel, by decide +kernel, by decide +kernel⟩, jk_mem 1 (by decide +kernel) rfl, by decide, Or.inl ⟨rfl, jk_mem 1050 (by decide +kernel) rfl⟩, Or.inr ⟨jk_mem 1049 (by decide +kernel) rfl, Or.inr (jk_sel 34 (by decide +kernel) rfl), by decide +kernel⟩, by decide +kernel⟩
theorem okwL_law : jr_okW vwCl jm_tx jm_tb mL_law := ⟨jw_L, (fun w h => List.mem_append_right _ (jw_L_in w h)), jk_of (by decide +kernel)⟩
def okAll (l : List jm_M) : Prop := ∀ M ∈ l, jr_okM vwCl jm_tx jm_tb M
theorem okAll0 : okAll [] := fun _ h => absurd h List.not_mem_nil
theorem okAll1 {M : jm_M} {l : List jm_M} (h : jr_okM vwCl jm_tx jm_tb M) (t : okAll l) : okAll (M :: l) := List.forall_mem_cons.mpr ⟨h, t⟩
set_option maxRecDepth 100000 in
theorem okTb : ∀ M ∈ jm_tb, jr_okM vwCl jm_tx jm_tb M :=
  show okAll jm_tb from
  okAll1 okX11_init <|
  okAll1 okX11_feed <|
  okAll1 okX11_office <|
  okAll1 okX11_habit <|
  okAll1 okX11_rule <|
  okAll1 okX11_book <|
  okAll1 okX11_fault <|
  okAll1 okX11_readHabit <|
  okAll1 okX11_closeTape <|
  okAll1 okX11_faultAnswer <|
  okAll1 okX11_told <|
  okAll1 okX11_visit <|
  okAll1 okX11_person <|
  okAll1 okX11_price <|
  okAll1 okX11_states <|
  okAll1 okX11_likely <|
  okAll1 okX11_state <|
  okAll1 okX11_likeliest <|
  okAll1 okX11_mean <|
  okAll1 okX11_often <|
  okAll1 okX11_since <|
  okAll1 okX11_drunk <|
  okAll1 okX11_done <|
  okAll1 okX11_cost <|
  okAll1 okX11_fits <|
  okAll1 okX11_given <|
  okAll1 okX11_best <|
  okAll1 okX11_worth <|
  okAll1 okX11_gain <|
  okAll1 okX11_without <|
  okAll1 okX11_keeper <|
  okAll1 okX11_spoiler <|
  okAll1 okX11_falling <|
  okAll1 okX11_seeing <|
  okAll1 okX11_filled <|
  okAll1 okX11_fill <|
  okAll1 okX11_ruled <|
  okAll1 okX11_swapped <|
  okAll1 okX11_swap <|
  okAll1 okX11_pairOf <|
  okAll1 okX11_day <|
  okAll1 okX11_span <|
  okAll1 okX11_come <|
  okAll1 okX11_skip <|
  okAll1 okX11_shift <|
  okAll1 okX11_teach <|
  okAll1 okX11_undo <|
  okAll1 okX11_image <|
  okAll1 okX11_restore <|
  okAll1 okX11_status <|
  okAll1 okX11_count <|
  okAll1 okX11_need <|
  okAll1 okX11_needFound <|
  okAll1 okX11_needPerson <|
  okAll1 okX11_needVisit <|
  okAll1 okX11_needBytes <|
  okAll1 okX11_isWithin <|
  okAll1 okX11_isPart <|
  okAll1 okX11_diary <|
  okAll1 okX11_people <|
  okAll1 okX11_habitOf <|
  okAll1 okX11_inLeastTerms <|
  okAll1 okX11_commonDivisor <|
  okAll1 okX12_thrown <|
  okAll1 okX12_may <|
  okAll1 okX12_within <|
  okAll1 okX12_init <|
  okAll1 okX12_feed <|
  okAll1 okX12_fine <|
  okAll1 okX12_wrong <|
  okAll1 okX12_here <|
  okAll1 okX12_isSmall <|
  okAll1 okX12_isDigit <|
  okAll1 okX12_word <|
  okAll1 okX12_of <|
  okAll1 okX12_pass <|
  okAll1 okX12_readNumber <|
  okAll1 okX12_sign <|
  okAll1 okX12_isMore <|
  okAll1 okX12_begins <|
  okAll1 okX12_result <|
  okAll1 okX12_fault <|
  okAll1 okX12_clears <|
  okAll1 okX12_copies <|
  okAll1 okX12_sets <|
  okAll1 okX12_puts <|
  okAll1 okX12_readClause <|
  okAll1 okX12_standsHere <|
  okAll1 okX12_clauseHere <|
  okAll1 okX12_office <|
  okAll1 okX12_emit <|
  okAll1 okX12_opensOne <|
  okAll1 okX12_readAny <|
  okAll1 okX12_readAll <|
  okAll1 okX12_readOne <|
  okAll1 okX12_readSum <|
  okAll1 okX12_readProduct <|
  okAll1 okX12_factOf <|
  okAll1 okX12_readUnit <|
  okAll1 okX12_actOf <|
  okAll1 okX12_readStep <|
  okAll1 okX12_readHabit <|
  okAll1 okX12_isPerson <|
  okAll1 okX12_isVisit <|
  okAll1 okX12_isTold <|
  okAll1 okX12_habit <|
  okAll1 okX12_rule <|
  okAll1 okX12_book <|
  okAll1 okX12_told <|
  okAll1 okX12_whichOf <|
  okAll1 okX12_sinceOf <|
  okAll1 okX12_visit <|
  okAll1 okX12_person <|
  okAll1 okX12_price <|
  okAll1 okX12_plain <|
  okAll1 okX12_index <|
  okAll1 okX12_begin <|
  okAll1 okX12_gives <|
  okAll1 okX12_takesNext <|
  okAll1 okX12_stateOf <|
  okAll1 okX12_falls <|
  okAll1 okX12_isWarm <|
  okAll1 okX12_isLine <|
  okAll1 okX12_keepsBook <|
  okAll1 okX12_isSo <|
  okAll1 okX12_both <|
  okAll1 okX12_findFacts <|
  okAll1 okX12_habitOf <|
  okAll1 okX12_does <|
  okAll1 okX12_takes <|
  okAll1 okX12_starts <|
  okAll1 okX12_goesStep <|
  okAll1 okX12_ends <|
  okAll1 okX12_comes <|
  okAll1 okX12_goes <|
  okAll1 okX12_goesAll <|
  okAll1 okX12_isOf <|
  okAll1 okX12_likelyOf <|
  okAll1 okX12_all <|
  okAll1 okX12_least <|
  okAll1 okX12_states <|
  okAll1 okX12_likely <|
  okAll1 okX12_partsOf <|
  okAll1 okX12_state <|
  okAll1 okX12_likeliest <|
  okAll1 okX12_mean <|
  okAll1 okX12_isPart <|
  okAll1 okX12_often <|
  okAll1 okX12_since <|
  okAll1 okX12_drunk <|
  okAll1 okX12_done <|
  okAll1 okX12_costNow <|
  okAll1 okX12_cost <|
  okAll1 okX12_fits <|
  okAll1 okX12_goesGiven <|
  okAll1 okX12_share <|
  okAll1 okX12_given <|
  okAll1 okX12_takeCost <|
  okAll1 okX12_worthOf <|
  okAll1 okX12_best <|
  okAll1 okX12_worth <|
  okAll1 okX12_gain <|
  okAll1 okX12_trueNow <|
  okAll1 okX12_without <|
  okAll1 okX12_leastWithout <|
  okAll1 okX12_keeper <|
  okAll1 okX12_spoiler <|
  okAll1 okX12_falling <|
  okAll1 okX12_seeing <|
  okAll1 okX12_filled <|
  okAll1 okX12_fill <|
  okAll1 okX12_ruled <|
  okAll1 okX12_swapped <|
  okAll1 okX12_swap <|
  okAll1 okX12_draws <|
  okAll1 okX12_dayDoes <|
  okAll1 okX12_dayGoes <|
  okAll1 okX12_day <|
  okAll1 okX12_span <|
  okAll1 okX12_keepsVisits <|
  okAll1 okX12_leaves <|
  okAll1 okX12_come <|
  okAll1 okX12_skip <|
  okAll1 okX12_shift <|
  okAll1 okX12_teach <|
  okAll1 okX12_undo <|
  okAll1 okX12_keepsRow <|
  okAll1 okX12_keepsAll <|
  okAll1 okX12_image <|
  okAll1 okX12_restore <|
  okAll1 okX12_status <|
  okAll1 okX12_count <|
  okAll1 okX0_init <|
  okAll1 okX0_clear <|
  okAll1 okX0_copy <|
  okAll1 okX0_read <|
  okAll1 okX0_readLine <|
  okAll1 okX0_tellsOf <|
  okAll1 okX0_isFitting <|
  okAll1 okX0_valueOf <|
  okAll1 okX1_init <|
  okAll1 okX1_pairOf <|
  okAll1 okX1_numberOf <|
  okAll1 okX1_stateAt <|
  okAll1 okX1_partsAt <|
  okAll1 okX1_add <|
  okAll1 okX1_clear <|
  okAll1 okX2_init <|
  okAll1 okX2_setOut <|
  okAll1 okX2_enter <|
  okAll1 okX2_warmth <|
  okAll1 okX2_hasRoom <|
  okAll1 okX2_isTrue <|
  okAll1 okX2_isSo <|
  okAll1 okX2_wordWorths <|
  okAll1 okX3_init <|
  okAll1 okX3_pass <|
  okAll1 okX3_answer <|
  okAll1 okX3_passVisit <|
  okAll1 okX3_isDone <|
  okAll1 okX3_draw <|
  okAll1 okX3_doAct <|
  okAll1 okX3_drink <|
  okAll1 okX3_lookInside <|
  okAll1 okX3_start <|
  okAll1 okX4_init <|
  okAll1 okX4_clear <|
  okAll1 okX4_page <|
  okAll1 okX4_total <|
  okAll1 okX4_personOf <|
  okAll1 okX4_minuteOf <|
  okAll1 okX4_whichOfHis <|
  okAll1 okX4_minutesSinceHis <|
  okAll1 okX4_visitsOf <|
  okAll1 okX4_firstOf <|
  okAll1 okX4_insert <|
  okAll1 okX4_remove <|
  okAll1 okX4_turnPage <|
  okAll1 okX4_turnBack <|
  okAll1 okX4_copy <|
  okAll1 okX4_copyPage <|
  okAll1 okX5_init <|
  okAll1 okX5_clear <|
  okAll1 okX5_copy <|
  okAll1 okX5_actOf <|
  okAll1 okX5_oddsOf <|
  okAll1 okX5_hasCondition <|
  okAll1 okX5_read <|
  okAll1 okX5_readStep <|
  okAll1 okX5_readEither <|
  okAll1 okX5_readBoth <|
  okAll1 okX5_readClaim <|
  okAll1 okX5_takeRelation <|
  okAll1 okX5_readSum <|
  okAll1 okX5_readProduct <|
  okAll1 okX5_readUnit <|
  okAll1 okX5_mayOpen <|
  okAll1 okX5_order <|
  okAll1 okX5_isSo <|
  okAll1 okX5_joined <|
  okAll1 okX5_push <|
  okAll1 okX5_pop <|
  okAll1 okX6_init <|
  okAll1 okX6_forget <|
  okAll1 okX6_endBy <|
  okAll1 okX6_costBy <|
  okAll1 okX6_endOrCostBy <|
  okAll1 okX6_statesBehind <|
  okAll1 okX6_factBehind <|
  okAll1 okX6_partsBehind <|
  okAll1 okX6_drunkBy <|
  okAll1 okX6_washedAgain <|
  okAll1 okX6_looksTaken <|
  okAll1 okX6_factGiven <|
  okAll1 okX6_wayGiven <|
  okAll1 okX6_allGiven <|
  okAll1 okX6_fitting <|
  okAll1 okX6_isVisit <|
  okAll1 okX6_reckon <|
  okAll1 okX6_keepCounts <|
  okAll1 okX6_reckonGiven <|
  okAll1 okX7_init <|
  okAll1 okX7_plan <|
  okAll1 okX7_setOut <|
  okAll1 okX7_isLeftOut <|
  okAll1 okX7_enter <|
  okAll1 okX7_keepFitting <|
  okAll1 okX7_act <|
  okAll1 okX7_doStep <|
  okAll1 okX7_clearMemo <|
  okAll1 okX7_isSo <|
  okAll1 okX7_doAct <|
  okAll1 okX7_drink <|
  okAll1 okX7_lookInside <|
  okAll1 okX7_start <|
  okAll1 okX7_forgetSeen <|
  okAll1 okX7_startFull <|
  okAll1 okX7_goOn <|
  okAll1 okX7_load <|
  okAll1 okX7_drunkFrom <|
  okAll1 okX7_costAt <|
  okAll1 okX7_allParts <|
  okAll1 okX7_trueParts <|
  okAll1 okX7_sumFacts <|
  okAll1 okX7_sumStates <|
  okAll1 okX7_weighWays <|
  okAll1 okX7_takeCost <|
  okAll1 okX7_startCost <|
  okAll1 okX8_init <|
  okAll1 okX8_setOut <|
  okAll1 okX8_toldOf <|
  okAll1 okX8_priceOf <|
  okAll1 okX8_copy <|
  okAll1 okX8_read <|
  okAll1 okX8_readClause <|
  okAll1 okX8_isTooMany <|
  okAll1 okX8_readNumbers <|
  okAll1 okX8_readCups <|
  okAll1 okX8_readPrices <|
  okAll1 okX8_readVisit <|
  okAll1 okX9_init <|
  okAll1 okX9_hasRoom <|
  okAll1 okX9_put <|
  okAll1 okX9_open <|
  okAll1 okX9_isFine <|
  okAll1 okX9_refuse <|
  okAll1 okX9_nextPlace <|
  okAll1 okX9_goesOn <|
  okAll1 okX9_takeSign <|
  okAll1 okX9_needSign <|
  okAll1 okX9_takeWordOf <|
  okAll1 okX9_matches <|
  okAll1 okX9_takeNumber <|
  okAll1 okX9_byteAt <|
  okAll1 okX9_isLetter <|
  okAll1 okX9_isDigit <|
  okAll1 okX10_init <|
  okAll1 okX10_begin <|
  okAll1 okL_office <|
  okAll1 okL_habit <|
  okAll1 okL_rule <|
  okAll1 okL_book <|
  okAll1 okL_told <|
  okAll1 okL_visit <|
  okAll1 okL_person <|
  okAll1 okL_price <|
  okAll1 okL_states <|
  okAll1 okL_likely <|
  okAll1 okL_state <|
  okAll1 okL_likeliest <|
  okAll1 okL_mean <|
  okAll1 okL_often <|
  okAll1 okL_drunk <|
  okAll1 okL_done <|
  okAll1 okL_cost <|
  okAll1 okL_fits <|
  okAll1 okL_given <|
  okAll1 okL_best <|
  okAll1 okL_worth <|
  okAll1 okL_gain <|
  okAll1 okL_without <|
  okAll1 okL_falling <|
  okAll1 okL_seeing <|
  okAll1 okL_filled <|
  okAll1 okL_ruled <|
  okAll1 okL_swapped <|
  okAll1 okL_day <|
  okAll1 okL_span <|
  okAll1 okL_come <|
  okAll1 okL_skip <|
  okAll1 okL_shift <|
  okAll1 okL_teach <|
  okAll1 okX9_isFine <|
  okAll1 okJS_charAt <|
  okAll1 okJS_checkIndex <|
  okAll1 okJS_coder <|
  okAll1 okJS_isLatin1 <|
  okAll1 okJS_length <|
  okAll1 okJL_charAt <|
  okAll1 okJP_checkIndex <|
  okAll0
