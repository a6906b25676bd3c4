/-! the loop of the law -/
section CX0
variable {g : fm_g} {d c i : Nat} {u : fm_S}
theorem Inv.c1 {s t : fm_S} (h : Inv c s t) : Inv (c + 1) s t := by
  obtain ⟨w, G, ver, h1, h2, h3, h4, h5⟩ := h
  exact ⟨w, G, ver, h1, h2, h3, h4, by omega⟩
theorem lw_neg : ∀ m : Nat, m < 6 → Int32.ofNat m - Int32.ofNat 6 < Int32.ofNat 0 := by decide
theorem lw_past (hn : g.1 < 10000) (hi : i < 20000) : (Int32.ofNat g.1 - Int32.ofNat 6 < Int32.ofNat i) = (g.1 < i + 6) := by
  by_cases h : 6 ≤ g.1
  · rw [n32_sub h, n32_lt (by omega) (by omega)]
    exact propext ⟨fun h => by omega, fun h => by omega⟩
  · refine propext ⟨fun _ => by omega, fun _ => ?_⟩
    refine Int32.lt_of_lt_of_le (lw_neg g.1 (by omega)) ?_
    rw [n32_le (by omega) (by omega)]
    omega
theorem lw_pick (hi : i + 6 ≤ g.1) (hg : g.1 < 10000) (hc : c < 1000) (h : Inv c u u) (x : Int32) : ∃ t', ev g (d + 36) mL_law 40 [some (.float 0), some (.ref (0 : Nat)), some (.ref (432 : Nat)), some (.ref (460 : Nat)), some (.int (Int32.ofNat i)), none, none, none] [.int x] u = ev g (d + 36) mL_law 2703 [some (.float 0), some (.ref (0 : Nat)), some (.ref (432 : Nat)), some (.ref (460 : Nat)), some (.int (Int32.ofNat i)), none, none, none] [] t' ∧ Inv (c + 1) t' t' ∧ CNT u t' := by
  rw [sL_law_40]
  by_cases h0 : x = Int32.ofNat 0
  · rw [if_pos h0]; exact lw_feed hi hg hc h
  rw [if_neg h0]
  by_cases h1 : x = Int32.ofNat 1
  · rw [if_pos h1]; exact lw_office hi hg hc h
  rw [if_neg h1]
  by_cases h2 : x = Int32.ofNat 2
  · rw [if_pos h2]; exact lw_habit hi hg hc h
  rw [if_neg h2]
  by_cases h3 : x = Int32.ofNat 3
  · rw [if_pos h3]; exact lw_rule hi hg hc h
  rw [if_neg h3]
  by_cases h4 : x = Int32.ofNat 4
  · rw [if_pos h4]; exact lw_book hi hg hc h
  rw [if_neg h4]
  by_cases h5 : x = Int32.ofNat 5
  · rw [if_pos h5]; exact lw_fault hi hg hc h
  rw [if_neg h5]
  by_cases h6 : x = Int32.ofNat 6
  · rw [if_pos h6]; exact lw_told hi hg hc h
  rw [if_neg h6]
  by_cases h7 : x = Int32.ofNat 7
  · rw [if_pos h7]; exact lw_visit hi hg hc h
  rw [if_neg h7]
  by_cases h8 : x = Int32.ofNat 8
  · rw [if_pos h8]; exact lw_person hi hg hc h
  rw [if_neg h8]
  by_cases h9 : x = Int32.ofNat 9
  · rw [if_pos h9]; exact lw_price hi hg hc h
  rw [if_neg h9]
  by_cases h10 : x = Int32.ofNat 10
  · rw [if_pos h10]; exact lw_states hi hg hc h
  rw [if_neg h10]
  by_cases h11 : x = Int32.ofNat 11
  · rw [if_pos h11]; exact lw_likely hi hg hc h
  rw [if_neg h11]
  by_cases h12 : x = Int32.ofNat 12
  · rw [if_pos h12]; exact lw_state hi hg hc h
  rw [if_neg h12]
  by_cases h13 : x = Int32.ofNat 13
  · rw [if_pos h13]; exact lw_likeliest hi hg hc h
  rw [if_neg h13]
  by_cases h14 : x = Int32.ofNat 14
  · rw [if_pos h14]; exact lw_mean hi hg hc h
  rw [if_neg h14]
  by_cases h15 : x = Int32.ofNat 15
  · rw [if_pos h15]; exact lw_often hi hg hc h
  rw [if_neg h15]
  by_cases h16 : x = Int32.ofNat 16
  · rw [if_pos h16]; exact lw_since hi hg hc h
  rw [if_neg h16]
  by_cases h17 : x = Int32.ofNat 17
  · rw [if_pos h17]; exact lw_drunk hi hg hc h
  rw [if_neg h17]
  by_cases h18 : x = Int32.ofNat 18
  · rw [if_pos h18]; exact lw_done hi hg hc h
  rw [if_neg h18]
  by_cases h19 : x = Int32.ofNat 19
  · rw [if_pos h19]; exact lw_cost hi hg hc h
  rw [if_neg h19]
  by_cases h20 : x = Int32.ofNat 20
  · rw [if_pos h20]; exact lw_fits hi hg hc h
  rw [if_neg h20]
  by_cases h21 : x = Int32.ofNat 21
  · rw [if_pos h21]; exact lw_given hi hg hc h
  rw [if_neg h21]
  by_cases h22 : x = Int32.ofNat 22
  · rw [if_pos h22]; exact lw_best hi hg hc h
  rw [if_neg h22]
  by_cases h23 : x = Int32.ofNat 23
  · rw [if_pos h23]; exact lw_worth hi hg hc h
  rw [if_neg h23]
  by_cases h24 : x = Int32.ofNat 24
  · rw [if_pos h24]; exact lw_gain hi hg hc h
  rw [if_neg h24]
  by_cases h25 : x = Int32.ofNat 25
  · rw [if_pos h25]; exact lw_without hi hg hc h
  rw [if_neg h25]
  by_cases h26 : x = Int32.ofNat 26
  · rw [if_pos h26]; exact lw_keeper hi hg hc h
  rw [if_neg h26]
  by_cases h27 : x = Int32.ofNat 27
  · rw [if_pos h27]; exact lw_spoiler hi hg hc h
  rw [if_neg h27]
  by_cases h28 : x = Int32.ofNat 28
  · rw [if_pos h28]; exact lw_falling hi hg hc h
  rw [if_neg h28]
  by_cases h29 : x = Int32.ofNat 29
  · rw [if_pos h29]; exact lw_seeing hi hg hc h
  rw [if_neg h29]
  by_cases h30 : x = Int32.ofNat 30
  · rw [if_pos h30]; exact lw_filled hi hg hc h
  rw [if_neg h30]
  by_cases h31 : x = Int32.ofNat 31
  · rw [if_pos h31]; exact lw_fill hi hg hc h
  rw [if_neg h31]
  by_cases h32 : x = Int32.ofNat 32
  · rw [if_pos h32]; exact lw_ruled hi hg hc h
  rw [if_neg h32]
  by_cases h33 : x = Int32.ofNat 33
  · rw [if_pos h33]; exact lw_swapped hi hg hc h
  rw [if_neg h33]
  by_cases h34 : x = Int32.ofNat 34
  · rw [if_pos h34]; exact lw_swap hi hg hc h
  rw [if_neg h34]
  by_cases h35 : x = Int32.ofNat 35
  · rw [if_pos h35]; exact lw_day hi hg hc h
  rw [if_neg h35]
  by_cases h36 : x = Int32.ofNat 36
  · rw [if_pos h36]; exact lw_span hi hg hc h
  rw [if_neg h36]
  by_cases h37 : x = Int32.ofNat 37
  · rw [if_pos h37]; exact lw_come hi hg hc h
  rw [if_neg h37]
  by_cases h38 : x = Int32.ofNat 38
  · rw [if_pos h38]; exact lw_skip hi hg hc h
  rw [if_neg h38]
  by_cases h39 : x = Int32.ofNat 39
  · rw [if_pos h39]; exact lw_shift hi hg hc h
  rw [if_neg h39]
  by_cases h40 : x = Int32.ofNat 40
  · rw [if_pos h40]; exact lw_teach hi hg hc h
  rw [if_neg h40]
  by_cases h41 : x = Int32.ofNat 41
  · rw [if_pos h41]; exact lw_undo hi hg hc h
  rw [if_neg h41]
  by_cases h42 : x = Int32.ofNat 42
  · rw [if_pos h42]; exact lw_image hi hg hc h
  rw [if_neg h42]
  by_cases h43 : x = Int32.ofNat 43
  · rw [if_pos h43]; exact lw_restore hi hg hc h
  rw [if_neg h43]
  by_cases h44 : x = Int32.ofNat 44
  · rw [if_pos h44]; exact lw_status hi hg hc h
  rw [if_neg h44]
  by_cases h45 : x = Int32.ofNat 45
  · rw [if_pos h45]; exact lw_count hi hg hc h
  rw [if_neg h45]
  exact ⟨u, rfl, h.c1, Or.inl rfl⟩
theorem lw_round (hi : i + 6 ≤ g.1) (hg : g.1 < 10000) (hc : c < 1000) (h : Inv c u u) : ∃ t', ev g (d + 36) mL_law 23 [some (.float 0), some (.ref (0 : Nat)), some (.ref (432 : Nat)), some (.ref (460 : Nat)), some (.int (Int32.ofNat i)), none, none, none] [] u = ev g (d + 36) mL_law 23 [some (.float 0), some (.ref (0 : Nat)), some (.ref (432 : Nat)), some (.ref (460 : Nat)), some (.int (Int32.ofNat (i + 6))), none, none, none] [] t' ∧ Inv (c + 1) t' t' ∧ CNT u t' := by
  have j0 : jm_in (Int32.ofNat i) g.1 = true := n32_in' (by omega) (by omega)
  obtain ⟨t', e1, e2, e3⟩ := lw_pick (d := d) hi hg hc h (g.2 (Int32.ofNat i).toNatClampNeg &&& Int32.ofNat 63)
  refine ⟨t', ?_, e2, e3⟩
  rw [sL_law_23]
  simp only [sL_law_25, sL_law_26, sL_law_27, sL_law_29, sL_law_30, lw_past hg (show i < 20000 by omega), if_neg (show ¬ g.1 < i + 6 by omega), sL_law_33, sL_law_34]
  rw [sL_law_36 (hk := j0), sL_law_37, sL_law_39, e1, sL_law_2703, sL_law_2706, n32_add]
theorem lw_last (hi : g.1 < i + 6) (hi2 : i < 20000) (hg : g.1 < 10000) : ev g (d + 36) mL_law 23 [some (.float 0), some (.ref (0 : Nat)), some (.ref (432 : Nat)), some (.ref (460 : Nat)), some (.int (Int32.ofNat i)), none, none, none] [] u = some (.inl (some (.int (Int32.ofNat 1))), u) := by
  rw [sL_law_23]
  simp only [sL_law_25, sL_law_26, sL_law_27, sL_law_29, sL_law_30, lw_past hg hi2, if_pos hi]
  rw [kL_law_2709_FAAAINNN, sL_law_2709]
  exact sL_law_2710 g (d + 36) (Int32.ofNat 1) u (Or.inr rfl)
/-- the loop: k rounds are left at the most -/
theorem lw_loop : ∀ (k c i : Nat) (u : fm_S), g.1 < i + 6 * k + 6 → i < 10006 → g.1 < 10000 → c + k < 1000 → Inv c u u → ∃ t', ev g (d + 36) mL_law 23 [some (.float 0), some (.ref (0 : Nat)), some (.ref (432 : Nat)), some (.ref (460 : Nat)), some (.int (Int32.ofNat i)), none, none, none] [] u = some (.inl (some (.int (Int32.ofNat 1))), t') ∧ t'.2.2.2.1 ≤ u.2.2.2.1 + k ∧ t'.2.2.2.2 ≤ u.2.2.2.2 + 6 * k
  | 0, c, i, u, h1, h2, hg, h3, h => ⟨u, lw_last (by omega) (by omega) hg, by omega, by omega⟩
  | k + 1, c, i, u, h1, h2, hg, h3, h => by
    by_cases hi : g.1 < i + 6
    · exact ⟨u, lw_last hi (by omega) hg, by omega, by omega⟩
    · obtain ⟨t1, e1, e2, e3⟩ := lw_round (d := d) (show i + 6 ≤ g.1 by omega) hg (show c < 1000 by omega) h
      obtain ⟨t', f1, f2, f3⟩ := lw_loop k (c + 1) (i + 6) t1 (by omega) (by omega) hg (by omega) e2
      refine ⟨t', e1.trans f1, ?_, ?_⟩
      · rcases e3 with e | e <;> rw [e] at f2 <;> (try dsimp only at f2) <;> omega
      · rcases e3 with e | e <;> rw [e] at f3 <;> (try dsimp only at f3) <;> omega
end CX0
