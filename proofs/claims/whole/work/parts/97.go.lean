/-! all VISITS: what a reckoning comes to -/
def zVis (w : WD) (o : OPT) (v : Nat) (Z : ZZ) : ZZ := if wW w v = o.2.2.2.1 then Z else zAct w o v (wW w v) (pas (cFall o.1) Z.1, Z.2)
def zGo (w : WD) (o : OPT) : Nat → ZZ
  | 0 => zBeg w
  | v + 1 => zVis w o v (zGo w o v)
def endS (w : WD) (o : OPT) : Nat := truS (zGo w o (wn w)).1
def costZ (w : WD) (Z : ZZ) : Nat := wP w 0 * sumN Z.2.1 6 + wP w 1 * Z.2.2.1 + wP w 2 * Z.2.2.2
def costS (w : WD) (o : OPT) : Nat := costZ w (zGo w o (wn w))
/-- as a VISIT begins, GIVEN the BOOK; behind the VISITS ahead of it -/
def gFit (w : WD) (o : OPT) (v : Nat) (Z : ZZ) : ZZ := (filD w v (pas (cFall o.1) Z.1), Z.2)
def zGb (w : WD) (o : OPT) : Nat → ZZ
  | 0 => zBeg w
  | v + 1 => zAct w o v (wW w v) (gFit w o v (zGb w o v))
theorem fall_ok {q u : Nat} {D : Nat → Nat} (hq : q ≤ 16) (hS : SUP u D) (hU : UNS D) : SUP u (pas (cFall q) D) ∧ UNS (pas (cFall q) D) ∧ sumN (pas (cFall q) D) NS = sumN D NS := by
  have key : ∀ k, k < NS → D k ≠ 0 → ∀ a ∈ cFall q k (D k), a.2 ≠ 0 → (a.1 < NS ∧ kst a.1 ≤ u) ∧ kseen a.1 = 0 := fun k hk hk0 a ha _ => by
    obtain ⟨h1, h2, h3⟩ := k_lt hk
    have h5 := k_cd k
    have hs := (hS k hk0).2
    have hu := hU k hk0
    simp only [cFall, List.mem_cons, List.mem_nil_iff, or_false] at ha
    rcases ha with rfl | rfl
    · exact ⟨⟨hk, hs⟩, hu⟩
    · obtain ⟨-, -, -, e4, e5⟩ := k_nm (st := kst k) h5 (show 1 - kcard k < 2 by omega) h2
      exact ⟨⟨nm_lt h5 (by omega) h2 h3, by rw [e5]; exact hs⟩, by rw [e4]; exact hu⟩
  refine ⟨pas_supp (Q := fun k => k < NS ∧ kst k ≤ u) (fun k hk h0 a ha ha0 => (key k hk h0 a ha ha0).1) (fun k _ => cFall_0), pas_supp (Q := fun k => kseen k = 0) (fun k hk h0 a ha ha0 => (key k hk h0 a ha ha0).2) (fun k _ => cFall_0), pas_sum (P := fun _ => True) (cFall_ok hq) (fun _ _ _ => trivial) (fun k _ => cFall_0)⟩
theorem fil_ok {w : WD} {v u : Nat} {D : Nat → Nat} (hS : SUP u D) (hU : UNS D) : SUP u (filD w v D) ∧ UNS (filD w v D) ∧ sumN (filD w v D) NS ≤ sumN D NS := by
  have key : ∀ k, filD w v D k ≠ 0 → D k ≠ 0 := fun k h h0 => h (by unfold filD; rw [h0]; split <;> rfl)
  exact ⟨fun k h => hS k (key k h), fun k h => hU k (key k h), sumN_le (fun k _ => by unfold filD; split <;> omega)⟩
theorem act_ok {w : WD} {o : OPT} {v p : Nat} {Z : ZZ} (hw : wOK w) (ho : oOK o) (hv : v < 24) (hp : p < 6) (hS : SUP (v + 1) Z.1) (hU : UNS Z.1) : SUP (v + 1) (zAct w o v p Z).1 ∧ UNS (zAct w o v p Z).1 ∧ sumN (zAct w o v p Z).1 NS = sumN Z.1 NS := by
  obtain ⟨z1, -, z3⟩ := zSts_ok (p := p) (see := o.2.1) hw (ho.2.2.2.2 p hp) ho.2.1 hv hS hU _ (Nat.le_refl _)
  obtain ⟨y1, y2, y3⟩ := zEnd_sup (fill := o.2.2.1) hv z1
  exact ⟨y1, y2, by rw [← z3]; exact y3⟩
theorem go_ok {w : WD} {o : OPT} (hw : wOK w) (ho : oOK o) : ∀ v, v ≤ wn w → SUP v (zGo w o v).1 ∧ UNS (zGo w o v).1 ∧ sumN (zGo w o v).1 NS = ONE
  | 0, _ => zBeg_ok hw
  | v + 1, hv => by
    obtain ⟨h1, h2, h3⟩ := go_ok hw ho v (by omega)
    have hn : wn w ≤ 24 := hw.2.2.1
    have hw' := (hw.2.2.2.1 v (by omega)).1
    rw [zGo, zVis]
    split
    · exact ⟨h1.up (by omega), h2, h3⟩
    · obtain ⟨f1, f2, f3⟩ := fall_ok ho.1 h1 h2
      obtain ⟨a1, a2, a3⟩ := act_ok (v := v) (p := wW w v) (Z := (pas (cFall o.1) (zGo w o v).1, (zGo w o v).2)) hw ho (by omega) hw' (f1.up (by omega)) f2
      refine And.intro a1 (And.intro a2 ?_)
      rw [a3]
      dsimp only
      rw [f3, h3]
theorem gb_ok {w : WD} {o : OPT} (hw : wOK w) (ho : oOK o) : ∀ v, v ≤ wn w → SUP v (zGb w o v).1 ∧ UNS (zGb w o v).1 ∧ sumN (zGb w o v).1 NS ≤ ONE
  | 0, _ => ⟨(zBeg_ok hw).1, (zBeg_ok hw).2.1, Nat.le_of_eq (zBeg_ok hw).2.2⟩
  | v + 1, hv => by
    obtain ⟨h1, h2, h3⟩ := gb_ok hw ho v (by omega)
    have hn : wn w ≤ 24 := hw.2.2.1
    have hw' := (hw.2.2.2.1 v (by omega)).1
    obtain ⟨f1, f2, f3⟩ := fall_ok ho.1 h1 h2
    obtain ⟨g1, g2, g3⟩ := fil_ok (w := w) (v := v) f1 f2
    obtain ⟨a1, a2, a3⟩ := act_ok (v := v) (p := wW w v) (Z := gFit w o v (zGb w o v)) hw ho (by omega) hw' (g1.up (by omega)) g2
    rw [zGb]
    refine And.intro a1 (And.intro a2 ?_)
    rw [a3]
    rw [f3] at g3
    exact Nat.le_trans g3 h3
theorem gf_ok {w : WD} {o : OPT} {v : Nat} (hw : wOK w) (ho : oOK o) (hv : v < wn w) : SUP v (gFit w o v (zGb w o v)).1 ∧ UNS (gFit w o v (zGb w o v)).1 ∧ sumN (gFit w o v (zGb w o v)).1 NS ≤ ONE := by
  obtain ⟨h1, h2, h3⟩ := gb_ok hw ho v (by omega)
  obtain ⟨f1, f2, f3⟩ := fall_ok ho.1 h1 h2
  obtain ⟨g1, g2, g3⟩ := fil_ok (w := w) (v := v) f1 f2
  rw [f3] at g3
  exact And.intro g1 (And.intro g2 (Nat.le_trans g3 h3))
/-- the rows by VISITS as they are -/
def FR (s : fm_S) (w : WD) (v : Nat) : Prop := (∀ x, x < 6 → gJ s (326 + v) x = Int64.ofNat (fctS w v x (zGo w (opt w 0 0) (v + 1)).1)) ∧ (∀ x, x < 182 → gJ s (351 + v) x = Int64.ofNat (behS (zGo w (opt w 0 0) (v + 1)).1 x)) ∧ gI s 375 v = Int32.ofNat (cntS (zGo w (opt w 0 0) (v + 1)).1)
def pG (b j : Nat) : Prop := pN b j ∨ b = 375
def qG (b j : Nat) : Prop := qO b j ∨ (326 ≤ b ∧ b < 350) ∨ (351 ≤ b ∧ b < 375)
theorem RM.G {s s' : fm_S} (x : RM pO qO rsw s s') : RM pG qG rsw s s' := x.mono (fun _ _ h => Or.inl (Or.inl h)) (fun _ _ h => Or.inl h) (fun _ _ h => h)
theorem RM.G' {s s' : fm_S} (x : RM pN qO rsw s s') : RM pG qG rsw s s' := x.mono (fun _ _ h => Or.inl h) (fun _ _ h => Or.inl h) (fun _ _ h => h)
theorem pG_TC {b j : Nat} (h : pG b j) : TC b j := by
  rcases h with h | h
  · exact pN_TC h
  · unfold TC; omega
theorem rows_a : ∀ v, v < 24 → (325, v, 326 + v) ∈ fxL ∧ (350, v, 351 + v) ∈ fxL := by decide +kernel
theorem rows_b : ∀ v, v < 24 → (377, v, 378 + v) ∈ fxL ∧ (402, v, 403 + v) ∈ fxL := by decide +kernel
theorem rows_c : ∀ v, v < 24 → (shp (326 + v)).1 = 62 ∧ (shp (326 + v)).2 = 6 ∧ (shp (351 + v)).1 = 62 ∧ (shp (351 + v)).2 = 182 := by decide +kernel
theorem rows_d : ∀ v, v < 24 → (shp (378 + v)).1 = 62 ∧ (shp (378 + v)).2 = 6 ∧ (shp (403 + v)).1 = 62 ∧ (shp (403 + v)).2 = 4 := by decide +kernel
theorem CT3.keep {s s' : fm_S} {r : Nat} {dr : Nat → Nat} {wa lo : Nat} (h : CT3 s dr wa lo) (hM : FM pH (QR r) s s') (hr : r ≠ 314 ∧ r ≠ 307) : CT3 s' dr wa lo := h.cn (CN.fm hM (fun j => by unfold QR; omega) (fun j => by unfold QR; omega))
theorem PL.G {s s' : fm_S} {o : OPT} (h : PL s o) (x : RM pG qG rsw s s') : PL s' o := by
  obtain ⟨h1, h2, h3, h4, h5⟩ := h
  refine ⟨?_, ?_, ?_, ?_, fun p hp => ?_⟩
  · rw [x.2.1 _ _ (by unfold pG pN pO pE HSK; omega), h1]
  · rw [x.2.1 _ _ (by unfold pG pN pO pE HSK; omega), h2]
  · rw [x.2.1 _ _ (by unfold pG pN pO pE HSK; omega), h3]
  · rw [x.2.1 _ _ (by unfold pG pN pO pE HSK; omega), h4]
  · rw [x.2.2.2 _ _ (by unfold rsw; omega), h5 p hp]
theorem TB.G {s s' : fm_S} (h : TB s) (x : RM pG qG rsw s s') : TB s' := h.of (fun j => ⟨x.2.1 _ _ (by unfold pG pN pO pE HSK; omega), x.2.1 _ _ (by unfold pG pN pO pE HSK; omega)⟩)
theorem c6_goLoop {g : fm_g} {d ch de slot : Nat} {w : WD} {s0 : fm_S} (hF : FX s0) (hB : TB s0) (hCW : CW s0 w) (hw : wOK w) (hc : cOK ch de) (hP : PL s0 (opt w ch de)) : ∀ (m v : Nat) (s : fm_S), v + m = wn w → RM pG qG rsw s0 s → ZS s (zGo w (opt w ch de) v) → (ch = 0 → ∀ u, u < v → FR s w u) → (ch ≠ 0 → RM pN qO rsw s0 s) → ∃ s', ev g (d + 5) mX6_reckon 66 [some (.ref (306 : Nat)), none, some (.int (Int32.ofNat ch)), none, some (.int (Int32.ofNat slot)), some (.ref (4 : Nat)), some (.int (Int32.ofNat v))] [] s = ev g (d + 5) mX6_reckon 173 [some (.ref (306 : Nat)), none, some (.int (Int32.ofNat ch)), none, some (.int (Int32.ofNat slot)), some (.ref (4 : Nat)), none] [] s' ∧ RM pG qG rsw s0 s' ∧ ZS s' (zGo w (opt w ch de) (wn w)) ∧ (ch = 0 → ∀ u, u < wn w → FR s' w u) ∧ (ch ≠ 0 → RM pN qO rsw s0 s') := by
  have ho := opt_ok hw hc
  have hn := hw.2.2.1
  have hch : ch < 7 := by unfold cOK at hc; omega
  intro m
  induction m with
  | zero =>
    intro v s hv hM hZ hR hX
    have hvn : v = wn w := by omega
    subst hvn
    have hCs := hCW.of hw (fun b j hb => hM.2.1 b j (fun q => hb (pG_TC q)))
    have hFs := hM.fxs hF
    obtain ⟨n, hD⟩ := hCs.2.2.1
    have e1 := d_total (g := g) (d := d + 4) hFs (by decide) hD
    have r0 := hFs.u 4 0 5 (by decide +kernel)
    refine ⟨s, ?_, hM, hZ, hR, hX⟩
    rw [sX6_reckon_66]
    by_cases c24 : 24 ≤ wn w
    · simp (disch := first | exact jm_lt0 | (apply jm_ltx; (repeat (first | exact jw_0 | apply jw_i | apply jw_r | apply jw_l)); omega) | omega | assumption | exact sa_306 | exact sa_4 | exact sa_5 | exact n32_inA sb_306 (by omega) (by omega) | exact n32_inA sb_4 (by omega) (by omega) | exact n32_inA sb_5 (by omega) (by omega) | (refine n32_inA (by assumption) ?_ ?_ <;> omega) | exact bi01 | (rw [sa_306]; omega) | (rw [sa_4]; omega) | (rw [sa_5]; omega) | decide) only [sX6_reckon_0, sX6_reckon_1, sX6_reckon_3, sX6_reckon_4, sX6_reckon_5, sX6_reckon_6, sX6_reckon_8, sX6_reckon_10, sX6_reckon_13, sX6_reckon_15, sX6_reckon_18, sX6_reckon_21, sX6_reckon_22, sX6_reckon_25, sX6_reckon_27, sX6_reckon_28, sX6_reckon_29, sX6_reckon_32, kX6_reckon_35_AAIIINN, sX6_reckon_35, sX6_reckon_37, sX6_reckon_38, sX6_reckon_39, sX6_reckon_42, sX6_reckon_44, sX6_reckon_45, sX6_reckon_48, sX6_reckon_49, sX6_reckon_50, sX6_reckon_51, sX6_reckon_54, sX6_reckon_55, sX6_reckon_58, sX6_reckon_60, sX6_reckon_63, sX6_reckon_64, kX6_reckon_66_AAIIIAI, sX6_reckon_68, sX6_reckon_70, sX6_reckon_73, sX6_reckon_75, sX6_reckon_77, sX6_reckon_80, sX6_reckon_83, sX6_reckon_86, sX6_reckon_87, sX6_reckon_90, sX6_reckon_92, sX6_reckon_94, sX6_reckon_97, sX6_reckon_100, sX6_reckon_101, sX6_reckon_104, sX6_reckon_106, sX6_reckon_108, sX6_reckon_111, sX6_reckon_112, sX6_reckon_115, sX6_reckon_117, sX6_reckon_120, sX6_reckon_122, sX6_reckon_125, sX6_reckon_128, sX6_reckon_129, sX6_reckon_132, sX6_reckon_133, sX6_reckon_136, sX6_reckon_137, sX6_reckon_140, sX6_reckon_142, sX6_reckon_143, sX6_reckon_146, sX6_reckon_147, sX6_reckon_150, sX6_reckon_152, sX6_reckon_153, sX6_reckon_156, sX6_reckon_157, sX6_reckon_160, sX6_reckon_162, sX6_reckon_163, sX6_reckon_166, sX6_reckon_167, sX6_reckon_170, kX6_reckon_173_ANINIAI, sX6_reckon_174, sX6_reckon_177, sX6_reckon_178, kX6_reckon_181_ANINIAN, sX6_reckon_181, sX6_reckon_182, sX6_reckon_185, sX6_reckon_187, sX6_reckon_188, sX6_reckon_191, sX6_reckon_194, sX6_reckon_195, sX6_reckon_196, sX6_reckon_199, sX6_reckon_201, sX6_reckon_202, sX6_reckon_205, sX6_reckon_207, sX6_reckon_210, sX6_reckon_211, sX6_reckon_212, sX6_reckon_215, sX6_reckon_217, sX6_reckon_218, sX6_reckon_221, sX6_reckon_222, sX6_reckon_224, evK_n, evK_v, evK_x, gI_pI, gJ_pI, gR_pI, gI_pJ, gJ_pJ, gR_pJ, gI_pR, gJ_pR, gR_pR, n32_le, n32_lt, n32_add, n32_mul, n32_cl, if_true, if_false, not_true_eq_false, not_false_eq_true, and_true, true_and, and_false, false_and, and_self, or_true, true_or, or_false, false_or, or_self, ne_eq, Decidable.not_not, Nat.reduceEqDiff, Nat.reduceEqDiff, sa_306, sb_306, sa_4, sb_4, sa_5, sb_5, c24]
    · simp (disch := first | exact jm_lt0 | (apply jm_ltx; (repeat (first | exact jw_0 | apply jw_i | apply jw_r | apply jw_l)); omega) | omega | assumption | exact sa_306 | exact sa_4 | exact sa_5 | exact n32_inA sb_306 (by omega) (by omega) | exact n32_inA sb_4 (by omega) (by omega) | exact n32_inA sb_5 (by omega) (by omega) | (refine n32_inA (by assumption) ?_ ?_ <;> omega) | exact bi01 | (rw [sa_306]; omega) | (rw [sa_4]; omega) | (rw [sa_5]; omega) | decide) only [sX6_reckon_0, sX6_reckon_1, sX6_reckon_3, sX6_reckon_4, sX6_reckon_5, sX6_reckon_6, sX6_reckon_8, sX6_reckon_10, sX6_reckon_13, sX6_reckon_15, sX6_reckon_18, sX6_reckon_21, sX6_reckon_22, sX6_reckon_25, sX6_reckon_27, sX6_reckon_28, sX6_reckon_29, sX6_reckon_32, kX6_reckon_35_AAIIINN, sX6_reckon_35, sX6_reckon_37, sX6_reckon_38, sX6_reckon_39, sX6_reckon_42, sX6_reckon_44, sX6_reckon_45, sX6_reckon_48, sX6_reckon_49, sX6_reckon_50, sX6_reckon_51, sX6_reckon_54, sX6_reckon_55, sX6_reckon_58, sX6_reckon_60, sX6_reckon_63, sX6_reckon_64, kX6_reckon_66_AAIIIAI, sX6_reckon_68, sX6_reckon_70, sX6_reckon_73, sX6_reckon_75, sX6_reckon_77, sX6_reckon_80, sX6_reckon_83, sX6_reckon_86, sX6_reckon_87, sX6_reckon_90, sX6_reckon_92, sX6_reckon_94, sX6_reckon_97, sX6_reckon_100, sX6_reckon_101, sX6_reckon_104, sX6_reckon_106, sX6_reckon_108, sX6_reckon_111, sX6_reckon_112, sX6_reckon_115, sX6_reckon_117, sX6_reckon_120, sX6_reckon_122, sX6_reckon_125, sX6_reckon_128, sX6_reckon_129, sX6_reckon_132, sX6_reckon_133, sX6_reckon_136, sX6_reckon_137, sX6_reckon_140, sX6_reckon_142, sX6_reckon_143, sX6_reckon_146, sX6_reckon_147, sX6_reckon_150, sX6_reckon_152, sX6_reckon_153, sX6_reckon_156, sX6_reckon_157, sX6_reckon_160, sX6_reckon_162, sX6_reckon_163, sX6_reckon_166, sX6_reckon_167, sX6_reckon_170, kX6_reckon_173_ANINIAI, sX6_reckon_174, sX6_reckon_177, sX6_reckon_178, kX6_reckon_181_ANINIAN, sX6_reckon_181, sX6_reckon_182, sX6_reckon_185, sX6_reckon_187, sX6_reckon_188, sX6_reckon_191, sX6_reckon_194, sX6_reckon_195, sX6_reckon_196, sX6_reckon_199, sX6_reckon_201, sX6_reckon_202, sX6_reckon_205, sX6_reckon_207, sX6_reckon_210, sX6_reckon_211, sX6_reckon_212, sX6_reckon_215, sX6_reckon_217, sX6_reckon_218, sX6_reckon_221, sX6_reckon_222, sX6_reckon_224, evK_n, evK_v, evK_x, gI_pI, gJ_pI, gR_pI, gI_pJ, gJ_pJ, gR_pJ, gI_pR, gJ_pR, gR_pR, n32_le, n32_lt, n32_add, n32_mul, n32_cl, if_true, if_false, not_true_eq_false, not_false_eq_true, and_true, true_and, and_false, false_and, and_self, or_true, true_or, or_false, false_or, or_self, ne_eq, Decidable.not_not, Nat.reduceEqDiff, Nat.reduceEqDiff, sa_306, sb_306, sa_4, sb_4, sa_5, sb_5, c24, r0, e1]
      rw [if_pos (by omega)]
  | succ m ih =>
    intro v s hv hM hZ hR hX
    have hCs := hCW.of hw (fun b j hb => hM.2.1 b j (fun q => hb (pG_TC q)))
    have hFs := hM.fxs hF
    have hBs := hB.G hM
    have hPs := hP.G hM
    obtain ⟨n, hD⟩ := hCs.2.2.1
    have e1 := d_total (g := g) (d := d + 4) hFs (by decide) hD
    have r0 := hFs.u 4 0 5 (by decide +kernel)
    have r6 := hFs.u 306 0 307 (by decide +kernel)
    have hvn : v < wn w := by omega
    have e2 := c7_isLeftOut (g := g) (d := d + 2) hFs hCs hPs ho hvn
    have hWv := (hw.2.2.2.1 v hvn).1
    obtain ⟨i1, i2, i3⟩ := go_ok hw ho v (by omega)
    have g1 : ¬ 24 ≤ v := by omega
    have g2 : ¬ wn w ≤ v := by omega
    by_cases cl : wW w v = (opt w ch de).2.2.2.1
    · -- left out
      have hc0 : ¬ ch = 0 := by
        intro h0
        have : (opt w ch de).2.2.2.1 = 99 := by unfold opt; dsimp only; rw [if_neg (by omega)]
        omega
      have hc0' : ¬ Int32.ofNat ch = 0 := by rw [n32_eq0 (by omega)]; exact hc0
      have hz : zGo w (opt w ch de) (v + 1) = zGo w (opt w ch de) v := by rw [zGo, zVis, if_pos cl]
      obtain ⟨s', f1, f2, f3, f4⟩ := ih (v + 1) s (by omega) hM (by rw [hz]; exact hZ) (fun h => absurd h hc0) hX
      refine ⟨s', ?_, f2, f3, f4⟩
      rw [bi_t cl] at e2
      rw [sX6_reckon_66]
      simp (disch := first | exact jm_lt0 | (apply jm_ltx; (repeat (first | exact jw_0 | apply jw_i | apply jw_r | apply jw_l)); omega) | omega | assumption | exact sa_306 | exact sa_307 | exact sa_4 | exact sa_5 | exact n32_inA sb_306 (by omega) (by omega) | exact n32_inA sb_307 (by omega) (by omega) | exact n32_inA sb_4 (by omega) (by omega) | exact n32_inA sb_5 (by omega) (by omega) | (refine n32_inA (by assumption) ?_ ?_ <;> omega) | exact bi01 | (rw [sa_306]; omega) | (rw [sa_307]; omega) | (rw [sa_4]; omega) | (rw [sa_5]; omega) | decide) only [sX6_reckon_0, sX6_reckon_1, sX6_reckon_3, sX6_reckon_4, sX6_reckon_5, sX6_reckon_6, sX6_reckon_8, sX6_reckon_10, sX6_reckon_13, sX6_reckon_15, sX6_reckon_18, sX6_reckon_21, sX6_reckon_22, sX6_reckon_25, sX6_reckon_27, sX6_reckon_28, sX6_reckon_29, sX6_reckon_32, kX6_reckon_35_AAIIINN, sX6_reckon_35, sX6_reckon_37, sX6_reckon_38, sX6_reckon_39, sX6_reckon_42, sX6_reckon_44, sX6_reckon_45, sX6_reckon_48, sX6_reckon_49, sX6_reckon_50, sX6_reckon_51, sX6_reckon_54, sX6_reckon_55, sX6_reckon_58, sX6_reckon_60, sX6_reckon_63, sX6_reckon_64, kX6_reckon_66_AAIIIAI, sX6_reckon_68, sX6_reckon_70, sX6_reckon_73, sX6_reckon_75, sX6_reckon_77, sX6_reckon_80, sX6_reckon_83, sX6_reckon_86, sX6_reckon_87, sX6_reckon_90, sX6_reckon_92, sX6_reckon_94, sX6_reckon_97, sX6_reckon_100, sX6_reckon_101, sX6_reckon_104, sX6_reckon_106, sX6_reckon_108, sX6_reckon_111, sX6_reckon_112, sX6_reckon_115, sX6_reckon_117, sX6_reckon_120, sX6_reckon_122, sX6_reckon_125, sX6_reckon_128, sX6_reckon_129, sX6_reckon_132, sX6_reckon_133, sX6_reckon_136, sX6_reckon_137, sX6_reckon_140, sX6_reckon_142, sX6_reckon_143, sX6_reckon_146, sX6_reckon_147, sX6_reckon_150, sX6_reckon_152, sX6_reckon_153, sX6_reckon_156, sX6_reckon_157, sX6_reckon_160, sX6_reckon_162, sX6_reckon_163, sX6_reckon_166, sX6_reckon_167, sX6_reckon_170, kX6_reckon_173_ANINIAI, sX6_reckon_174, sX6_reckon_177, sX6_reckon_178, kX6_reckon_181_ANINIAN, sX6_reckon_181, sX6_reckon_182, sX6_reckon_185, sX6_reckon_187, sX6_reckon_188, sX6_reckon_191, sX6_reckon_194, sX6_reckon_195, sX6_reckon_196, sX6_reckon_199, sX6_reckon_201, sX6_reckon_202, sX6_reckon_205, sX6_reckon_207, sX6_reckon_210, sX6_reckon_211, sX6_reckon_212, sX6_reckon_215, sX6_reckon_217, sX6_reckon_218, sX6_reckon_221, sX6_reckon_222, sX6_reckon_224, evK_n, evK_v, evK_x, gI_pI, gJ_pI, gR_pI, gI_pJ, gJ_pJ, gR_pJ, gI_pR, gJ_pR, gR_pR, n32_le, n32_lt, n32_add, n32_mul, n32_cl, if_true, if_false, not_true_eq_false, not_false_eq_true, and_true, true_and, and_false, false_and, and_self, or_true, true_or, or_false, false_or, or_self, ne_eq, Decidable.not_not, Nat.reduceEqDiff, Nat.reduceEqDiff, sa_306, sb_306, sa_307, sb_307, sa_4, sb_4, sa_5, sb_5, g1, g2, r0, r6, e1, e2, show ¬ (Int32.ofNat 1 = 0) by decide, hc0']
      exact f1
    · rw [bi_f cl] at e2
      obtain ⟨s1, e3, hM1, hO1, hN1, hE1⟩ := c7_enter (g := g) (d := d) hFs hBs hZ.1 (by rw [i3]; exact Nat.le_refl _) hCs hw hvn ho.1 hPs.1
      have hF1 := hM1.fxs hFs
      have hB1 := hBs.N hM1
      have hC1 := hCs.N hw hM1
      have hP1 := hPs.rm hM1
      obtain ⟨n1, hD1⟩ := hC1.2.2.1
      have r01 := hF1.u 4 0 5 (by decide +kernel)
      have r61 := hF1.u 306 0 307 (by decide +kernel)
      have e4 := d_personOf (g := g) (d := d + 3) hF1 (by decide) hD1 hvn
      obtain ⟨f1, f2, f3⟩ := fall_ok ho.1 i1 i2
      have hZ1 : ZS s1 (pas (cFall (opt w ch de).1) (zGo w (opt w ch de) v).1, (zGo w (opt w ch de) v).2) := ⟨hO1, hZ.2.cn hN1⟩
      obtain ⟨s2, e5, hM2, hZ2⟩ := c7_act (g := g) (d := d) (Z := (pas (cFall (opt w ch de).1) (zGo w (opt w ch de) v).1, (zGo w (opt w ch de) v).2)) hF1 hB1 hE1 hC1 hw (by omega) hWv hP1 ho (f1.up (by omega)) f2 (by rw [f3, i3]; exact Nat.le_refl _) hZ1
      have hz : zGo w (opt w ch de) (v + 1) = zAct w (opt w ch de) v (wW w v) (pas (cFall (opt w ch de).1) (zGo w (opt w ch de) v).1, (zGo w (opt w ch de) v).2) := by rw [zGo, zVis, if_neg cl]
      rw [← hz] at hZ2
      have hM02 : RM pG qG rsw s0 s2 := (hM.tr hM1.G').tr hM2.G
      by_cases c0 : ch = 0
      · have hde : de = 0 := by unfold cOK at hc; omega
        subst c0 hde
        obtain ⟨j1, j2, j3⟩ := go_ok hw ho (v + 1) (by omega)
        obtain ⟨q1, q2⟩ := rows_a v (by omega)
        obtain ⟨q5, q6, q7, q8⟩ := rows_c v (by omega)
        have hF2 := hM2.fxs hF1
        have hB2 := hB1.ofO hM2.2.1
        have r62 := hF2.u 306 0 307 (by decide +kernel)
        have r65 := hF2.u 306 5 325 (by decide +kernel)
        have r5v : gR s2 325 v = 326 + v := hF2 _ q1
        have r5n : gR s2 325 (Int32.ofNat v).toNatClampNeg ≠ 0 := by rw [n32_cl (by omega), r5v]; omega
        obtain ⟨s3, e6, hM3, hx3⟩ := c7_sumFacts (g := g) (d := d + 1) (r := 326 + v) hF2 hB2 hZ2.1 (by rw [j3]; exact Nat.le_refl _) (hE1.of hM2.2.1) q5 q6 (by omega) hw (by omega) (fun k _ h0 => (j1 k h0).2)
        have hF3 := hM3.fx hF2
        have hO3 := hZ2.1.keep hM3 (by omega)
        have hT3 := hZ2.2.keep hM3 (by omega)
        have hB3 : TB s3 := hB2.of (fun j => ⟨hM3.2.1 _ _ (by unfold pH; omega), hM3.2.1 _ _ (by unfold pH; omega)⟩)
        have r63 := hF3.u 306 0 307 (by decide +kernel)
        have r66 := hF3.u 306 6 350 (by decide +kernel)
        have r67 := hF3.u 306 7 375 (by decide +kernel)
        have r6v : gR s3 350 v = 351 + v := hF3 _ q2
        have r6n : gR s3 350 (Int32.ofNat v).toNatClampNeg ≠ 0 := by rw [n32_cl (by omega), r6v]; omega
        obtain ⟨s4, e7, hM4, hx4⟩ := c7_sumStates (g := g) (d := d + 1) (r := 351 + v) hF3 hB3 hO3 (by rw [j3]; exact Nat.le_refl _) q7 q8 (by omega)
        have hO4 := hO3.keep hM4 (by omega)
        have hT4 := hT3.keep hM4 (by omega)
        have hM24 : RM pG qG rsw s2 (pI s4 375 v (Int32.ofNat (cntS (zGo w (opt w 0 0) (v + 1)).1))) := by
          refine ((hM3.mono (P' := pG) (Q' := qG) (fun b j h => Or.inl (Or.inl (Or.inl h))) (fun b j h => by unfold QR at h; unfold qG; omega)).tr ((hM4.mono (P' := pG) (Q' := qG) (fun b j h => Or.inl (Or.inl (Or.inl h))) (fun b j h => by unfold QR at h; unfold qG; omega)).tr (FM.pI (Or.inr rfl)))).rm
        have hZ5 : ZS (pI s4 375 v (Int32.ofNat (cntS (zGo w (opt w 0 0) (v + 1)).1))) (zGo w (opt w 0 0) (v + 1)) := by
          refine ⟨?_, hT4.cn CN.pI⟩
          obtain ⟨A, A', l, o1, o2, o3⟩ := hO4
          obtain ⟨a1, a2, a3⟩ := od_A o1
          exact ⟨A, A', l, o1, o2.of (by rw [gI_pI, if_neg (by omega)]) (fun j => by rw [gI_pI, if_neg (by omega)]) (fun j => by rw [gJ_pI]), o3.of (by rw [gI_pI, if_neg (by omega)]) (fun j => by rw [gI_pI, if_neg (by omega)]) (fun j => by rw [gJ_pI])⟩
        have hR5 : ∀ u, u < v + 1 → FR (pI s4 375 v (Int32.ofNat (cntS (zGo w (opt w 0 0) (v + 1)).1))) w u := fun u hu => by
          by_cases cu : u = v
          · subst cu
            refine ⟨fun x h => ?_, fun x h => ?_, by simp [gI_pI]⟩
            · rw [gJ_pI, hM4.2.2 _ _ (by unfold QR; omega), hx3 x h]
            · rw [gJ_pI, hx4 x h]
          · obtain ⟨w1, w2, w3⟩ := hR rfl u (by omega)
            have k12 : ∀ b j, ((326 ≤ b ∧ b < 350) ∨ (351 ≤ b ∧ b < 375)) → gJ s2 b j = gJ s b j := fun b j hb => by
              rw [hM2.2.2.1 _ _ (by unfold qO; omega), hM1.2.2.1 _ _ (by unfold qO; omega)]
            refine ⟨fun x h => ?_, fun x h => ?_, ?_⟩
            · rw [gJ_pI, hM4.2.2 _ _ (by unfold QR; omega), hM3.2.2 _ _ (by unfold QR; omega), k12 _ _ (by omega), w1 x h]
            · rw [gJ_pI, hM4.2.2 _ _ (by unfold QR; omega), hM3.2.2 _ _ (by unfold QR; omega), k12 _ _ (by omega), w2 x h]
            · rw [gI_pI, if_neg (by omega), hM4.2.1 _ _ (by unfold pH; omega), hM3.2.1 _ _ (by unfold pH; omega), hM2.2.1 _ _ (by unfold pO HSK; omega), hM1.2.1 _ _ (by unfold pN pO pE HSK; omega), w3]
        obtain ⟨s', y1, y2, y3, y4⟩ := ih (v + 1) _ (by omega) (hM02.tr hM24) hZ5 (fun _ => hR5) (fun h => absurd rfl h)
        refine ⟨s', ?_, y2, y3, y4⟩
        rw [sX6_reckon_66]
        simp (disch := first | exact jm_lt0 | (apply jm_ltx; (repeat (first | exact jw_0 | apply jw_i | apply jw_r | apply jw_l)); omega) | omega | assumption | exact sa_306 | exact sa_307 | exact sa_4 | exact sa_5 | exact sa_325 | exact sa_350 | exact sa_375 | exact n32_inA sb_306 (by omega) (by omega) | exact n32_inA sb_307 (by omega) (by omega) | exact n32_inA sb_4 (by omega) (by omega) | exact n32_inA sb_5 (by omega) (by omega) | exact n32_inA sb_325 (by omega) (by omega) | exact n32_inA sb_350 (by omega) (by omega) | exact n32_inA sb_375 (by omega) (by omega) | (refine n32_inA (by assumption) ?_ ?_ <;> omega) | exact bi01 | (rw [sa_306]; omega) | (rw [sa_307]; omega) | (rw [sa_4]; omega) | (rw [sa_5]; omega) | (rw [sa_325]; omega) | (rw [sa_350]; omega) | (rw [sa_375]; omega) | decide) only [sX6_reckon_0, sX6_reckon_1, sX6_reckon_3, sX6_reckon_4, sX6_reckon_5, sX6_reckon_6, sX6_reckon_8, sX6_reckon_10, sX6_reckon_13, sX6_reckon_15, sX6_reckon_18, sX6_reckon_21, sX6_reckon_22, sX6_reckon_25, sX6_reckon_27, sX6_reckon_28, sX6_reckon_29, sX6_reckon_32, kX6_reckon_35_AAIIINN, sX6_reckon_35, sX6_reckon_37, sX6_reckon_38, sX6_reckon_39, sX6_reckon_42, sX6_reckon_44, sX6_reckon_45, sX6_reckon_48, sX6_reckon_49, sX6_reckon_50, sX6_reckon_51, sX6_reckon_54, sX6_reckon_55, sX6_reckon_58, sX6_reckon_60, sX6_reckon_63, sX6_reckon_64, kX6_reckon_66_AAIIIAI, sX6_reckon_68, sX6_reckon_70, sX6_reckon_73, sX6_reckon_75, sX6_reckon_77, sX6_reckon_80, sX6_reckon_83, sX6_reckon_86, sX6_reckon_87, sX6_reckon_90, sX6_reckon_92, sX6_reckon_94, sX6_reckon_97, sX6_reckon_100, sX6_reckon_101, sX6_reckon_104, sX6_reckon_106, sX6_reckon_108, sX6_reckon_111, sX6_reckon_112, sX6_reckon_115, sX6_reckon_117, sX6_reckon_120, sX6_reckon_122, sX6_reckon_125, sX6_reckon_128, sX6_reckon_129, sX6_reckon_132, sX6_reckon_133, sX6_reckon_136, sX6_reckon_137, sX6_reckon_140, sX6_reckon_142, sX6_reckon_143, sX6_reckon_146, sX6_reckon_147, sX6_reckon_150, sX6_reckon_152, sX6_reckon_153, sX6_reckon_156, sX6_reckon_157, sX6_reckon_160, sX6_reckon_162, sX6_reckon_163, sX6_reckon_166, sX6_reckon_167, sX6_reckon_170, kX6_reckon_173_ANINIAI, sX6_reckon_174, sX6_reckon_177, sX6_reckon_178, kX6_reckon_181_ANINIAN, sX6_reckon_181, sX6_reckon_182, sX6_reckon_185, sX6_reckon_187, sX6_reckon_188, sX6_reckon_191, sX6_reckon_194, sX6_reckon_195, sX6_reckon_196, sX6_reckon_199, sX6_reckon_201, sX6_reckon_202, sX6_reckon_205, sX6_reckon_207, sX6_reckon_210, sX6_reckon_211, sX6_reckon_212, sX6_reckon_215, sX6_reckon_217, sX6_reckon_218, sX6_reckon_221, sX6_reckon_222, sX6_reckon_224, evK_n, evK_v, evK_x, gI_pI, gJ_pI, gR_pI, gI_pJ, gJ_pJ, gR_pJ, gI_pR, gJ_pR, gR_pR, n32_le, n32_lt, n32_add, n32_mul, n32_cl, if_true, if_false, not_true_eq_false, not_false_eq_true, and_true, true_and, and_false, false_and, and_self, or_true, true_or, or_false, false_or, or_self, ne_eq, Decidable.not_not, Nat.reduceEqDiff, Nat.reduceEqDiff, sa_306, sb_306, sa_307, sb_307, sa_4, sb_4, sa_5, sb_5, sa_325, sb_325, sa_350, sb_350, sa_375, sb_375, g1, g2, r0, r6, e1, e2, z32, e3, r01, r61, e4, e5, r62, r65, r5v, e6, r63, r66, r67, r6v, e7]
        exact y1
      · have hc0' : ¬ Int32.ofNat ch = 0 := by rw [n32_eq0 (by omega)]; exact c0
        obtain ⟨s', y1, y2, y3, y4⟩ := ih (v + 1) s2 (by omega) hM02 hZ2 (fun h => absurd h c0) (fun h => ((hX h).tr hM1).tr hM2.N)
        refine ⟨s', ?_, y2, y3, y4⟩
        rw [sX6_reckon_66]
        simp (disch := first | exact jm_lt0 | (apply jm_ltx; (repeat (first | exact jw_0 | apply jw_i | apply jw_r | apply jw_l)); omega) | omega | assumption | exact sa_306 | exact sa_307 | exact sa_4 | exact sa_5 | exact n32_inA sb_306 (by omega) (by omega) | exact n32_inA sb_307 (by omega) (by omega) | exact n32_inA sb_4 (by omega) (by omega) | exact n32_inA sb_5 (by omega) (by omega) | (refine n32_inA (by assumption) ?_ ?_ <;> omega) | exact bi01 | (rw [sa_306]; omega) | (rw [sa_307]; omega) | (rw [sa_4]; omega) | (rw [sa_5]; omega) | decide) only [sX6_reckon_0, sX6_reckon_1, sX6_reckon_3, sX6_reckon_4, sX6_reckon_5, sX6_reckon_6, sX6_reckon_8, sX6_reckon_10, sX6_reckon_13, sX6_reckon_15, sX6_reckon_18, sX6_reckon_21, sX6_reckon_22, sX6_reckon_25, sX6_reckon_27, sX6_reckon_28, sX6_reckon_29, sX6_reckon_32, kX6_reckon_35_AAIIINN, sX6_reckon_35, sX6_reckon_37, sX6_reckon_38, sX6_reckon_39, sX6_reckon_42, sX6_reckon_44, sX6_reckon_45, sX6_reckon_48, sX6_reckon_49, sX6_reckon_50, sX6_reckon_51, sX6_reckon_54, sX6_reckon_55, sX6_reckon_58, sX6_reckon_60, sX6_reckon_63, sX6_reckon_64, kX6_reckon_66_AAIIIAI, sX6_reckon_68, sX6_reckon_70, sX6_reckon_73, sX6_reckon_75, sX6_reckon_77, sX6_reckon_80, sX6_reckon_83, sX6_reckon_86, sX6_reckon_87, sX6_reckon_90, sX6_reckon_92, sX6_reckon_94, sX6_reckon_97, sX6_reckon_100, sX6_reckon_101, sX6_reckon_104, sX6_reckon_106, sX6_reckon_108, sX6_reckon_111, sX6_reckon_112, sX6_reckon_115, sX6_reckon_117, sX6_reckon_120, sX6_reckon_122, sX6_reckon_125, sX6_reckon_128, sX6_reckon_129, sX6_reckon_132, sX6_reckon_133, sX6_reckon_136, sX6_reckon_137, sX6_reckon_140, sX6_reckon_142, sX6_reckon_143, sX6_reckon_146, sX6_reckon_147, sX6_reckon_150, sX6_reckon_152, sX6_reckon_153, sX6_reckon_156, sX6_reckon_157, sX6_reckon_160, sX6_reckon_162, sX6_reckon_163, sX6_reckon_166, sX6_reckon_167, sX6_reckon_170, kX6_reckon_173_ANINIAI, sX6_reckon_174, sX6_reckon_177, sX6_reckon_178, kX6_reckon_181_ANINIAN, sX6_reckon_181, sX6_reckon_182, sX6_reckon_185, sX6_reckon_187, sX6_reckon_188, sX6_reckon_191, sX6_reckon_194, sX6_reckon_195, sX6_reckon_196, sX6_reckon_199, sX6_reckon_201, sX6_reckon_202, sX6_reckon_205, sX6_reckon_207, sX6_reckon_210, sX6_reckon_211, sX6_reckon_212, sX6_reckon_215, sX6_reckon_217, sX6_reckon_218, sX6_reckon_221, sX6_reckon_222, sX6_reckon_224, evK_n, evK_v, evK_x, gI_pI, gJ_pI, gR_pI, gI_pJ, gJ_pJ, gR_pJ, gI_pR, gJ_pR, gR_pR, n32_le, n32_lt, n32_add, n32_mul, n32_cl, if_true, if_false, not_true_eq_false, not_false_eq_true, and_true, true_and, and_false, false_and, and_self, or_true, true_or, or_false, false_or, or_self, ne_eq, Decidable.not_not, Nat.reduceEqDiff, Nat.reduceEqDiff, sa_306, sb_306, sa_307, sb_307, sa_4, sb_4, sa_5, sb_5, g1, g2, r0, r6, e1, e2, z32, e3, r01, r61, e4, e5, hc0']
        exact y1
