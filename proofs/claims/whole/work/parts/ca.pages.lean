/-! changes of the VISITS: pages, both -/
/-- a new page like the one in force; the page in force is another -/
def drT (D : DR) : DR := (D.1 + 1, fun k => if k ≤ D.1 then D.2 k else D.2 D.1)
def drS (D : DR) (P : PG) : DR := (D.1, fun k => if k = D.1 then P else D.2 k)
def wV (w : WD) (P : PG) : WD := (w.1, w.2.1, P.1, P.2.1, P.2.2, w.2.2.2.2.2)
theorem drT_ok {D : DR} (h : drOK D) (hc : D.1 < 20) : drOK (drT D) := ⟨by show D.1 + 1 ≤ 20; omega, fun k hk => by
  have hk' : k ≤ D.1 + 1 := hk
  show pgOK (if k ≤ D.1 then D.2 k else D.2 D.1)
  split
  · exact h.2 k (by omega)
  · exact h.2 _ (Nat.le_refl _)⟩
theorem drT_cur {D : DR} : (drT D).2 (drT D).1 = D.2 D.1 := by
  show (if D.1 + 1 ≤ D.1 then D.2 (D.1 + 1) else D.2 D.1) = _
  rw [if_neg (by omega)]
theorem drS_ok {D : DR} {P : PG} (h : drOK D) (hP : pgOK P) : drOK (drS D P) := ⟨h.1, fun k hk => by
  show pgOK (if k = D.1 then P else D.2 k)
  split
  · exact hP
  · exact h.2 k hk⟩
theorem drS_cur {D : DR} {P : PG} : (drS D P).2 (drS D P).1 = P := if_pos rfl
theorem wV_ok {w : WD} {P : PG} (hw : wOK w) (hP : pgOK P) : wOK (wV w P) := ⟨hw.1, hw.2.1, hP.1, hP.2, hw.2.2.2.2⟩
theorem drC.set {s s' : fm_S} {D : DR} {P : PG} (h : drC s 5 D) (hD : drOK D) (e : ∀ b j, 5 ≤ b → b ≤ 50 → ¬ (b = 6 ∧ j = D.1) → b ≠ 8 + D.1 → b ≠ 30 + D.1 → gI s' b j = gI s b j) (hP : pgC s' 5 D.1 P) : drC s' 5 (drS D P) := by
  have := hD.1
  refine ⟨by rw [e _ _ (by omega) (by omega) (by omega) (by omega) (by omega), h.1]; rfl, fun k hk => ?_⟩
  have hk' : k ≤ D.1 := hk
  show pgC s' 5 k (if k = D.1 then P else D.2 k)
  by_cases c : k = D.1
  · rw [if_pos c, c]; exact hP
  · rw [if_neg c]
    obtain ⟨a1, a2⟩ := h.2 k hk'
    exact ⟨by rw [e _ _ (by omega) (by omega) (by omega) (by omega) (by omega), a1], fun v hv => ⟨by rw [e _ _ (by omega) (by omega) (by omega) (by omega) (by omega), (a2 v hv).1], by rw [e _ _ (by omega) (by omega) (by omega) (by omega) (by omega), (a2 v hv).2]⟩⟩
section PGS
variable {g : fm_g} {d c ver : Nat} {w : WD} {G : GS} {s t : fm_S}
theorem c_turn {D : DR} (hF : FX s) (h : drC s 5 D) (hD : drOK D) (hc : D.1 < 20) : ∃ s1, ev g (d + 1) mX4_turnPage 0 [some (.ref (5 : Nat))] [] s = some (.inl (some (.int (Int32.ofNat 1))), s1) ∧ s1.2 = s.2 ∧ (∀ b j, ¬ (5 ≤ b ∧ b ≤ 50) → gI s1 b j = gI s b j) ∧ drC s1 5 (drT D) := by
  have e := d_turnPage (g := g) (d := d) hF (a := 5) (by decide) h.1 hD.1
  rw [if_pos hc] at e
  refine ⟨_, e, rfl, fun b j hb => ?_, ?_, fun k hk => ?_⟩
  · rw [gI_pI, if_neg (by omega), cpS_gI, if_neg (by omega), if_neg (by omega), gI_pI, if_neg (by omega)]
  · rw [gI_pI, if_pos ⟨rfl, rfl⟩]
    rfl
  · have hk' : k ≤ D.1 + 1 := hk
    show pgC _ 5 k (if k ≤ D.1 then D.2 k else D.2 D.1)
    by_cases c : k ≤ D.1
    · rw [if_pos c]
      obtain ⟨a1, a2⟩ := h.2 k c
      refine ⟨?_, fun v hv => ⟨?_, ?_⟩⟩
      · rw [gI_pI, if_neg (by omega), cpS_gI, if_neg (by omega), if_neg (by omega), gI_pI, if_neg (by omega), a1]
      · rw [gI_pI, if_neg (by omega), cpS_gI, if_neg (by omega), if_neg (by omega), gI_pI, if_neg (by omega), (a2 v hv).1]
      · rw [gI_pI, if_neg (by omega), cpS_gI, if_neg (by omega), if_neg (by omega), gI_pI, if_neg (by omega), (a2 v hv).2]
    · rw [if_neg c]
      have hk2 : k = D.1 + 1 := by omega
      subst hk2
      obtain ⟨a1, a2⟩ := h.2 D.1 (Nat.le_refl _)
      have hn := (hD.2 D.1 (Nat.le_refl _)).1
      refine ⟨?_, fun v hv => ⟨?_, ?_⟩⟩
      · rw [gI_pI, if_neg (by omega), cpS_gI, if_neg (by omega), if_neg (by omega), gI_pI, if_pos ⟨rfl, rfl⟩, a1]
      · rw [gI_pI, if_neg (by omega), cpS_gI, if_pos ⟨by omega, by omega⟩, gI_pI, if_neg (by omega), (a2 v hv).1]
      · rw [gI_pI, if_neg (by omega), cpS_gI, if_neg (by omega), if_pos ⟨by omega, by omega⟩, gI_pI, if_neg (by omega), (a2 v hv).2]
theorem c_noturn {D : DR} (hF : FX s) (h : drC s 5 D) (hD : drOK D) (hc : ¬ D.1 < 20) : ev g (d + 1) mX4_turnPage 0 [some (.ref (5 : Nat))] [] s = some (.inl (some (.int (Int32.ofNat 0))), s) := by
  have e := d_turnPage (g := g) (d := d) hF (a := 5) (by decide) h.1 hD.1
  rw [if_neg hc] at e
  exact e
theorem c_ins {D : DR} {p m : Nat} (hF : FX s) (h : drC s 5 D) (hD : drOK D) (hn : (D.2 D.1).1 < 24) (hp : p < 6) (hm : m ≤ 480) : ∃ s1, ev g (d + 1) mX4_insert 0 [some (.ref (5 : Nat)), some (.int (Int32.ofNat p)), some (.int (Int32.ofNat m)), none, none, none, none] [] s = some (.inl (some (.int (Int32.ofNat (insP (D.2 D.1).2.2 m (D.2 D.1).1)))), s1) ∧ s1.2 = s.2 ∧ (∀ b j, ¬ (5 ≤ b ∧ b ≤ 50) → gI s1 b j = gI s b j) ∧ drC s1 5 (drS D ((D.2 D.1).1 + 1, insF (D.2 D.1).2.1 (insP (D.2 D.1).2.2 m (D.2 D.1).1) p, insF (D.2 D.1).2.2 (insP (D.2 D.1).2.2 m (D.2 D.1).1) m)) := by
  have hDI := h.di hD
  have e := d_insert (g := g) (d := d) (p := p) (m := m) hF (a := 5) (by decide) hDI hn (by omega) (by omega)
  have h2 := DI_ins hDI hn hm hp
  have := hD.1
  refine ⟨_, e, rfl, fun b j hb => ?_, h.set hD (fun b j h1 h2 h3 h4 h5 => ?_) ⟨h2.2.2.1, fun v hv => ⟨(h2.2.2.2.2 v hv).1.1, (h2.2.2.2.2 v hv).2.1⟩⟩⟩
  · rw [gI_pI, if_neg (by omega), insS_of (by omega) (by omega) (by omega)]
  · rw [gI_pI, if_neg (by omega), insS_of (by omega) (by omega) (by omega)]
theorem c_rem {D : DR} {v : Nat} (hF : FX s) (h : drC s 5 D) (hD : drOK D) (hv : v < (D.2 D.1).1) : ∃ s1, ev g (d + 1) mX4_remove 0 [some (.ref (5 : Nat)), some (.int (Int32.ofNat v)), none, none, none, none] [] s = some (.inl none, s1) ∧ s1.2 = s.2 ∧ (∀ b j, ¬ (5 ≤ b ∧ b ≤ 50) → gI s1 b j = gI s b j) ∧ drC s1 5 (drS D ((D.2 D.1).1 - 1, remF (D.2 D.1).2.1 v, remF (D.2 D.1).2.2 v)) := by
  have hDI := h.di hD
  have e := d_remove (g := g) (d := d) hF (a := 5) (by decide) hDI hv
  have h2 := DI_rem hDI hv
  have := hD.1
  refine ⟨_, e, rfl, fun b j hb => ?_, h.set hD (fun b j h1 h2 h3 h4 h5 => ?_) ⟨h2.2.2.1, fun v hv => ⟨(h2.2.2.2.2 v hv).1.1, (h2.2.2.2.2 v hv).2.1⟩⟩⟩
  · rw [gI_pI, if_neg (by omega), shD_gI, if_neg (by omega)]
  · rw [gI_pI, if_neg (by omega), shD_gI, if_neg (by omega)]
theorem pg_ins {P : PG} {p m : Nat} (h : pgOK P) (hn : P.1 < 24) (hp : p < 6) (hm : m ≤ 480) : pgOK (P.1 + 1, insF P.2.1 (insP P.2.2 m P.1) p, insF P.2.2 (insP P.2.2 m P.1) m) := ⟨by show P.1 + 1 ≤ 24; omega, fun v hv => by
  have hv' : v < P.1 + 1 := hv
  have hq := insP_le P.2.2 m P.1
  show insF P.2.1 (insP P.2.2 m P.1) p v < 6 ∧ insF P.2.2 (insP P.2.2 m P.1) m v ≤ 480
  unfold insF
  by_cases c1 : v < insP P.2.2 m P.1
  · rw [if_pos c1, if_pos c1]; exact h.2 v (by omega)
  · by_cases c2 : v = insP P.2.2 m P.1
    · rw [if_neg c1, if_pos c2, if_neg c1, if_pos c2]; exact ⟨hp, hm⟩
    · rw [if_neg c1, if_neg c2, if_neg c1, if_neg c2]; exact h.2 (v - 1) (by omega)⟩
theorem pg_rem {P : PG} {v : Nat} (h : pgOK P) (hv : v < P.1) : pgOK (P.1 - 1, remF P.2.1 v, remF P.2.2 v) := ⟨by have := h.1; show P.1 - 1 ≤ 24; omega, fun u hu => by
  have hu' : u < P.1 - 1 := hu
  show remF P.2.1 v u < 6 ∧ remF P.2.2 v u ≤ 480
  unfold remF
  by_cases c1 : u < v
  · rw [if_pos c1, if_pos c1]; exact h.2 u (by omega)
  · rw [if_neg c1, if_neg c1]; exact h.2 (u + 1) (by omega)⟩
/-- the class behind a change -/
def Gd (G : GS) (D : DR) : GS := (yB G, yL G, yF G, yNf G, yNa G, D, yik G, yIm G)
theorem CI.chg {s' : fm_S} {D : DR} (h : CI s w G ver) (hG : GOK w G) (hv : ver + 1 < 100000) (e0 : s'.2 = s.2) (e : ∀ b j, ¬ (5 ≤ b ∧ b ≤ 50) → ¬ (b = 306 ∧ j = 1) → gI s' b j = gI s b j) (e1 : gI s' 306 1 = Int32.ofNat (ver + 1)) (hd : drC s' 5 D) (hD : drOK D) : CI s' (wV w (D.2 D.1)) (Gd G D) (ver + 1) := by
  obtain ⟨⟨h1, h2, h3, h4, h5⟩, h6⟩ := h
  have hF' : FX s' := h1.of (by rw [e0])
  have gj : ∀ b j, gJ s' b j = gJ s b j := fun b j => by show s'.2.1 b j = s.2.1 b j; rw [e0]
  have gr : ∀ b j, gR s' b j = gR s b j := fun b j => by show s'.2.2.1 b j = s.2.2.1 b j; rw [e0]
  have hdi := hd.di hD
  refine ⟨⟨hF', h2.of (fun b j hb => ⟨e _ _ (by omega) (by omega), gj _ _⟩) (fun j _ => gr _ _), ?_, wV_ok h4 (hD.2 _ (Nat.le_refl _)), ?_⟩, ?_⟩
  · obtain ⟨a1, a2, -, a4, a5, a6⟩ := h3
    refine ⟨fun i hi => by rw [e _ _ (by omega) (by omega), a1 i hi]; rfl, fun i hi => by rw [e _ _ (by omega) (by omega), a2 i hi]; rfl, ⟨D.1, hdi⟩, fun p hp => ?_, by rw [e _ _ (by omega) (by omega), a5]; rfl, fun i hi => ?_⟩
    · have hc : hcl p = 54 ∨ hcl p = 65 ∨ hcl p = 72 ∨ hcl p = 79 ∨ hcl p = 86 ∨ hcl p = 93 ∨ hcl p = 100 := by unfold hcl; split <;> omega
      exact (a4 p hp).of (fun c j hcj => e _ _ (by omega) (by omega))
    · obtain ⟨b1, b2, b3⟩ := a6 i hi
      exact ⟨by rw [e _ _ (by omega) (by omega), b1]; rfl, by rw [e _ _ (by omega) (by omega), b2]; rfl, by rw [e _ _ (by omega) (by omega), b3]; rfl⟩
  · have h7 := h5.forget (w' := wV w (D.2 D.1)) hv
    refine h7.of (wV_ok h4 (hD.2 _ (Nat.le_refl _))) (fun j => ?_) (fun j => ?_) (fun j => ?_) (fun b j hb => ?_)
    · rw [gI_pI]
      by_cases c : j = 1
      · rw [if_pos ⟨rfl, c⟩, c, e1]
      · rw [if_neg (by omega), e _ _ (by omega) (by omega)]
    · rw [gI_pI, if_neg (by omega), e _ _ (by omega) (by omega)]
    · rw [gI_pI, if_neg (by omega), e _ _ (by omega) (by omega)]
    · rw [gJ_pI, gj]
  · obtain ⟨g1, g2, g3, g4, g5, g6⟩ := hG
    obtain ⟨a1, a2, a3, a4, a5, a6, a7, a8⟩ := h6
    exact ⟨by rw [e _ _ (by omega) (by omega)]; exact a1, fun i hi => by rw [e _ _ (by omega) (by omega)]; exact a2 i hi, hd, by rw [e _ _ (by omega) (by omega)]; exact a4, fun i hi => (a5 i hi).of (g5 i hi) (fun b j q1 q2 => e b j (by omega) (by have hi2 : i < yik G := hi; have g42 : yik G ≤ 3 := g4; omega)), by rw [e _ _ (by omega) (by omega)]; exact a6, by rw [e _ _ (by omega) (by omega)]; exact a7, by rw [e _ _ (by omega) (by omega)]; exact a8⟩
theorem GOK.chg {D : DR} (hG : GOK w G) (hD : drOK D) : GOK (wV w (D.2 D.1)) (Gd G D) := ⟨hG.1, hG.2.1, hD, hG.2.2.2.1, hG.2.2.2.2.1, rfl⟩
theorem chg_clk {s' : fm_S} (e0 : s'.2 = s.2) (e : ∀ b j, ¬ (5 ≤ b ∧ b ≤ 50) → ¬ (b = 306 ∧ j = 1) → gI s' b j = gI s b j) : CLK s s' := ⟨fun b j h1 h2 => ⟨e _ _ (by omega) (by omega), by show s'.2.1 b j = s.2.1 b j; rw [e0]⟩, fun b j _ => by show s'.2.2.1 b j = s.2.2.1 b j; rw [e0], Or.inl (by rw [e0])⟩
/-- the model behind a change -/
theorem MI.chg {t' : fm_S} {D : DR} (h : MI t w G) (hG : GOK w G) (hD : drOK D) (e0 : t'.2 = t.2) (e : ∀ b j, ¬ (b = 439 ∨ b = 440 ∨ b = 458 ∨ (b = 432 ∧ (j = 0 ∨ j = 19 ∨ j = 62))) → gI t' b j = gI t b j) (hV : MV t' (D.2 D.1).1 (D.2 D.1).2.1 (D.2 D.1).2.2) (hd : drM t' D) : MI t' (wV w (D.2 D.1)) (Gd G D) := by
  obtain ⟨h1, h2, ⟨a1, a2, a3, -, a5, a6, a7⟩, h4⟩ := h
  have gj : ∀ b j, gJ t' b j = gJ t b j := fun b j => by show t'.2.1 b j = t.2.1 b j; rw [e0]
  refine ⟨h1.of (by rw [e0]), h2.of (fun b j hb => e _ _ (by omega)) (fun b j _ => gj b j), ⟨fun i hi => by rw [e _ _ (by omega), a1 i hi]; rfl, fun i hi => by rw [e _ _ (by omega), a2 i hi]; rfl, by rw [e _ _ (by omega), a3]; rfl, hV, fun p hp => ?_, by rw [e _ _ (by omega), a6]; rfl, fun i hi => ?_⟩, ?_⟩
  · obtain ⟨b1, b2, b3⟩ := a5 p hp
    refine ⟨by rw [e _ _ (by omega), b1]; rfl, fun i hi => ?_, fun i hi => ?_⟩
    · obtain ⟨c1, c2, c3, c4⟩ := b2 i hi
      exact ⟨by rw [e _ _ (by omega), c1]; rfl, by rw [e _ _ (by omega), c2]; rfl, by rw [e _ _ (by omega), c3]; rfl, by rw [e _ _ (by omega), c4]; rfl⟩
    · obtain ⟨c1, c2⟩ := b3 i hi
      exact ⟨by rw [e _ _ (by omega), c1]; rfl, by rw [e _ _ (by omega), c2]; rfl⟩
  · obtain ⟨c1, c2, c3⟩ := a7 i hi
    exact ⟨by rw [e _ _ (by omega), c1]; rfl, by rw [e _ _ (by omega), c2]; rfl, by rw [e _ _ (by omega), c3]; rfl⟩
  · obtain ⟨b1, b2, b3, b4, b5, b6, b7, b8⟩ := h4
    exact ⟨by rw [e _ _ (by omega)]; exact b1, fun i hi => by rw [e _ _ (by omega)]; exact b2 i hi, hd, by rw [e _ _ (by omega)]; exact b4, fun i hi => (b5 i hi).of (fun j => e _ _ (by omega)), by rw [e _ _ (by omega)]; exact b6, by rw [e _ _ (by omega)]; exact b7, by rw [e _ _ (by omega)]; exact b8⟩
theorem chg_mlk {t' : fm_S} (e0 : t'.2 = t.2) (e : ∀ b j, ¬ (b = 439 ∨ b = 440 ∨ b = 458 ∨ (b = 432 ∧ (j = 0 ∨ j = 19 ∨ j = 62))) → gI t' b j = gI t b j) : MLK t t' := ⟨fun b j h => ⟨e _ _ (by omega), by show t'.2.1 b j = t.2.1 b j; rw [e0]⟩, fun b j => by show t'.2.2.1 b j = t.2.2.1 b j; rw [e0], by rw [e0]⟩
theorem m_keepLoop {D : DR} {t0 : fm_S} (hF : FX t0) (hc : D.1 < 20) (h62 : gI t0 432 62 = Int32.ofNat D.1) : ∀ (m k : Nat) (t : fm_S), k + m = 24 → FM (fun b j => b = 458 ∧ 49 * D.1 ≤ j ∧ j < 49 * D.1 + 48) nO t0 t → (∀ j, j < k → gI t 458 (49 * D.1 + j) = gI t0 439 j ∧ gI t 458 (49 * D.1 + 24 + j) = gI t0 440 j) → ∃ t', ev g d mX12_keepsVisits 2 [some (.ref (432 : Nat)), some (.int (Int32.ofNat k))] [] t = ev g d mX12_keepsVisits 57 [some (.ref (432 : Nat)), none] [] t' ∧ FM (fun b j => b = 458 ∧ 49 * D.1 ≤ j ∧ j < 49 * D.1 + 48) nO t0 t' ∧ ∀ j, j < 24 → gI t' 458 (49 * D.1 + j) = gI t0 439 j ∧ gI t' 458 (49 * D.1 + 24 + j) = gI t0 440 j := by
  intro m
  induction m with
  | zero =>
    intro k t hk hM hJ
    have hil : k = 24 := by omega
    subst hil
    refine ⟨t, ?_, hM, hJ⟩
    rw [sX12_keepsVisits_2]
    simp (disch := first | exact jm_lt0 | (apply jm_ltx; (repeat (first | exact jw_0 | apply jw_i | apply jw_r | apply jw_l)); omega) | omega | assumption | exact sa_432 | exact n32_inA sb_432 (by omega) (by omega) | (refine n32_inA (by assumption) ?_ ?_ <;> omega) | exact bi01 | (rw [sa_432]; omega) | decide) only [sX12_keepsVisits_0, sX12_keepsVisits_1, sX12_keepsVisits_3, sX12_keepsVisits_5, sX12_keepsVisits_8, sX12_keepsVisits_9, sX12_keepsVisits_12, sX12_keepsVisits_14, sX12_keepsVisits_15, sX12_keepsVisits_18, sX12_keepsVisits_19, sX12_keepsVisits_20, sX12_keepsVisits_21, sX12_keepsVisits_22, sX12_keepsVisits_25, sX12_keepsVisits_26, sX12_keepsVisits_27, sX12_keepsVisits_28, sX12_keepsVisits_29, sX12_keepsVisits_32, sX12_keepsVisits_34, sX12_keepsVisits_35, sX12_keepsVisits_38, sX12_keepsVisits_39, sX12_keepsVisits_41, sX12_keepsVisits_42, sX12_keepsVisits_43, sX12_keepsVisits_44, sX12_keepsVisits_45, sX12_keepsVisits_48, sX12_keepsVisits_49, sX12_keepsVisits_50, sX12_keepsVisits_51, sX12_keepsVisits_54, kX12_keepsVisits_57_AI, sX12_keepsVisits_58, sX12_keepsVisits_61, sX12_keepsVisits_63, sX12_keepsVisits_64, sX12_keepsVisits_67, sX12_keepsVisits_68, sX12_keepsVisits_70, sX12_keepsVisits_71, sX12_keepsVisits_72, sX12_keepsVisits_75, sX12_keepsVisits_76, sX12_keepsVisits_77, sX12_keepsVisits_78, sX12_keepsVisits_81, sX12_keepsVisits_82, sX12_keepsVisits_83, sX12_keepsVisits_86, evK_n, evK_v, evK_x, gI_pI, gJ_pI, gR_pI, gI_pJ, gJ_pJ, gR_pJ, gI_pR, gJ_pR, gR_pR, if_true, if_false, not_true_eq_false, not_false_eq_true, and_true, true_and, and_false, false_and, and_self, or_true, true_or, or_false, false_or, or_self, ne_eq, Decidable.not_not, Nat.reduceEqDiff, Nat.reduceEqDiff, n32_le, n32_lt, n32_add, n32_mul, n32_cl, Nat.le_refl]
  | succ m ih =>
    intro k t hk hM hJ
    have hFt := hM.fx hF
    have r61 := hFt.u 432 61 458 (by decide +kernel)
    have r14 := hFt.u 432 14 439 (by decide +kernel)
    have r15 := hFt.u 432 15 440 (by decide +kernel)
    have c62 : gI t 432 62 = Int32.ofNat D.1 := by rw [hM.2.1 _ _ (by omega), h62]
    have m1 : gI t 439 k = gI t0 439 k := hM.2.1 _ _ (by omega)
    have m2 : gI t 440 k = gI t0 440 k := hM.2.1 _ _ (by omega)
    have g1 : ¬ 24 ≤ k := by omega
    obtain ⟨t', f1, f2, f3⟩ := ih (k + 1) (pI (pI t 458 (49 * D.1 + k) (gI t0 439 k)) 458 (49 * D.1 + 24 + k) (gI t0 440 k)) (by omega) ((hM.tr (FM.pI (by omega))).tr (FM.pI (by omega))) (fun j hj => by
      by_cases cj : j = k
      · subst cj
        exact ⟨by rw [gI_pI, if_neg (by omega), gI_pI, if_pos ⟨rfl, rfl⟩], by rw [gI_pI, if_pos ⟨rfl, rfl⟩]⟩
      · rw [gI_pI, if_neg (by omega), gI_pI, if_neg (by omega), gI_pI, if_neg (by omega), gI_pI, if_neg (by omega)]
        exact hJ j (by omega))
    refine ⟨t', ?_, f2, f3⟩
    rw [sX12_keepsVisits_2]
    simp (disch := first | exact jm_lt0 | (apply jm_ltx; (repeat (first | exact jw_0 | apply jw_i | apply jw_r | apply jw_l)); omega) | omega | assumption | exact sa_432 | exact sa_458 | exact sa_439 | exact sa_440 | exact n32_inA sb_432 (by omega) (by omega) | exact n32_inA sb_458 (by omega) (by omega) | exact n32_inA sb_439 (by omega) (by omega) | exact n32_inA sb_440 (by omega) (by omega) | (refine n32_inA (by assumption) ?_ ?_ <;> omega) | exact bi01 | (rw [sa_432]; omega) | (rw [sa_458]; omega) | (rw [sa_439]; omega) | (rw [sa_440]; omega) | decide) only [sX12_keepsVisits_0, sX12_keepsVisits_1, sX12_keepsVisits_3, sX12_keepsVisits_5, sX12_keepsVisits_8, sX12_keepsVisits_9, sX12_keepsVisits_12, sX12_keepsVisits_14, sX12_keepsVisits_15, sX12_keepsVisits_18, sX12_keepsVisits_19, sX12_keepsVisits_20, sX12_keepsVisits_21, sX12_keepsVisits_22, sX12_keepsVisits_25, sX12_keepsVisits_26, sX12_keepsVisits_27, sX12_keepsVisits_28, sX12_keepsVisits_29, sX12_keepsVisits_32, sX12_keepsVisits_34, sX12_keepsVisits_35, sX12_keepsVisits_38, sX12_keepsVisits_39, sX12_keepsVisits_41, sX12_keepsVisits_42, sX12_keepsVisits_43, sX12_keepsVisits_44, sX12_keepsVisits_45, sX12_keepsVisits_48, sX12_keepsVisits_49, sX12_keepsVisits_50, sX12_keepsVisits_51, sX12_keepsVisits_54, kX12_keepsVisits_57_AI, sX12_keepsVisits_58, sX12_keepsVisits_61, sX12_keepsVisits_63, sX12_keepsVisits_64, sX12_keepsVisits_67, sX12_keepsVisits_68, sX12_keepsVisits_70, sX12_keepsVisits_71, sX12_keepsVisits_72, sX12_keepsVisits_75, sX12_keepsVisits_76, sX12_keepsVisits_77, sX12_keepsVisits_78, sX12_keepsVisits_81, sX12_keepsVisits_82, sX12_keepsVisits_83, sX12_keepsVisits_86, evK_n, evK_v, evK_x, gI_pI, gJ_pI, gR_pI, gI_pJ, gJ_pJ, gR_pJ, gI_pR, gJ_pR, gR_pR, if_true, if_false, not_true_eq_false, not_false_eq_true, and_true, true_and, and_false, false_and, and_self, or_true, true_or, or_false, false_or, or_self, ne_eq, Decidable.not_not, Nat.reduceEqDiff, Nat.reduceEqDiff, n32_le, n32_lt, n32_add, n32_mul, n32_cl, sa_432, sb_432, sa_458, sb_458, sa_439, sb_439, sa_440, sb_440, g1, r61, r14, r15, c62, m1, m2, show ¬ ((432 : Nat) = 458) by decide, show ¬ ((440 : Nat) = 458) by decide]
    exact f1
theorem m_keeps {D : DR} (hF : FX t) (hD : drOK D) (hc : D.1 < 20) (hV : MV t (D.2 D.1).1 (D.2 D.1).2.1 (D.2 D.1).2.2) (hd : drM t D) : ∃ t1, ev g d mX12_keepsVisits 0 [some (.ref (432 : Nat)), none] [] t = some (.inl none, t1) ∧ t1.2 = t.2 ∧ (∀ b j, ¬ (b = 458 ∨ (b = 432 ∧ j = 62)) → gI t1 b j = gI t b j) ∧ drM t1 (drT D) := by
  obtain ⟨t', f1, f2, f3⟩ := m_keepLoop (g := g) (d := d) hF hc hd.1 24 0 t rfl FM.rf (fun j hj => by omega)
  have hFt := f2.fx hF
  have r61 := hFt.u 432 61 458 (by decide +kernel)
  have c62 : gI t' 432 62 = Int32.ofNat D.1 := by rw [f2.2.1 _ _ (by omega), hd.1]
  have c19 : gI t' 432 19 = Int32.ofNat (D.2 D.1).1 := by rw [f2.2.1 _ _ (by omega), hV.1]
  have hs2 : t'.2 = t.2 := Prod.ext (funext fun b => funext fun j => f2.2.2 b j (fun q => q)) f2.1
  refine ⟨pI (pI t' 458 (49 * D.1 + 48) (Int32.ofNat (D.2 D.1).1)) 432 62 (Int32.ofNat (D.1 + 1)), ?_, hs2, fun b j hb => by rw [gI_pI, if_neg (by omega), gI_pI, if_neg (by omega), f2.2.1 _ _ (by omega)], by rw [gI_pI, if_pos ⟨rfl, rfl⟩]; rfl, fun k hk => ?_⟩
  · have e0 : ev g d mX12_keepsVisits 0 [some (.ref (432 : Nat)), none] [] t = ev g d mX12_keepsVisits 2 [some (.ref (432 : Nat)), some (.int (Int32.ofNat 0))] [] t := by
      simp (disch := first | exact jm_lt0 | (apply jm_ltx; (repeat (first | exact jw_0 | apply jw_i | apply jw_r | apply jw_l)); omega) | omega | assumption | exact sa_432 | exact n32_inA sb_432 (by omega) (by omega) | (refine n32_inA (by assumption) ?_ ?_ <;> omega) | exact bi01 | (rw [sa_432]; omega) | decide) only [sX12_keepsVisits_0, sX12_keepsVisits_1, sX12_keepsVisits_3, sX12_keepsVisits_5, sX12_keepsVisits_8, sX12_keepsVisits_9, sX12_keepsVisits_12, sX12_keepsVisits_14, sX12_keepsVisits_15, sX12_keepsVisits_18, sX12_keepsVisits_19, sX12_keepsVisits_20, sX12_keepsVisits_21, sX12_keepsVisits_22, sX12_keepsVisits_25, sX12_keepsVisits_26, sX12_keepsVisits_27, sX12_keepsVisits_28, sX12_keepsVisits_29, sX12_keepsVisits_32, sX12_keepsVisits_34, sX12_keepsVisits_35, sX12_keepsVisits_38, sX12_keepsVisits_39, sX12_keepsVisits_41, sX12_keepsVisits_42, sX12_keepsVisits_43, sX12_keepsVisits_44, sX12_keepsVisits_45, sX12_keepsVisits_48, sX12_keepsVisits_49, sX12_keepsVisits_50, sX12_keepsVisits_51, sX12_keepsVisits_54, kX12_keepsVisits_57_AI, sX12_keepsVisits_58, sX12_keepsVisits_61, sX12_keepsVisits_63, sX12_keepsVisits_64, sX12_keepsVisits_67, sX12_keepsVisits_68, sX12_keepsVisits_70, sX12_keepsVisits_71, sX12_keepsVisits_72, sX12_keepsVisits_75, sX12_keepsVisits_76, sX12_keepsVisits_77, sX12_keepsVisits_78, sX12_keepsVisits_81, sX12_keepsVisits_82, sX12_keepsVisits_83, sX12_keepsVisits_86, evK_n, evK_v, evK_x, gI_pI, gJ_pI, gR_pI, gI_pJ, gJ_pJ, gR_pJ, gI_pR, gJ_pR, gR_pR, if_true, if_false, not_true_eq_false, not_false_eq_true, and_true, true_and, and_false, false_and, and_self, or_true, true_or, or_false, false_or, or_self, ne_eq, Decidable.not_not, Nat.reduceEqDiff, Nat.reduceEqDiff, n32_le, n32_lt, n32_add, n32_mul, n32_cl]
    rw [e0, f1]
    simp (disch := first | exact jm_lt0 | (apply jm_ltx; (repeat (first | exact jw_0 | apply jw_i | apply jw_r | apply jw_l)); omega) | omega | assumption | exact sa_432 | exact sa_458 | exact n32_inA sb_432 (by omega) (by omega) | exact n32_inA sb_458 (by omega) (by omega) | (refine n32_inA (by assumption) ?_ ?_ <;> omega) | exact bi01 | (rw [sa_432]; omega) | (rw [sa_458]; omega) | decide) only [sX12_keepsVisits_0, sX12_keepsVisits_1, sX12_keepsVisits_3, sX12_keepsVisits_5, sX12_keepsVisits_8, sX12_keepsVisits_9, sX12_keepsVisits_12, sX12_keepsVisits_14, sX12_keepsVisits_15, sX12_keepsVisits_18, sX12_keepsVisits_19, sX12_keepsVisits_20, sX12_keepsVisits_21, sX12_keepsVisits_22, sX12_keepsVisits_25, sX12_keepsVisits_26, sX12_keepsVisits_27, sX12_keepsVisits_28, sX12_keepsVisits_29, sX12_keepsVisits_32, sX12_keepsVisits_34, sX12_keepsVisits_35, sX12_keepsVisits_38, sX12_keepsVisits_39, sX12_keepsVisits_41, sX12_keepsVisits_42, sX12_keepsVisits_43, sX12_keepsVisits_44, sX12_keepsVisits_45, sX12_keepsVisits_48, sX12_keepsVisits_49, sX12_keepsVisits_50, sX12_keepsVisits_51, sX12_keepsVisits_54, kX12_keepsVisits_57_AI, sX12_keepsVisits_57, sX12_keepsVisits_58, sX12_keepsVisits_61, sX12_keepsVisits_63, sX12_keepsVisits_64, sX12_keepsVisits_67, sX12_keepsVisits_68, sX12_keepsVisits_70, sX12_keepsVisits_71, sX12_keepsVisits_72, sX12_keepsVisits_75, sX12_keepsVisits_76, sX12_keepsVisits_77, sX12_keepsVisits_78, sX12_keepsVisits_81, sX12_keepsVisits_82, sX12_keepsVisits_83, sX12_keepsVisits_86, evK_n, evK_v, evK_x, gI_pI, gJ_pI, gR_pI, gI_pJ, gJ_pJ, gR_pJ, gI_pR, gJ_pR, gR_pR, if_true, if_false, not_true_eq_false, not_false_eq_true, and_true, true_and, and_false, false_and, and_self, or_true, true_or, or_false, false_or, or_self, ne_eq, Decidable.not_not, Nat.reduceEqDiff, Nat.reduceEqDiff, n32_le, n32_lt, n32_add, n32_mul, n32_cl, sa_432, sb_432, sa_458, sb_458, r61, c62, c19, show ¬ ((432 : Nat) = 458) by decide]
  · have hk' : k < D.1 + 1 := hk
    show pgR _ 458 _ _ _ (if k ≤ D.1 then D.2 k else D.2 D.1)
    rw [if_pos (by omega)]
    by_cases c : k = D.1
    · subst c
      refine ⟨by rw [gI_pI, if_neg (by omega), gI_pI, if_pos ⟨rfl, rfl⟩], fun v hv => ?_⟩
      have h24 := (hD.2 D.1 (Nat.le_refl _)).1
      obtain ⟨q1, q2⟩ := f3 v (by omega)
      obtain ⟨⟨z1, -⟩, z2, -⟩ := hV.2.2 v hv
      exact ⟨by rw [gI_pI, if_neg (by omega), gI_pI, if_neg (by omega), q1, z1], by rw [gI_pI, if_neg (by omega), gI_pI, if_neg (by omega), q2, z2]⟩
    · obtain ⟨a1, a2⟩ := hd.2 k (by omega)
      have h24 := (hD.2 k (by omega)).1
      exact ⟨by rw [gI_pI, if_neg (by omega), gI_pI, if_neg (by omega), f2.2.1 _ _ (by omega), a1], fun v hv => ⟨by rw [gI_pI, if_neg (by omega), gI_pI, if_neg (by omega), f2.2.1 _ _ (by omega), (a2 v hv).1], by rw [gI_pI, if_neg (by omega), gI_pI, if_neg (by omega), f2.2.1 _ _ (by omega), (a2 v hv).2]⟩⟩
end PGS
