/-! what stands between two calls -/
/-- a page: how many VISITS, of whom, when -/
abbrev PG : Type := Nat × (Nat → Nat) × (Nat → Nat)
/-- a Diary: changes, pages -/
abbrev DR : Type := Nat × (Nat → PG)
def pgOK (P : PG) : Prop := P.1 ≤ 24 ∧ ∀ v, v < P.1 → P.2.1 v < 6 ∧ P.2.2 v ≤ 480
def drOK (D : DR) : Prop := D.1 ≤ 20 ∧ ∀ k, k ≤ D.1 → pgOK (D.2 k)
def pgC (s : fm_S) (a k : Nat) (P : PG) : Prop := gI s (a + 1) k = Int32.ofNat P.1 ∧ ∀ v, v < P.1 → gI s (a + 3 + k) v = Int32.ofNat (P.2.1 v) ∧ gI s (a + 25 + k) v = Int32.ofNat (P.2.2 v)
def drC (s : fm_S) (a : Nat) (D : DR) : Prop := gI s a 0 = Int32.ofNat D.1 ∧ ∀ k, k ≤ D.1 → pgC s a k (D.2 k)
def pgR (t : fm_S) (c bw bm bn : Nat) (P : PG) : Prop := gI t c bn = Int32.ofNat P.1 ∧ ∀ v, v < P.1 → gI t c (bw + v) = Int32.ofNat (P.2.1 v) ∧ gI t c (bm + v) = Int32.ofNat (P.2.2 v)
def drM (t : fm_S) (D : DR) : Prop := gI t 432 62 = Int32.ofNat D.1 ∧ ∀ k, k < D.1 → pgR t 458 (49 * k) (49 * k + 24) (49 * k + 48) (D.2 k)
def imM (t : fm_S) (i : Nat) (D : DR) : Prop := gI t 459 (1030 * i + 1029) = Int32.ofNat D.1 ∧ pgR t 459 (1030 * i) (1030 * i + 24) (1030 * i + 1028) (D.2 D.1) ∧ ∀ k, k < D.1 → pgR t 459 (1030 * i + 48 + 49 * k) (1030 * i + 48 + 49 * k + 24) (1030 * i + 48 + 49 * k + 48) (D.2 k)
theorem drC.di {s : fm_S} {a : Nat} {D : DR} (h : drC s a D) (hD : drOK D) : DI s a D.1 (D.2 D.1).1 (D.2 D.1).2.1 (D.2 D.1).2.2 := by
  obtain ⟨h0, h1⟩ := h
  obtain ⟨o0, o1⟩ := hD
  obtain ⟨p1, p2⟩ := h1 D.1 (Nat.le_refl _)
  obtain ⟨q1, q2⟩ := o1 D.1 (Nat.le_refl _)
  exact ⟨h0, o0, p1, q1, fun v hv => ⟨⟨(p2 v hv).1, (q2 v hv).1⟩, (p2 v hv).2, (q2 v hv).2⟩⟩
theorem pgC.of {s s' : fm_S} {a k : Nat} {P : PG} (h : pgC s a k P) (hP : pgOK P) (e : ∀ b j, (b = a + 1 ∨ b = a + 3 + k ∨ b = a + 25 + k) → gI s' b j = gI s b j) : pgC s' a k P := ⟨by rw [e _ _ (by omega), h.1], fun v hv => ⟨by rw [e _ _ (by omega), (h.2 v hv).1], by rw [e _ _ (by omega), (h.2 v hv).2]⟩⟩
theorem drC.of {s s' : fm_S} {a : Nat} {D : DR} (h : drC s a D) (hD : drOK D) (e : ∀ b j, a ≤ b → b < a + 46 → gI s' b j = gI s b j) : drC s' a D := ⟨by rw [e _ _ (by omega) (by omega), h.1], fun k hk => by
  have := hD.1
  exact (h.2 k hk).of (hD.2 k hk) (fun b j hb => e b j (by omega) (by omega))⟩
theorem pgR.of {t t' : fm_S} {c bw bm bn : Nat} {P : PG} (h : pgR t c bw bm bn P) (e : ∀ j, gI t' c j = gI t c j) : pgR t' c bw bm bn P := ⟨by rw [e, h.1], fun v hv => ⟨by rw [e, (h.2 v hv).1], by rw [e, (h.2 v hv).2]⟩⟩
theorem drM.of {t t' : fm_S} {D : DR} (h : drM t D) (e0 : gI t' 432 62 = gI t 432 62) (e : ∀ j, gI t' 458 j = gI t 458 j) : drM t' D := ⟨by rw [e0, h.1], fun k hk => (h.2 k hk).of e⟩
theorem imM.of {t t' : fm_S} {i : Nat} {D : DR} (h : imM t i D) (e : ∀ j, gI t' 459 j = gI t 459 j) : imM t' i D := ⟨by rw [e, h.1], h.2.1.of e, fun k hk => (h.2.2 k hk).of e⟩
/-- the TAPE's bytes and length, the FAULT's place, refusals, the Diary, IMAGES -/
abbrev GS : Type := (Nat → Nat) × Nat × Int32 × Int32 × Int32 × DR × Nat × (Nat → DR)
abbrev yB (G : GS) : Nat → Nat := G.1
abbrev yL (G : GS) : Nat := G.2.1
abbrev yF (G : GS) : Int32 := G.2.2.1
abbrev yNf (G : GS) : Int32 := G.2.2.2.1
abbrev yNa (G : GS) : Int32 := G.2.2.2.2.1
abbrev yD (G : GS) : DR := G.2.2.2.2.2.1
abbrev yik (G : GS) : Nat := G.2.2.2.2.2.2.1
abbrev yIm (G : GS) : Nat → DR := G.2.2.2.2.2.2.2
def GOK (w : WD) (G : GS) : Prop := yL G ≤ 600 ∧ (∀ i, i < yL G → yB G i < 256) ∧ drOK (yD G) ∧ yik G ≤ 3 ∧ (∀ i, i < yik G → drOK (yIm G i)) ∧ (yD G).2 (yD G).1 = (wn w, wW w, wM w)
/-- what a class's cells tell beside the world -/
def CG (s : fm_S) (G : GS) : Prop := gI s 1 1 = Int32.ofNat (yL G) ∧ (∀ i, i < yL G → gI s 2 i = cb (yB G i)) ∧ drC s 5 (yD G) ∧ gI s 0 8 = Int32.ofNat (yik G) ∧ (∀ i, i < yik G → drC s (168 + 46 * i) (yIm G i)) ∧ gI s 0 9 = yF G ∧ gI s 0 10 = yNf G ∧ gI s 0 11 = yNa G
def CI (s : fm_S) (w : WD) (G : GS) (ver : Nat) : Prop := LI s w ver ∧ CG s G
def MG (t : fm_S) (G : GS) : Prop := gI t 432 2 = Int32.ofNat (yL G) ∧ (∀ i, i < yL G → gI t 434 i = Int32.ofNat (yB G i)) ∧ drM t (yD G) ∧ gI t 432 64 = Int32.ofNat (yik G) ∧ (∀ i, i < yik G → imM t i (yIm G i)) ∧ gI t 432 8 = yF G ∧ gI t 433 0 = yNf G ∧ gI t 433 1 = yNa G
def MI (t : fm_S) (w : WD) (G : GS) : Prop := FX t ∧ OMx t ∧ MW t w ∧ MG t G
def Inv (c : Nat) (s t : fm_S) : Prop := ∃ w G ver, CI s w G ver ∧ MI t w G ∧ GOK w G ∧ wOK w ∧ ver ≤ c + 1
/-- the model's cells stand -/
def CLK (s s' : fm_S) : Prop := (∀ b j, 432 ≤ b → b ≠ 460 → gI s' b j = gI s b j ∧ gJ s' b j = gJ s b j) ∧ (∀ b j, 432 ≤ b → gR s' b j = gR s b j) ∧ ((s'.2.2.2 = s.2.2.2) ∨ (s'.2.2.2 = (s.2.2.2.1 + 1, s.2.2.2.2 + 6)))
/-- the class's stand -/
def MLK (t t' : fm_S) : Prop := (∀ b j, b < 432 ∨ b = 460 → gI t' b j = gI t b j ∧ gJ t' b j = gJ t b j) ∧ (∀ b j, gR t' b j = gR t b j) ∧ t'.2.2.2 = t.2.2.2
theorem CG.of {w : WD} {s s' : fm_S} {G : GS} (h : CG s G) (hG : GOK w G) (e : ∀ b j, ((b = 0 ∧ 8 ≤ j) ∨ (b = 1 ∧ j = 1) ∨ b = 2 ∨ (5 ≤ b ∧ b < 51) ∨ (168 ≤ b ∧ b < 306)) → gI s' b j = gI s b j) : CG s' G := by
  obtain ⟨h1, h2, h3, h4, h5, h6, h7, h8⟩ := h
  obtain ⟨g1, g2, g3, g4, g5, g6⟩ := hG
  exact ⟨by rw [e _ _ (by omega), h1], fun i hi => by rw [e _ _ (by omega), h2 i hi], h3.of g3 (fun b j q1 q2 => e _ _ (by omega)), by rw [e _ _ (by omega), h4], fun i hi => (h5 i hi).of (g5 i hi) (fun b j q1 q2 => e _ _ (by omega)), by rw [e _ _ (by omega), h6], by rw [e _ _ (by omega), h7], by rw [e _ _ (by omega), h8]⟩
theorem MG.of {t t' : fm_S} {G : GS} (h : MG t G) (e : ∀ b j, (b = 432 ∧ (j = 2 ∨ j = 8 ∨ j = 62 ∨ j = 64)) ∨ b = 433 ∨ b = 434 ∨ b = 458 ∨ b = 459 → gI t' b j = gI t b j) : MG t' G := by
  obtain ⟨h1, h2, h3, h4, h5, h6, h7, h8⟩ := h
  exact ⟨by rw [e _ _ (by omega), h1], fun i hi => by rw [e _ _ (by omega), h2 i hi], h3.of (e _ _ (by omega)) (fun j => e _ _ (by omega)), by rw [e _ _ (by omega), h4], fun i hi => (h5 i hi).of (fun j => e _ _ (by omega)), by rw [e _ _ (by omega), h6], by rw [e _ _ (by omega), h7], by rw [e _ _ (by omega), h8]⟩
/-- a question to the class -/
theorem CI.q {s s' : fm_S} {w : WD} {G : GS} {ver : Nat} (h : CI s w G ver) (hG : GOK w G) (x : LQ s s' w ver) : CI s' w G ver := ⟨x.2, h.2.of hG (fun b j hb => x.1.2.1 b j (by unfold p9 HSK; omega))⟩
theorem OMx.of {t t' : fm_S} (h : OMx t) (e : ∀ b j, (b = 432 ∧ (j = 35 ∨ j = 36)) ∨ b = 451 ∨ b = 452 → gI t' b j = gI t b j) (e2 : ∀ b j, b = 453 ∨ b = 454 → gJ t' b j = gJ t b j) : OMx t' := by
  obtain ⟨l, D, h1, h2⟩ := h
  exact ⟨l, D, h1.of (e _ _ (by omega)) (fun j => e _ _ (by omega)) (fun j => e2 _ _ (by omega)), h2.of (e _ _ (by omega)) (fun j => e _ _ (by omega)) (fun j => e2 _ _ (by omega))⟩
/-- what a question to the model may touch -/
def pMx (b j : Nat) : Prop := pM b j ∨ (b = 432 ∧ j = 0)
theorem MW.x {t t' : fm_S} {w : WD} (h : MW t w) (e : ∀ b j, ¬ (pMx b j ∨ b = 433) → gI t' b j = gI t b j) : MW t' w := by
  obtain ⟨h1, h2, h3, ⟨h4, h5, h6⟩, h7, h8, h9⟩ := h
  have p : ∀ b j, (b = 436 ∨ b = 439 ∨ b = 440 ∨ (445 ≤ b ∧ b ≤ 448) ∨ b = 450 ∨ (b = 432 ∧ (j = 18 ∨ j = 19 ∨ j = 32))) → gI t' b j = gI t b j := fun b j hb => e b j (by unfold pMx pM; omega)
  refine ⟨fun i hi => by rw [p _ _ (by omega), h1 i hi], fun i hi => by rw [p _ _ (by omega), h2 i hi], by rw [p _ _ (by omega), h3], ⟨by rw [p _ _ (by omega), h4], h5, fun v hv => ?_⟩, fun q hq => ?_, by rw [p _ _ (by omega), h8], fun i hi => ?_⟩
  · obtain ⟨⟨a1, a2⟩, a3, a4⟩ := h6 v hv
    exact ⟨⟨by rw [p _ _ (by omega), a1], a2⟩, by rw [p _ _ (by omega), a3], a4⟩
  · obtain ⟨a1, a2, a3⟩ := h7 q hq
    refine ⟨by rw [p _ _ (by omega), a1], fun i hi => ?_, fun i hi => ?_⟩
    · obtain ⟨b1, b2, b3, b4⟩ := a2 i hi
      exact ⟨by rw [p _ _ (by omega), b1], by rw [p _ _ (by omega), b2], by rw [p _ _ (by omega), b3], by rw [p _ _ (by omega), b4]⟩
    · obtain ⟨b1, b2⟩ := a3 i hi
      exact ⟨by rw [p _ _ (by omega), b1], by rw [p _ _ (by omega), b2]⟩
  · obtain ⟨a1, a2, a3⟩ := h9 i hi
    exact ⟨by rw [p _ _ (by omega), a1], by rw [p _ _ (by omega), a2], by rw [p _ _ (by omega), a3]⟩
theorem MI.q {t t' : fm_S} {w : WD} {G : GS} {Q : Nat → Nat → Prop} (h : MI t w G) (x : FM pMx Q t t') (hO : OMx t') : MI t' w G := ⟨x.fx h.1, hO, h.2.2.1.x (fun b j hb => x.2.1 b j (fun q => hb (Or.inl q))), h.2.2.2.of (fun b j hb => x.2.1 b j (by unfold pMx pM; omega))⟩
theorem MI.oq {t t' : fm_S} {w : WD} {G : GS} {P : Nat → Nat → Prop} (h : MI t w G) (x : FM P nO t t') (hP : ∀ b j, P b j → pMx b j ∧ ¬ ((b = 432 ∧ (j = 35 ∨ j = 36)) ∨ b = 451 ∨ b = 452)) : MI t' w G := h.q (x.mono (fun b j q => (hP b j q).1) (fun _ _ q => q)) (h.2.1.of (fun b j hb => x.2.1 b j (fun q => (hP b j q).2 hb)) (fun b j hb => x.2.2 b j (fun q => q)))
/-- a class's cells that the world doesn't hang on may change -/
theorem CW.of2 {s s' : fm_S} {w : WD} (h : CW s w) (hw : wOK w) (e : ∀ b j, 5 ≤ b → b < 107 → ¬ HSK b j → gI s' b j = gI s b j) : CW s' w := by
  obtain ⟨h1, h2, ⟨c, h3⟩, h4, h5, h6⟩ := h
  obtain ⟨-, -, -, -, hH, hl, -⟩ := hw
  refine ⟨fun i hi => by rw [e _ _ (by omega) (by omega) (by unfold HSK; omega), h1 i hi], fun i hi => by rw [e _ _ (by omega) (by omega) (by unfold HSK; omega), h2 i hi], ⟨c, ?_⟩, fun p hp => ?_, by rw [e _ _ (by omega) (by omega) (by unfold HSK; omega), h5], fun i hi => ?_⟩
  · obtain ⟨d1, d2, d3, d4, d5⟩ := h3
    refine ⟨by rw [e _ _ (by omega) (by omega) (by unfold HSK; omega), d1], d2, by rw [e _ _ (by omega) (by omega) (by unfold HSK; omega), d3], d4, fun v hv => ?_⟩
    obtain ⟨⟨k1, k2⟩, k3, k4⟩ := d5 v hv
    exact ⟨⟨by rw [e _ _ (by omega) (by omega) (by unfold HSK; omega), k1], k2⟩, by rw [e _ _ (by omega) (by omega) (by unfold HSK; omega), k3], k4⟩
  · obtain ⟨c1, c2, c3, c4⟩ := h4 p hp
    obtain ⟨o1, o2, -⟩ := hH p hp
    have hc : hcl p = 54 ∨ hcl p = 65 ∨ hcl p = 72 ∨ hcl p = 79 ∨ hcl p = 86 ∨ hcl p = 93 ∨ hcl p = 100 := by unfold hcl; split <;> omega
    have q : ∀ b j, hcl p ≤ b → b ≤ hcl p + 5 → ¬ (b = hcl p ∧ j = 8) → gI s' b j = gI s b j := fun b j k1 k2 k3 => e b j (by omega) (by omega) (by unfold HSK; omega)
    refine ⟨by rw [q _ _ (by omega) (by omega) (by omega), c1], by rw [q _ _ (by omega) (by omega) (by omega), c2], fun i hi => ?_, fun i hi => by rw [q _ _ (by omega) (by omega) (by omega), c4 i hi]⟩
    obtain ⟨q1, q2, q3, q4⟩ := c3 i hi
    exact ⟨by rw [q _ _ (by omega) (by omega) (by omega), q1], by rw [q _ _ (by omega) (by omega) (by omega), q2], by rw [q _ _ (by omega) (by omega) (by omega), q3], by rw [q _ _ (by omega) (by omega) (by omega), q4]⟩
  · obtain ⟨q1, q2, q3⟩ := h6 i hi
    exact ⟨by rw [e _ _ (by omega) (by omega) (by unfold HSK; omega), q1], by rw [e _ _ (by omega) (by omega) (by unfold HSK; omega), q2], by rw [e _ _ (by omega) (by omega) (by unfold HSK; omega), q3]⟩
/-- the reckoner's cells stand -/
theorem OB.of {s s' : fm_S} (h : OB s) (e1 : ∀ b j, (b = 308 ∨ b = 309 ∨ (316 ≤ b ∧ b ≤ 321)) → gI s' b j = gI s b j ∧ gJ s' b j = gJ s b j) (e2 : ∀ j, j = 8 ∨ j = 9 → gR s' 307 j = gR s 307 j) : OB s' := by
  obtain ⟨h1, D, h2⟩ := h
  exact ⟨h1.of (fun j => ⟨(e1 _ _ (by omega)).1, (e1 _ _ (by omega)).1⟩), D, h2.of (fun b j q => e1 b j (by omega)) e2⟩
theorem LI.of {s s' : fm_S} {w : WD} {ver : Nat} (h : LI s w ver) (hF : FX s') (e : ∀ b j, 5 ≤ b → b < 107 → ¬ HSK b j → gI s' b j = gI s b j) (e1 : ∀ b j, (306 ≤ b ∧ b < 428) → gI s' b j = gI s b j ∧ gJ s' b j = gJ s b j) (e2 : ∀ j, j = 8 ∨ j = 9 → gR s' 307 j = gR s 307 j) : LI s' w ver := by
  obtain ⟨h1, h2, h3, h4, h5⟩ := h
  exact ⟨hF, h2.of (fun b j hb => e1 _ _ (by omega)) e2, h3.of2 h4 e, h4, h5.of h4 (fun j => (e1 _ _ (by omega)).1) (fun j => (e1 _ _ (by omega)).1) (fun j => (e1 _ _ (by omega)).1) (fun b j hb => (e1 _ _ (by omega)).2)⟩
theorem CLK.rf {s : fm_S} : CLK s s := ⟨fun _ _ _ _ => ⟨rfl, rfl⟩, fun _ _ _ => rfl, Or.inl rfl⟩
theorem MLK.rf {s : fm_S} : MLK s s := ⟨fun _ _ _ => ⟨rfl, rfl⟩, fun _ _ => rfl, rfl⟩
theorem MLK.tr {a b c : fm_S} (h : MLK a b) (k : MLK b c) : MLK a c := ⟨fun x j q => ⟨(k.1 x j q).1.trans (h.1 x j q).1, (k.1 x j q).2.trans (h.1 x j q).2⟩, fun x j => (k.2.1 x j).trans (h.2.1 x j), k.2.2.trans h.2.2⟩
theorem FM.mlk {P Q : Nat → Nat → Prop} {t t' : fm_S} (x : FM P Q t t') (hP : ∀ b j, P b j → 432 ≤ b ∧ b ≠ 460) (hQ : ∀ b j, Q b j → 432 ≤ b ∧ b ≠ 460) : MLK t t' := ⟨fun b j h => ⟨x.2.1 b j (fun q => by have := hP b j q; omega), x.2.2 b j (fun q => by have := hQ b j q; omega)⟩, fun b j => x.gR b j, by rw [x.1]⟩
theorem LQ.clk {s s' : fm_S} {w : WD} {ver : Nat} (x : LQ s s' w ver) : CLK s s' := ⟨fun b j h1 h2 => ⟨x.1.2.1 b j (by unfold p9 HSK; omega), x.1.2.2.1 b j (by unfold q9; omega)⟩, fun b j h => x.1.2.2.2 b j (by unfold r9 rsw; omega), Or.inl x.1.1⟩
theorem FM.clk {P Q : Nat → Nat → Prop} {s s' : fm_S} (x : FM P Q s s') (hP : ∀ b j, P b j → b < 432 ∨ b = 460) (hQ : ∀ b j, Q b j → b < 432 ∨ b = 460) : CLK s s' := ⟨fun b j h1 h2 => ⟨x.2.1 b j (fun q => by have := hP b j q; omega), x.2.2 b j (fun q => by have := hQ b j q; omega)⟩, fun b j _ => x.gR b j, Or.inl (by rw [x.1])⟩
theorem CLK.tr {a b c : fm_S} (h : CLK a b) (k : CLK b c) (e : a.2.2.2 = b.2.2.2 ∨ b.2.2.2 = c.2.2.2) : CLK a c := ⟨fun x j q r => ⟨(k.1 x j q r).1.trans (h.1 x j q r).1, (k.1 x j q r).2.trans (h.1 x j q r).2⟩, fun x j q => (k.2.1 x j q).trans (h.2.1 x j q), by
  rcases e with e | e
  · rw [e]; exact k.2.2
  · rw [← e]; exact h.2.2⟩
