/-! any text, read by both: the same place, or refused alike -/
def QF (B : Nat → Nat) (e p : Nat) (s t : fm_S) : Prop := FX s ∧ FX t ∧ (∃ b, CT s B e b ∧ skp B e b = p) ∧ (∃ c, MT t B e c ∧ skp B e c = p) ∧ (gI s 1 2 = 0 ∧ gI s 1 3 = -1) ∧ gI t 432 5 = -1
def QB (B : Nat → Nat) (e : Nat) (s t : fm_S) : Prop := FX s ∧ FX t ∧ (∃ a, CU s B e a) ∧ (∃ c, MT t B e c) ∧ gI s 1 2 ≠ 0 ∧ gI t 432 5 ≠ -1 ∧ gI t 432 6 = gI s 1 2 ∧ gI t 432 5 = gI s 1 3
/-- what reading the tape changes -/
def CQ (s s' : fm_S) : Prop := s'.2 = s.2 ∧ ∀ b j, ¬ (b = 1 ∧ (j = 2 ∨ j = 3 ∨ j = 5)) → gI s' b j = gI s b j
def Mq (t t' : fm_S) : Prop := t'.2 = t.2 ∧ ∀ b j, ¬ (b = 432 ∧ (j = 4 ∨ j = 5 ∨ j = 6)) → gI t' b j = gI t b j
theorem CQ.rf {s : fm_S} : CQ s s := ⟨rfl, fun _ _ _ => rfl⟩
theorem Mq.rf {s : fm_S} : Mq s s := ⟨rfl, fun _ _ _ => rfl⟩
theorem CQ.tr {a b c : fm_S} (h : CQ a b) (k : CQ b c) : CQ a c := ⟨k.1.trans h.1, fun x j q => (k.2 x j q).trans (h.2 x j q)⟩
theorem Mq.tr {a b c : fm_S} (h : Mq a b) (k : Mq b c) : Mq a c := ⟨k.1.trans h.1, fun x j q => (k.2 x j q).trans (h.2 x j q)⟩
theorem CQ.at {s : fm_S} {v : Int32} : CQ s (pI s 1 5 v) := ⟨rfl, fun x j h => by rw [gI_pI, if_neg (by omega)]⟩
theorem Mq.at {s : fm_S} {v : Int32} : Mq s (pI s 432 4 v) := ⟨rfl, fun x j h => by rw [gI_pI, if_neg (by omega)]⟩
theorem CQ.bad {s : fm_S} {k p : Nat} : CQ s (flt s k p) := ⟨rfl, fun x j h => by
  unfold flt
  rw [gI_pI, if_neg (by omega), gI_pI, if_neg (by omega)]⟩
theorem Mq.bad {s : fm_S} {k p : Nat} : Mq s (mflt s k p) := ⟨rfl, fun x j h => by
  unfold mflt
  rw [gI_pI, if_neg (by omega), gI_pI, if_neg (by omega)]⟩
theorem CQ.fm {P : Nat → Nat → Prop} {s s' : fm_S} (h : CQ s s') (hP : ∀ b j, b = 1 ∧ (j = 2 ∨ j = 3 ∨ j = 5) → P b j) : FM P nO s s' := ⟨by rw [h.1], fun b j q => h.2 b j (fun x => q (hP b j x)), fun b j _ => by show s'.2.1 b j = s.2.1 b j; rw [h.1]⟩
theorem Mq.fm {P : Nat → Nat → Prop} {s s' : fm_S} (h : Mq s s') (hP : ∀ b j, b = 432 ∧ (j = 4 ∨ j = 5 ∨ j = 6) → P b j) : FM P nO s s' := ⟨by rw [h.1], fun b j q => h.2 b j (fun x => q (hP b j x)), fun b j _ => by show s'.2.1 b j = s.2.1 b j; rw [h.1]⟩
theorem CQ.fx {s s' : fm_S} (h : CQ s s') (hF : FX s) : FX s' := hF.of (by rw [h.1])
theorem Mq.fx {s s' : fm_S} (h : Mq s s') (hF : FX s) : FX s' := hF.of (by rw [h.1])
section QT
variable {g : fm_g} {d : Nat} {B : Nat → Nat} {e p : Nat} {s t : fm_S}
theorem QF.le (h : QF B e p s t) : p ≤ e ∧ skp B e p = p ∧ e ≤ 600 := by
  obtain ⟨-, -, ⟨b, h1, rfl⟩, -⟩ := h
  exact ⟨(skp_le h1.2.2.1).2, skp_skp, h1.2.2.2.1⟩
theorem QF.sat (h : QF B e p s t) : QF B e p (pI s 1 5 (Int32.ofNat p)) t := by
  obtain ⟨q1, q2, q3⟩ := h.le
  obtain ⟨h1, h2, ⟨b, h3, h3'⟩, h4, h5, h6⟩ := h
  exact ⟨h1.pI, h2, ⟨p, h3.at q1, q2⟩, h4, by simpa [gI_pI] using h5, h6⟩
theorem QF.mat (h : QF B e p s t) : QF B e p s (pI t 432 4 (Int32.ofNat p)) := by
  obtain ⟨q1, q2, q3⟩ := h.le
  obtain ⟨h1, h2, h3, ⟨c, h4, h4'⟩, h5, h6⟩ := h
  exact ⟨h1, h2.pI, h3, ⟨p, h4.at q1, q2⟩, h5, by simpa [gI_pI] using h6⟩
theorem QF.fwd {q : Nat} (h : QF B e p s t) (hqe : q ≤ e) : QF B e (skp B e q) (pI s 1 5 (Int32.ofNat (skp B e q))) (pI t 432 4 (Int32.ofNat q)) := by
  obtain ⟨h1, h2, ⟨b, h3, h3'⟩, ⟨c, h4, h4'⟩, h5, h6⟩ := h
  exact ⟨h1.pI, h2.pI, ⟨q, h3.to hqe, rfl⟩, ⟨q, h4.at hqe, rfl⟩, by simpa [gI_pI] using h5, by simpa [gI_pI] using h6⟩
/-- both refuse -/
theorem QF.bad {k q b c : Nat} (h : QF B e p s t) (hk : 0 < k ∧ k < 10) (hq : q ≤ 600) (hb : b ≤ e) (hc : c ≤ e) : QB B e (flt (pI s 1 5 (Int32.ofNat b)) k q) (mflt (pI t 432 4 (Int32.ofNat c)) k q) := by
  obtain ⟨h1, h2, ⟨b', h3, h3'⟩, ⟨c', h4, h4'⟩, h5, h6⟩ := h
  obtain ⟨u1, u2, u3, u4, u5⟩ := h3.cu.at hb
  obtain ⟨w1, w2, w3, w4, w5⟩ := h4.at hc
  refine ⟨h1.of rfl, h2.of rfl, ⟨b, ⟨?_, ?_, u3, u4, fun i hi => ?_⟩⟩, ⟨c, ⟨?_, ?_, w3, w4, fun i hi => ?_⟩⟩, ?_, ?_, ?_, ?_⟩
  · simpa [flt, gI_pI] using u1
  · simpa [flt, gI_pI] using u2
  · simpa [flt, gI_pI] using u5 i hi
  · simpa [mflt, gI_pI] using w1
  · simpa [mflt, gI_pI] using w2
  · simpa [mflt, gI_pI] using w5 i hi
  · rw [show gI (flt (pI s 1 5 (Int32.ofNat b)) k q) 1 2 = Int32.ofNat k by simp [flt, gI_pI], ne_eq, n32_eq0 (by omega)]
    omega
  · rw [show gI (mflt (pI t 432 4 (Int32.ofNat c)) k q) 432 5 = Int32.ofNat q by simp [mflt, gI_pI], ne_eq, n32_neg (by omega)]
    exact id
  · simp [mflt, flt, gI_pI]
  · simp [mflt, flt, gI_pI]
/-- in a text that both have refused nothing else is changed -/
theorem QB.of {s' t' : fm_S} (h : QB B e s t) (hs : s'.2 = s.2 ∧ ∀ b j, ((b = 1 ∧ j ≠ 0 ∧ j ≠ 5) ∨ b = 2) → gI s' b j = gI s b j) (h5 : ∃ a, a ≤ e ∧ gI s' 1 5 = Int32.ofNat a) (ht : t'.2 = t.2 ∧ ∀ b j, ((b = 432 ∧ (j = 3 ∨ j = 5 ∨ j = 6)) ∨ b = 434) → gI t' b j = gI t b j) (h4 : ∃ a, a ≤ e ∧ gI t' 432 4 = Int32.ofNat a) : QB B e s' t' := by
  obtain ⟨h1, h2, ⟨b, u1, u2, u3, u4, u5⟩, ⟨c, w1, w2, w3, w4, w5⟩, g1, g2, g3, g4⟩ := h
  obtain ⟨a, a1, a2⟩ := h5
  obtain ⟨a', b1, b2⟩ := h4
  refine ⟨h1.of (by rw [hs.1]), h2.of (by rw [ht.1]), ⟨a, ⟨?_, a2, a1, u4, fun i hi => ?_⟩⟩, ⟨a', ⟨?_, b2, b1, w4, fun i hi => ?_⟩⟩, ?_, ?_, ?_, ?_⟩
  · rw [hs.2 _ _ (by omega), u1]
  · rw [hs.2 _ _ (by omega)]; exact u5 i hi
  · rw [ht.2 _ _ (by omega), w1]
  · rw [ht.2 _ _ (by omega)]; exact w5 i hi
  · rw [hs.2 _ _ (by omega)]; exact g1
  · rw [ht.2 _ _ (by omega)]; exact g2
  · rw [ht.2 _ _ (by omega), hs.2 _ _ (by omega)]; exact g3
  · rw [ht.2 _ _ (by omega), hs.2 _ _ (by omega)]; exact g4
theorem QF.of {s' t' : fm_S} (h : QF B e p s t) (hs : s'.2 = s.2 ∧ ∀ b j, ((b = 1 ∧ j ≠ 0) ∨ b = 2) → gI s' b j = gI s b j) (ht : t'.2 = t.2 ∧ ∀ b j, ((b = 432 ∧ (j = 3 ∨ j = 4 ∨ j = 5 ∨ j = 6)) ∨ b = 434) → gI t' b j = gI t b j) : QF B e p s' t' := by
  obtain ⟨h1, h2, ⟨b, ⟨u1, u2, u3, u4, u5⟩, h3'⟩, ⟨c, ⟨w1, w2, w3, w4, w5⟩, h4'⟩, g1, g2⟩ := h
  refine ⟨h1.of (by rw [hs.1]), h2.of (by rw [ht.1]), ⟨b, ⟨?_, ?_, u3, u4, fun i hi => ?_⟩, h3'⟩, ⟨c, ⟨?_, ?_, w3, w4, fun i hi => ?_⟩, h4'⟩, ?_, ?_⟩
  · rw [hs.2 _ _ (by omega), u1]
  · rw [hs.2 _ _ (by omega), u2]
  · rw [hs.2 _ _ (by omega)]; exact u5 i hi
  · rw [ht.2 _ _ (by omega), w1]
  · rw [ht.2 _ _ (by omega), w2]
  · rw [ht.2 _ _ (by omega)]; exact w5 i hi
  · rw [hs.2 _ _ (by omega), hs.2 _ _ (by omega)]; exact g1
  · rw [ht.2 _ _ (by omega)]; exact g2
theorem QB.sat {b : Nat} (h : QB B e s t) (hb : b ≤ e) : QB B e (pI s 1 5 (Int32.ofNat b)) t := by
  have h4 := h.2.2.2.1
  obtain ⟨c, h4⟩ := h4
  exact h.of ⟨rfl, fun x j q => by rw [gI_pI, if_neg (by omega)]⟩ ⟨b, hb, by simp [gI_pI]⟩ ⟨rfl, fun _ _ _ => rfl⟩ ⟨c, h4.2.2.1, h4.2.1⟩
theorem QB.mat {b : Nat} (h : QB B e s t) (hb : b ≤ e) : QB B e s (pI t 432 4 (Int32.ofNat b)) := by
  have h4 := h.2.2.1
  obtain ⟨c, h4⟩ := h4
  exact h.of ⟨rfl, fun _ _ _ => rfl⟩ ⟨c, h4.2.2.1, h4.2.1⟩ ⟨rfl, fun x j q => by rw [gI_pI, if_neg (by omega)]⟩ ⟨b, hb, by simp [gI_pI]⟩
/-- a number -/
theorem q_num {lo : Nat} {hi : Int32} (h : QF B e p s t) (hlo : lo < 1000) (hhi : hi.toInt < 1000) : ∃ v w s' t', (∀ d, ev g (d + 1) mX9_takeNumber 0 [some (.ref (1 : Nat)), some (.int (Int32.ofNat lo)), some (.int hi), none, none, none] [] s = some (.inl (some (.int v)), s')) ∧ (∀ d, ev g (d + 1) mX12_readNumber 0 [some (.ref (432 : Nat)), some (.int (Int32.ofNat lo)), some (.int hi), none, none, none] [] t = some (.inl (some (.int w)), t')) ∧ CQ s s' ∧ Mq t t' ∧ ((∃ q x, p < q ∧ lo ≤ x ∧ (x : Int) ≤ hi.toInt ∧ v = Int32.ofNat x ∧ w = Int32.ofNat x ∧ QF B e q s' t') ∨ (v = Int32.ofNat lo ∧ w = Int32.ofNat 0 ∧ QB B e s' t')) := by
  obtain ⟨q1, q2, q3⟩ := h.le
  obtain ⟨h1, h2, ⟨b, h3, h3'⟩, ⟨c, h4, h4'⟩, h5, h6⟩ := id h
  have hc := fun d => c9_takeNumber (g := g) (d := d) (lo := lo) (hi := hi) h1 h3 h5.1 hlo hhi
  have hm := fun d => m_readNumber (g := g) (d := d) (lo := lo) (hi := hi) h2 h4 h6 hlo hhi
  rw [h3'] at hc
  rw [h4'] at hm
  have hR := numR_le (B := B) (e := e) (p := p) (acc := 0) q1 (by omega)
  by_cases c1 : p < e ∧ isD (B p)
  · have hlt := numR_lt (acc := 0) c1 (by omega)
    obtain ⟨r1, r2⟩ := numM_R (B := B) (e := e) (p := p) (c := 0) (m := 0) (Or.inl ⟨rfl, by omega⟩)
    rw [if_neg (by omega)] at hc
    rw [if_neg (fun h9 => h9 c1), ← r1] at hm
    generalize numR B e p 0 = u at *
    generalize numM B e p 0 = w at *
    by_cases c2 : u.1 < lo ∨ hi.toInt < (u.1 : Int)
    · rw [if_pos c2] at hc
      rw [if_pos (by omega)] at hm
      exact ⟨_, _, _, _, hc, hm, CQ.at.tr CQ.bad, Mq.at.tr Mq.bad, Or.inr ⟨rfl, rfl, h.bad (by omega) (by omega) (by omega) (by omega)⟩⟩
    · rw [if_neg c2] at hc
      rw [if_neg (by omega)] at hm
      have hw : w.1 = u.1 := by omega
      rw [hw] at hm
      refine ⟨_, _, _, _, hc, hm, CQ.at, Mq.at, Or.inl ⟨_, u.1, ?_, by omega, by omega, rfl, rfl, h.fwd (q := u.2) (by omega)⟩⟩
      have := skp_le (B := B) (e := e) (a := u.2) (by omega)
      omega
  · have heq : numR B e p 0 = (0, p) := by rw [numR, dif_neg c1]
    rw [if_pos (by rw [heq])] at hc
    rw [if_pos c1] at hm
    exact ⟨_, _, _, _, hc, hm, CQ.at.tr CQ.bad, Mq.at.tr Mq.bad, Or.inr ⟨rfl, rfl, h.bad (by omega) (by omega) (by omega) (by omega)⟩⟩
theorem q_num' {lo : Nat} {hi : Int32} (h : QB B e s t) (hlo : lo < 1000) : ∃ s', (∀ d, ev g (d + 1) mX9_takeNumber 0 [some (.ref (1 : Nat)), some (.int (Int32.ofNat lo)), some (.int hi), none, none, none] [] s = some (.inl (some (.int (Int32.ofNat lo))), s')) ∧ (∀ d, ev g (d + 1) mX12_readNumber 0 [some (.ref (432 : Nat)), some (.int (Int32.ofNat lo)), some (.int hi), none, none, none] [] t = some (.inl (some (.int (Int32.ofNat 0))), t)) ∧ CQ s s' ∧ QB B e s' t := by
  obtain ⟨h1, h2, ⟨b, h3⟩, ⟨c, h4⟩, g1, g2, g3, g4⟩ := id h
  exact ⟨_, fun d => c9_takeNumber' h1 h3 g1 hlo, fun d => m_readNumber' g2, CQ.rf, h⟩
/-- a sign that is due -/
theorem q_sgn {k : Nat} (h : QF B e p s t) (hk : 0 < k ∧ k < 128) : ∃ s' t', (∀ d, ev g (d + 3) mX9_needSign 0 [some (.ref (1 : Nat)), some (.int (Int32.ofNat k))] [] s = some (.inl none, s')) ∧ (∀ d, ev g (d + 1) mX12_sign 0 [some (.ref (432 : Nat)), some (.int (Int32.ofNat k))] [] t = some (.inl none, t')) ∧ CQ s s' ∧ Mq t t' ∧ ((∃ q, p < q ∧ QF B e q s' t') ∨ QB B e s' t') := by
  obtain ⟨q1, q2, q3⟩ := h.le
  obtain ⟨h1, h2, ⟨b, h3, h3'⟩, ⟨c, h4, h4'⟩, h5, h6⟩ := id h
  have hc := fun d => c9_needSign (g := g) (d := d) (k := k) h1 h3 h5.1 hk.2
  have hm := fun d => m_sign (g := g) (d := d) (k := k) h2 h4 h6 hk
  rw [h3'] at hc
  rw [h4'] at hm
  by_cases c1 : p < e ∧ B p = k
  · rw [if_pos c1] at hc hm
    have := skp_le (B := B) (e := e) (a := p + 1) (by omega)
    exact ⟨_, _, hc, hm, CQ.at, Mq.at, Or.inl ⟨_, by omega, h.fwd (q := p + 1) (by omega)⟩⟩
  · rw [if_neg c1] at hc hm
    exact ⟨_, _, hc, hm, CQ.at.tr CQ.bad, Mq.at.tr Mq.bad, Or.inr (h.bad (by omega) (by omega) (by omega) (by omega))⟩
theorem q_sgn' {k : Int32} (h : QB B e s t) : (∀ d, ev g (d + 3) mX9_needSign 0 [some (.ref (1 : Nat)), some (.int k)] [] s = some (.inl none, s)) ∧ (∀ d, ev g (d + 1) mX12_sign 0 [some (.ref (432 : Nat)), some (.int k)] [] t = some (.inl none, t)) := by
  obtain ⟨h1, h2, ⟨b, h3⟩, ⟨c, h4⟩, g1, g2, g3, g4⟩ := id h
  exact ⟨fun d => c9_needSign' g1, fun d => m_sign' g2⟩
/-- a word of a list, by its letters and by its code -/
theorem q_wd {k : Nat} {ws : List (List Nat)} (h : QF B e p s t) (hw : lit k (flatW ws)) (hv : ∀ v ∈ ws, v ≠ [] ∧ ∀ c ∈ v, c ≠ 32) : (∀ d, ev g (d + 5) mX9_takeWordOf 0 [some (.ref (1 : Nat)), some (.retAddr k), none, none, none, none] [] s = match wix ws (runR B p (letR B e p)) with
    | some j => some (.inl (some (.int (Int32.ofNat j))), pI s 1 5 (Int32.ofNat (skp B e (letR B e p))))
    | none => some (.inl (some (.int (-1))), pI s 1 5 (Int32.ofNat p))) ∧ (∀ d, ev g (d + 1) mX12_word 0 [some (.ref (432 : Nat)), none, none, none] [] t = some (.inl (some (.int (Int32.ofNat (wv B p (letR B e p))))), pI t 432 4 (Int32.ofNat p))) ∧ (∀ d, ev g (d + 1) mX12_pass 0 [some (.ref (432 : Nat))] [] (pI t 432 4 (Int32.ofNat p)) = some (.inl none, pI t 432 4 (Int32.ofNat (letR B e p)))) ∧ p ≤ letR B e p ∧ letR B e p ≤ e ∧ wv B p (letR B e p) < 1073741824 := by
  obtain ⟨q1, q2, q3⟩ := h.le
  obtain ⟨h1, h2, ⟨b, h3, h3'⟩, ⟨c, h4, h4'⟩, h5, h6⟩ := id h
  have hlr := letR_le (B := B) q1
  refine ⟨fun d => ?_, fun d => ?_, fun d => ?_, hlr.1, hlr.2, wv_lt letR_L⟩
  · have k3 := c9_takeWordOf (g := g) (d := d) hw hv h1 h3 h5.1
    rw [h3'] at k3
    exact k3
  · have m2 := m_word (g := g) (d := d) h2 h4
    rw [h4'] at m2
    exact m2
  · have m3 := m_pass (g := g) (d := d) h.mat.2.1 (h4.at q1)
    rw [pI_pI] at m3
    exact m3
/-- one word, in its code -/
theorem q_code {w : List Nat} (hl : ∀ c ∈ w, isL c) (h0 : w ≠ []) (h6 : w.length ≤ 6) : ((Int32.ofNat (wv B p (letR B e p)) = Int32.ofNat (cod w)) = (w = runR B p (letR B e p))) := by
  have hv := wv_lt (B := B) (p := p) (k := letR B e p) letR_L
  have hc : cod w < 1073741824 := by
    have h8 := cod_lt w hl
    have h9 : 32 ^ w.length ≤ 32 ^ 6 := Nat.pow_le_pow_right (by decide) h6
    omega
  rw [n32_eq (by omega) (by omega), wv_eq hl h0 h6]
theorem run_lt {w : List Nat} (hr : w = runR B p (letR B e p)) (h0 : w ≠ []) : letR B e p = p + w.length ∧ p < letR B e p ∧ p < e ∧ isL (B p) := by
  have h7 : letR B e p - p = w.length := by
    have := congrArg List.length hr
    rw [runR_len] at this
    exact this.symm
  have h8 : 0 < w.length := List.length_pos_iff.mpr h0
  refine ⟨by omega, by omega, ?_⟩
  rcases Classical.em (p < e ∧ isL (B p)) with h0 | h0
  · exact h0
  · rw [letR_none h0] at h7; omega
theorem wix_run {ws : List (List Nat)} {j : Nat} (hv : ∀ v ∈ ws, v ≠ []) (h : wix ws (runR B p (letR B e p)) = some j) : j < ws.length ∧ p < letR B e p ∧ p < e := by
  obtain ⟨h1, h2⟩ := wix_some h
  obtain ⟨h3, h4, h5, h6⟩ := run_lt (w := runR B p (letR B e p)) rfl (hv _ h2)
  exact ⟨h1, h4, h5⟩
/-- whether there is more -/
theorem q_more (h : QF B e p s t) : (∀ d, ev g (d + 1) mX9_goesOn 0 [some (.ref (1 : Nat))] [] s = some (.inl (some (.int (bi (p < e)))), pI s 1 5 (Int32.ofNat p))) ∧ (∀ d, ev g (d + 1) mX12_isMore 0 [some (.ref (432 : Nat))] [] t = some (.inl (some (.int (bi (p < e)))), pI t 432 4 (Int32.ofNat p))) := by
  obtain ⟨h1, h2, ⟨b, h3, h3'⟩, ⟨c, h4, h4'⟩, h5, h6⟩ := id h
  refine ⟨fun d => ?_, fun d => ?_⟩
  · have := c9_goesOn (g := g) (d := d) h1 h3 h5.1
    rw [h3'] at this
    exact this
  · have := m_isMore (g := g) (d := d) h2 h4
    rw [h4'] at this
    exact this
theorem q_next (h : QF B e p s t) : ∀ d, ev g d mX9_nextPlace 0 [some (.ref (1 : Nat))] [] s = some (.inl (some (.int (Int32.ofNat p))), pI s 1 5 (Int32.ofNat p)) := by
  obtain ⟨h1, h2, ⟨b, h3, h3'⟩, -⟩ := id h
  intro d
  have := c9_nextPlace (g := g) (d := d) h1 h3
  rw [h3'] at this
  exact this
end QT
