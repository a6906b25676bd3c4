/-! a unit in brackets -/
theorem PF.bad2 {B : Nat → Nat} {e n p o k q b c : Nat} {s t : fm_S} (h : PF B e n p o s t) (he : e ≤ 150) (hk : 0 < k ∧ k < 10) (hq : q ≤ 600) (hb : b ≤ e) (hc : c ≤ e) : PB B e o (flt (pI s 1 5 (Int32.ofNat b)) k q) (mflt (pI t 432 4 (Int32.ofNat c)) k q) := by
  obtain ⟨h1, h2, h3, h4, h5, h6⟩ := h.bad (c := c) (k := k) (q := q) he hk hq hc
  obtain ⟨g1, ⟨a, g2⟩, g3, g4⟩ := h1
  have e0 : ∀ x j, ¬ (x = 1 ∧ j = 5) → gI (flt (pI s 1 5 (Int32.ofNat b)) k q) x j = gI (flt (pI s 1 5 (Int32.ofNat p)) k q) x j := fun x j hx => by
    unfold flt
    rw [gI_pI, gI_pI, gI_pI, gI_pI, gI_pI, gI_pI, if_neg hx, if_neg hx]
  refine ⟨⟨g1.of rfl, ⟨b, ?_, ?_, hb, g2.2.2.2.1, fun i hi => ?_⟩, ?_, ?_⟩, h2, h3, h4, ?_, ?_, h6.2⟩
  · rw [e0 1 4 (by decide)]; exact g2.1
  · simp [flt, gI_pI]
  · rw [e0 2 i (by omega)]; exact g2.2.2.2.2 i hi
  · rw [e0 1 2 (by decide)]; exact g3
  · rw [e0 156 6 (by decide)]; exact g4
  · rw [e0 1 2 (by decide)]; exact h5
  · rw [e0 1 3 (by decide)]; exact h6.1
theorem PF.opn {B : Nat → Nat} {e n p o o2 : Nat} {s t : fm_S} (h : PF B e n p o s t) : PF B e n p o2 s (pI t 432 7 (Int32.ofNat o2)) := by
  obtain ⟨h1, h2, h3, ⟨c, h4, h4'⟩, h5, h6, h7, h8, h9, hA, hB⟩ := h
  obtain ⟨w1, w2, w3, w4, w5⟩ := h4
  refine ⟨h1, h2.pI, h3, ⟨c, ⟨?_, ?_, w3, w4, fun i hi => ?_⟩, h4'⟩, h5, ?_, h7, ?_, ?_, hA, ?_⟩
  · simpa [gI_pI] using w1
  · simpa [gI_pI] using w2
  · simpa [gI_pI] using w5 i hi
  · simpa [gI_pI] using h6
  · simpa [gI_pI] using h8
  · simp [gI_pI]
  · simpa [gI_pI] using hB
theorem PB.opn {B : Nat → Nat} {e o o2 : Nat} {s t : fm_S} (h : PB B e o s t) : PB B e o2 s (pI t 432 7 (Int32.ofNat o2)) := by
  obtain ⟨h1, h2, ⟨c, h3⟩, h4, h5, h6, h7⟩ := h
  obtain ⟨w1, w2, w3, w4, w5⟩ := h3
  refine ⟨h1, h2.pI, ⟨c, ⟨?_, ?_, w3, w4, fun i hi => ?_⟩⟩, ?_, ?_, ?_, ?_⟩
  · simpa [gI_pI] using w1
  · simpa [gI_pI] using w2
  · simpa [gI_pI] using w5 i hi
  · simpa [gI_pI] using h4
  · simpa [gI_pI] using h5
  · simpa [gI_pI] using h6
  · simp [gI_pI]
theorem MR.opn {s : fm_S} {v : Int32} : MR s (pI s 432 7 v) := ⟨rfl, fun x j h1 h2 h3 => by rw [gI_pI, if_neg (fun q => (h3 q.1).2.2.2.1 q.2)]⟩
