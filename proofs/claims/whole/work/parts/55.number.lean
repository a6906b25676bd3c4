/-! a number, read by both -/
theorem numR_lt {B : Nat → Nat} {e p acc : Nat} (h : p < e ∧ isD (B p)) (ha : acc ≤ 100000) : p < (numR B e p acc).2 := by
  rw [numR, dif_pos h]
  have := (numR_le (B := B) (e := e) (p := p + 1) (acc := if acc * 10 + B p - 48 < 100000 then acc * 10 + B p - 48 else 100000) (by omega) (by split <;> omega)).1
  omega
theorem pf_number {g : fm_g} {d : Nat} {B : Nat → Nat} {e n p o lo hi : Nat} {s t : fm_S} (h : PF B e n p o s t) (he : e ≤ 150) (hlo : lo < 1000) (hhi : hi < 1000) (hlh : lo ≤ hi) : ∃ v w s' t', ev g (d + 1) mX9_takeNumber 0 [some (.ref (1 : Nat)), some (.int (Int32.ofNat lo)), some (.int (Int32.ofNat hi)), none, none, none] [] s = some (.inl (some (.int v)), s') ∧ ev g (d + 1) mX12_readNumber 0 [some (.ref (432 : Nat)), some (.int (Int32.ofNat lo)), some (.int (Int32.ofNat hi)), none, none, none] [] t = some (.inl (some (.int w)), t') ∧ CS s s' ∧ MR t t' ∧ gI t' 441 = gI t 441 ∧ ((∃ q x, p < q ∧ lo ≤ x ∧ x ≤ hi ∧ v = Int32.ofNat x ∧ w = Int32.ofNat x ∧ PF B e n q o s' t') ∨ (v = Int32.ofNat lo ∧ PB B e o s' t')) := by
  obtain ⟨q1, q2, q3⟩ := h.ple
  obtain ⟨h1, h2, ⟨b, h3, h3'⟩, ⟨c, h4, h4'⟩, h5, h6, -⟩ := id h
  have hti : (Int32.ofNat hi).toInt = (hi : Int) := n32_toInt (by omega)
  have hc := c9_takeNumber (g := g) (d := d) (lo := lo) (hi := Int32.ofNat hi) h1 h3 h5 hlo (by rw [hti]; omega)
  have hm := m_readNumber (g := g) (d := d) (lo := lo) (hi := Int32.ofNat hi) h2 h4 h6 hlo (by rw [hti]; omega)
  rw [h3', hti] at hc
  rw [h4', hti] at hm
  have hR := numR_le (B := B) (e := e) (p := p) (acc := 0) q1 (by omega)
  by_cases c1 : p < e ∧ isD (B p)
  · have hlt := numR_lt (acc := 0) c1 (by omega)
    obtain ⟨r1, r2⟩ := numM_R (B := B) (e := e) (p := p) (c := 0) (m := 0) (Or.inl ⟨rfl, by omega⟩)
    rw [if_neg (by omega)] at hc
    rw [if_neg (fun h9 => h9 c1), ← r1] at hm
    generalize numR B e p 0 = u at *
    generalize numM B e p 0 = w at *
    by_cases c2 : u.1 < lo ∨ (hi : Int) < (u.1 : Int)
    · rw [if_pos c2] at hc
      rw [if_pos (by omega)] at hm
      exact ⟨_, _, _, _, hc, hm, CS.at.tr CS.bad, MR.at.tr MR.bad, by unfold mflt; rw [g441, g441, g441], Or.inr ⟨rfl, h.bad he (by omega) (by omega) (by omega)⟩⟩
    · rw [if_neg c2] at hc
      rw [if_neg (by omega)] at hm
      have hw : w.1 = u.1 := by omega
      rw [hw] at hm
      refine ⟨_, _, _, _, hc, hm, CS.at, MR.at, g441, Or.inl ⟨_, u.1, ?_, by omega, by omega, rfl, rfl, h.fwd (q := u.2) (by omega) (by omega)⟩⟩
      have := skp_le (B := B) (e := e) (a := u.2) (by omega)
      omega
  · have heq : numR B e p 0 = (0, p) := by rw [numR, dif_neg c1]
    rw [if_pos (by rw [heq])] at hc
    rw [if_pos c1] at hm
    exact ⟨_, _, _, _, hc, hm, CS.at.tr CS.bad, MR.at.tr MR.bad, by unfold mflt; rw [g441, g441, g441], Or.inr ⟨rfl, h.bad he (by omega) (by omega) (by omega)⟩⟩
