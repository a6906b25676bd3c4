/-! one call of the law: the class's, then the model's behind it -/
section CS0
variable {g : fm_g} {D c : Nat} {u s t : fm_S}
theorem MI.clk {w : WD} {G : GS} (h : MI t w G) (x : CLK t s) (hF : FX s) : MI s w G := ⟨hF, h.2.1.of (fun b j hb => (x.1 b j (by omega) (by omega)).1) (fun b j hb => (x.1 b j (by omega) (by omega)).2), h.2.2.1.y (fun b j hb => (x.1 b j (by omega) (by omega)).1), h.2.2.2.of (fun b j hb => (x.1 b j (by omega) (by omega)).1)⟩
theorem CI.mlk {w : WD} {G : GS} {ver : Nat} (h : CI s w G ver) (hG : GOK w G) (x : MLK s t) (hF : FX t) : CI t w G ver := ⟨h.1.of hF (fun b j k1 k2 k3 => (x.1 b j (by omega)).1) (fun b j hb => x.1 b j (by omega)) (fun j _ => x.2.1 307 j), h.2.of hG (fun b j hb => (x.1 b j (by omega)).1)⟩
/-- the counters: none or one more refusal -/
def CNT (u t : fm_S) : Prop := t.2.2.2 = u.2.2.2 ∨ t.2.2.2 = (u.2.2.2.1 + 1, u.2.2.2.2 + 6)
theorem both_K {mL mm : jm_M} {La Lm : jm_L} (hop : ∀ s t, Inv c s t → OpK g D mL mm La Lm c s t) (h : Inv c u u) : ∃ k b s' t', ev g D mL 0 La [] u = some (.inl (some (.int (Int32.ofNat k))), s') ∧ ev g D mm 0 Lm [] s' = some (.inl (some b), t') ∧ k ≤ 2 ∧ gI t' 432 0 = Int32.ofNat k ∧ (k = 0 → gJ t' 460 0 = asL b) ∧ Inv (c + 1) t' t' ∧ CNT u t' := by
  obtain ⟨k0, b0, s', t0, e1, -, -, -, -, ⟨w0, G0, v0, hC0, -⟩, x1, -⟩ := hop u u h
  obtain ⟨w, G, ver, hC, hM, hG, hw, hv⟩ := h
  have hMs := hM.clk x1 hC0.1.1
  obtain ⟨k, b, s2, t2, f1, f2, f3, f4, f5, ⟨w', G', v', hC', hM', hG', hw', hv'⟩, y1, y2⟩ := hop u s' ⟨w, G, ver, hC, hMs, hG, hw, hv⟩
  have hs : s2 = s' := by
    rw [e1] at f1
    injection f1 with f1
    exact (congrArg Prod.snd f1).symm
  subst hs
  refine ⟨k, b, s2, t2, f1, f2, f3, f4, fun hk => by rw [(y2.1 460 0 (Or.inr rfl)).2, f5 hk], ⟨w', G', v', hC'.mlk hG' y2 hM'.1, hM', hG', hw', hv'⟩, ?_⟩
  unfold CNT
  rw [y2.2.2]
  exact x1.2.2
theorem both_N {mc mm : jm_M} {Lc Lm : jm_L} (hop : ∀ s t, Inv c s t → OpN g D mc mm Lc Lm c s t) (h : Inv c u u) : ∃ a s' t', ev g D mc 0 Lc [] u = some (.inl (some (.int a)), s') ∧ ev g D mm 0 Lm [] s' = some (.inl (some (.int a)), t') ∧ Inv (c + 1) t' t' ∧ CNT u t' := by
  obtain ⟨a0, s', t0, e1, -, ⟨w0, G0, v0, hC0, -⟩, x1, -⟩ := hop u u h
  obtain ⟨w, G, ver, hC, hM, hG, hw, hv⟩ := h
  have hMs := hM.clk x1 hC0.1.1
  obtain ⟨a, s2, t2, f1, f2, ⟨w', G', v', hC', hM', hG', hw', hv'⟩, y1, y2⟩ := hop u s' ⟨w, G, ver, hC, hMs, hG, hw, hv⟩
  have hs : s2 = s' := by
    rw [e1] at f1
    injection f1 with f1
    exact (congrArg Prod.snd f1).symm
  subst hs
  refine ⟨a, s2, t2, f1, f2, ⟨w', G', v', hC'.mlk hG' y2 hM'.1, hM', hG', hw', hv'⟩, ?_⟩
  unfold CNT
  rw [y2.2.2]
  exact x1.2.2
theorem m_thrown {t : fm_S} {d : Nat} : ev g d mX12_thrown 0 [some (.ref (432 : Nat))] [] t = some (.inl (some (.int (gI t 432 0))), t) := by
  simp (disch := first | exact jm_lt0 | (apply jm_ltx; (repeat (first | exact jw_0 | apply jw_i | apply jw_r | apply jw_l)); omega) | omega | assumption | exact sa_432 | exact n32_inA sb_432 (by omega) (by omega) | (refine n32_inA (by assumption) ?_ ?_ <;> omega) | exact bi01 | (rw [sa_432]; omega) | decide) only [sX12_thrown_0, sX12_thrown_1, sX12_thrown_4, sa_432, sb_432]
end CS0
