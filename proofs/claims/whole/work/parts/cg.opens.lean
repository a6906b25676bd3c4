/-! a text is opened and closed by both; deeper calls answer alike -/
section CG0
theorem fm_up {sh : fm_H} {G : jm_G} {tb : List jm_M} : ∀ {n d : Nat} {M : jm_M} {pc : Nat} {L : jm_L} {st : List Value} {s : fm_S} {r : jm_O × fm_S}, fm_run sh G tb n d M pc L st s = some r → fm_run sh G tb n (d + 1) M pc L st s = some r := by
  intro n
  induction n with
  | zero => intro d M pc L st s r hr; cases hr
  | succ n ih =>
    intro d M pc L0 st s r hr
    rw [fm_run] at hr
    rw [fm_run]
    split at hr
    next => cases hr
    next e he =>
    (try rw [he])
    (try dsimp only at hr ⊢)
    generalize (if e.2.2.2.2.2.2.2.2 = [] then L0 else jm_mask e.2.2.2.2.2.2.2.2 L0) = L at hr ⊢
    split at hr
    next hk =>
      (try rw [hk])
      obtain ⟨q, h1, h2⟩ := Option.bind_eq_some_iff.mp hr
      (try dsimp only)
      rw [h1]
      exact ih h2
    next hk =>
      (try rw [hk])
      (try dsimp only)
      split at hr
      next d' M' hM' =>
        (try rw [hM'])
        (try dsimp only)
        split at hr
        next hc =>
          (try rw [if_pos hc])
          split at hr
          next v s1 hrun => (try rw [ih hrun]); exact ih hr
          next E s1 hrun =>
            (try rw [ih hrun])
            (try dsimp only)
            split at hr
            next => cases hr
            next hsp =>
            (try rw [if_neg hsp])
            split at hr
            next hp hhp => (try rw [hhp]); exact ih hr
            next hhp => (try rw [hhp]); exact hr
          next => cases hr
        next => cases hr
      next => cases hr
    next hk => (try rw [hk]); exact hr
    next hk0 hk5 hk6 =>
      exact hr
theorem ev_up {g : fm_g} {d : Nat} {M : jm_M} {pc : Nat} {L : jm_L} {st : List Value} {s : fm_S} {r : jm_O × fm_S} (h : ev g d M pc L st s = some r) : ∀ k, ev g (d + k) M pc L st s = some r
  | 0 => h
  | k + 1 => by
    have h1 := ev_up h k
    unfold ev at h1 ⊢
    rw [fm_ev_iff] at h1 ⊢
    obtain ⟨n, hn⟩ := h1
    exact ⟨n, fm_up hn⟩
end CG0
section CG1
variable {g : fm_g} {d ver : Nat} {w : WD} {G : GS} {s t : fm_S}
def cOp (B : Nat → Nat) (s : fm_S) (e : Nat) : fm_S := pI (pI (pI (pI s 1 4 (Int32.ofNat e)) 1 2 (Int32.ofNat 0)) 1 3 (-1)) 1 5 (Int32.ofNat (skp B e 0))
def mOp (t : fm_S) (x : Int32) : fm_S := pI (pI (pI (pI (pI (pI t 432 2 (Int32.ofNat 0)) 432 8 (-1)) 432 3 x) 432 4 (Int32.ofNat 0)) 432 5 (-1)) 432 7 (Int32.ofNat 0)
def cCl (s : fm_S) : fm_S := pI (pI s 0 9 (gI s 1 3)) 1 1 (Int32.ofNat 0)
theorem CI.tape {e : Nat} (hC : CI s w G ver) (hG : GOK w G) (he : e ≤ yL G) : ∀ i, i < e → gI s 2 i = cb (yB G i) ∧ yB G i < 256 := fun i hi => ⟨hC.2.2.1 i (by omega), hG.2.1 i (by omega)⟩
theorem c9_open {B : Nat → Nat} {e : Nat} (hF : FX s) (he : e ≤ 600) (hB : ∀ i, i < e → gI s 2 i = cb (B i) ∧ B i < 256) : ev g (d + 1) mX9_open 0 [some (.ref (1 : Nat)), some (.int (Int32.ofNat e))] [] s = some (.inl none, cOp B s e) := by
  have r1 := hF.u 1 0 2 (by decide +kernel)
  have c1 : ¬ 600 < e := by omega
  have c2 : (if 0 < e then Int32.ofNat e else Int32.ofNat 0) = Int32.ofNat e := by
    by_cases c : 0 < e
    · rw [if_pos c]
    · rw [if_neg c, show e = 0 by omega]
  have hgo := fun d => c9_goTo' (g := g) (d := d) (B := B) (e := e) (b := 0) (s := pI (pI (pI s 1 4 (Int32.ofNat e)) 1 2 (Int32.ofNat 0)) 1 3 (-1)) hF.pI.pI.pI (by simp [gI_pI]) he (fun i hi => by simp [gI_pI, hB i hi]) (Nat.zero_le _)
  simp (disch := first | exact jm_lt0 | (apply jm_ltx; (repeat (first | exact jw_0 | apply jw_i | apply jw_r | apply jw_l)); omega) | omega | assumption | exact sa_1 | exact sa_2 | exact n32_inA sb_1 (by omega) (by omega) | exact n32_inA sb_2 (by omega) (by omega) | (refine n32_inA (by assumption) ?_ ?_ <;> omega) | exact bi01 | (rw [sa_1]; omega) | (rw [sa_2]; omega) | decide) only [sX9_open_0, sX9_open_1, sX9_open_2, sX9_open_3, sX9_open_4, sX9_open_7, sX9_open_8, sX9_open_11, sX9_open_14, sX9_open_17, sX9_open_18, sX9_open_19, sX9_open_22, sX9_open_23, sX9_open_24, sX9_open_27, sX9_open_28, sX9_open_29, sX9_open_32, evK_n, evK_v, evK_x, gI_pI, gJ_pI, gR_pI, gI_pJ, gJ_pJ, gR_pJ, gI_pR, gJ_pR, gR_pR, if_true, if_false, not_true_eq_false, not_false_eq_true, and_true, true_and, and_false, false_and, and_self, or_true, true_or, or_false, false_or, or_self, ne_eq, Decidable.not_not, Nat.reduceEqDiff, Nat.reduceEqDiff, n32_le, n32_lt, n32_add, n32_mul, n32_cl, sa_1, sb_1, sa_2, sb_2, r1, c1, c2, hgo]
  rfl
theorem m_begins {x : Int32} : ev g d mX12_begins 0 [some (.ref (432 : Nat)), some (.int x)] [] t = some (.inl none, mOp t x) := by
  simp (disch := first | exact jm_lt0 | (apply jm_ltx; (repeat (first | exact jw_0 | apply jw_i | apply jw_r | apply jw_l)); omega) | omega | assumption | exact sa_432 | exact n32_inA sb_432 (by omega) (by omega) | (refine n32_inA (by assumption) ?_ ?_ <;> omega) | exact bi01 | (rw [sa_432]; omega) | decide) only [sX12_begins_0, sX12_begins_1, sX12_begins_2, sX12_begins_5, sX12_begins_6, sX12_begins_7, sX12_begins_10, sX12_begins_11, sX12_begins_12, sX12_begins_15, sX12_begins_16, sX12_begins_17, sX12_begins_20, sX12_begins_21, sX12_begins_22, sX12_begins_25, sX12_begins_26, sX12_begins_27, sX12_begins_30, if_true, if_false, not_true_eq_false, not_false_eq_true, and_true, true_and, and_false, false_and, and_self, or_true, true_or, or_false, false_or, or_self, ne_eq, Decidable.not_not, Nat.reduceEqDiff, Nat.reduceEqDiff, sa_432, sb_432]
  rfl
theorem c11_close (hF : FX s) : ev g (d + 1) mX11_closeTape 0 [some (.ref (0 : Nat))] [] s = some (.inl (some (.int (bi (gI s 1 2 = 0)))), cCl s) := by
  have r0 := hF.u 0 0 1 (by decide +kernel)
  simp (disch := first | exact jm_lt0 | (apply jm_ltx; (repeat (first | exact jw_0 | apply jw_i | apply jw_r | apply jw_l)); omega) | omega | assumption | exact sa_0 | exact sa_1 | exact n32_inA sb_0 (by omega) (by omega) | exact n32_inA sb_1 (by omega) (by omega) | (refine n32_inA (by assumption) ?_ ?_ <;> omega) | exact bi01 | (rw [sa_0]; omega) | (rw [sa_1]; omega) | decide) only [sX11_closeTape_0, sX11_closeTape_1, sX11_closeTape_2, sX11_closeTape_5, sX11_closeTape_8, sX11_closeTape_11, sX11_closeTape_12, sX11_closeTape_15, sX11_closeTape_16, sX11_closeTape_19, sX11_closeTape_20, sX11_closeTape_23, sX11_closeTape_26, evK_n, evK_v, evK_x, gI_pI, gJ_pI, gR_pI, gI_pJ, gJ_pJ, gR_pJ, gI_pR, gJ_pR, gR_pR, if_true, if_false, not_true_eq_false, not_false_eq_true, and_true, true_and, and_false, false_and, and_self, or_true, true_or, or_false, false_or, or_self, ne_eq, Decidable.not_not, Nat.reduceEqDiff, Nat.reduceEqDiff, sa_0, sb_0, sa_1, sb_1, r0, c9_isFine]
  rfl
theorem c11_fault (hF : FX s) : ev g d mX11_faultAnswer 0 [some (.ref (0 : Nat))] [] s = some (.inl (some (.int (gI s 1 2 - Int32.ofNat 10))), s) := by
  have r0 := hF.u 0 0 1 (by decide +kernel)
  simp (disch := first | exact jm_lt0 | (apply jm_ltx; (repeat (first | exact jw_0 | apply jw_i | apply jw_r | apply jw_l)); omega) | omega | assumption | exact sa_0 | exact sa_1 | exact n32_inA sb_0 (by omega) (by omega) | exact n32_inA sb_1 (by omega) (by omega) | (refine n32_inA (by assumption) ?_ ?_ <;> omega) | exact bi01 | (rw [sa_0]; omega) | (rw [sa_1]; omega) | decide) only [sX11_faultAnswer_0, sX11_faultAnswer_1, sX11_faultAnswer_4, sX11_faultAnswer_7, sX11_faultAnswer_9, sX11_faultAnswer_10, if_true, if_false, not_true_eq_false, not_false_eq_true, and_true, true_and, and_false, false_and, and_self, or_true, true_or, or_false, false_or, or_self, ne_eq, Decidable.not_not, Nat.reduceEqDiff, Nat.reduceEqDiff, sa_0, sb_0, sa_1, sb_1, r0]
theorem m_result {v : Int32} : ev g (d + 1) mX12_result 0 [some (.ref (432 : Nat)), some (.int v)] [] t = some (.inl (some (.int (if gI t 432 5 = -1 then v else gI t 432 6 - Int32.ofNat 10))), pI t 432 8 (gI t 432 5)) := by
  by_cases c : gI t 432 5 = -1
  · simp (disch := first | exact jm_lt0 | (apply jm_ltx; (repeat (first | exact jw_0 | apply jw_i | apply jw_r | apply jw_l)); omega) | omega | assumption | exact sa_432 | exact n32_inA sb_432 (by omega) (by omega) | (refine n32_inA (by assumption) ?_ ?_ <;> omega) | exact bi01 | (rw [sa_432]; omega) | decide) only [sX12_result_0, sX12_result_1, sX12_result_2, sX12_result_5, sX12_result_8, sX12_result_9, sX12_result_12, sX12_result_15, sX12_result_16, kX12_result_19_AI, sX12_result_19, sX12_result_20, sX12_result_23, sX12_result_25, kX12_result_26_AI, kX12_result_26_AN, sX12_result_26, evK_n, evK_v, evK_x, gI_pI, gJ_pI, gR_pI, gI_pJ, gJ_pJ, gR_pJ, gI_pR, gJ_pR, gR_pR, if_true, if_false, not_true_eq_false, not_false_eq_true, and_true, true_and, and_false, false_and, and_self, or_true, true_or, or_false, false_or, or_self, ne_eq, Decidable.not_not, Nat.reduceEqDiff, Nat.reduceEqDiff, sa_432, sb_432, m_fine, c, bi, show ¬ (Int32.ofNat 1 = 0) by decide]
  · simp (disch := first | exact jm_lt0 | (apply jm_ltx; (repeat (first | exact jw_0 | apply jw_i | apply jw_r | apply jw_l)); omega) | omega | assumption | exact sa_432 | exact n32_inA sb_432 (by omega) (by omega) | (refine n32_inA (by assumption) ?_ ?_ <;> omega) | exact bi01 | (rw [sa_432]; omega) | decide) only [sX12_result_0, sX12_result_1, sX12_result_2, sX12_result_5, sX12_result_8, sX12_result_9, sX12_result_12, sX12_result_15, sX12_result_16, kX12_result_19_AI, sX12_result_19, sX12_result_20, sX12_result_23, sX12_result_25, kX12_result_26_AI, kX12_result_26_AN, sX12_result_26, evK_n, evK_v, evK_x, gI_pI, gJ_pI, gR_pI, gI_pJ, gJ_pJ, gR_pJ, gI_pR, gJ_pR, gR_pR, if_true, if_false, not_true_eq_false, not_false_eq_true, and_true, true_and, and_false, false_and, and_self, or_true, true_or, or_false, false_or, or_self, ne_eq, Decidable.not_not, Nat.reduceEqDiff, Nat.reduceEqDiff, sa_432, sb_432, m_fine, c, bi, z32]
theorem op_open {e : Nat} (hC : CI s w G ver) (hM : MI t w G) (hG : GOK w G) (he : e ≤ yL G) : OP (yB G) e (cOp (yB G) s e) (mOp t (Int32.ofNat e)) := by
  have h6 := hG.1
  obtain ⟨c1, c2, -⟩ := hC.2
  obtain ⟨m1, m2, -⟩ := hM.2.2.2
  refine ⟨hC.1.1.of rfl, hM.1.of rfl, ⟨?_, ?_, Nat.zero_le _, by omega, fun i hi => ⟨?_, hG.2.1 i (by omega)⟩⟩, ⟨?_, ?_, Nat.zero_le _, by omega, fun i hi => ⟨?_, hG.2.1 i (by omega)⟩⟩, ⟨?_, ?_⟩, ?_, ?_⟩
  · simp [cOp, gI_pI]
  · simp [cOp, gI_pI]
  · simp [cOp, gI_pI]
    exact c2 i (by omega)
  · simp [mOp, gI_pI]
  · simp [mOp, gI_pI]
  · simp [mOp, gI_pI]
    exact m2 i (by omega)
  · simp [cOp, gI_pI]
  · simp [cOp, gI_pI]
  · simp [mOp, gI_pI]
  · simp [mOp, gI_pI]
/-- what reading a text changes, in the class and in the model -/
def CRf (s s' : fm_S) : Prop := s'.2 = s.2 ∧ ∀ b j, b ≠ 1 → ¬ (b = 0 ∧ j = 9) → ¬ (107 ≤ b ∧ b < 167) → gI s' b j = gI s b j
def MRf (t t' : fm_S) : Prop := t'.2 = t.2 ∧ ∀ b j, ¬ (b = 432 ∧ ((2 ≤ j ∧ j ≤ 8) ∨ j = 16 ∨ j = 17 ∨ j = 28 ∨ j = 29)) → ¬ (b = 435 ∨ b = 437 ∨ b = 438 ∨ (441 ≤ b ∧ b ≤ 443) ∨ b = 449) → gI t' b j = gI t b j
theorem CRf.tr {a b c : fm_S} (h : CRf a b) (k : CRf b c) : CRf a c := ⟨k.1.trans h.1, fun x j q r u => (k.2 x j q r u).trans (h.2 x j q r u)⟩
theorem MRf.tr {a b c : fm_S} (h : MRf a b) (k : MRf b c) : MRf a c := ⟨k.1.trans h.1, fun x j q r => (k.2 x j q r).trans (h.2 x j q r)⟩
theorem crf_op {B : Nat → Nat} {e : Nat} : CRf s (cOp B s e) := ⟨rfl, fun b j k1 k2 k3 => by
  unfold cOp
  rw [gI_pI, if_neg (by omega), gI_pI, if_neg (by omega), gI_pI, if_neg (by omega), gI_pI, if_neg (by omega)]⟩
theorem crf_cl : CRf s (cCl s) := ⟨rfl, fun b j k1 k2 k3 => by
  unfold cCl
  rw [gI_pI, if_neg (by omega), gI_pI, if_neg (by omega)]⟩
theorem mrf_op {x : Int32} : MRf t (mOp t x) := ⟨rfl, fun b j k1 k2 => by
  unfold mOp
  rw [gI_pI, if_neg (by omega), gI_pI, if_neg (by omega), gI_pI, if_neg (by omega), gI_pI, if_neg (by omega), gI_pI, if_neg (by omega), gI_pI, if_neg (by omega)]⟩
theorem mrf_8 {x : Int32} : MRf t (pI t 432 8 x) := ⟨rfl, fun b j k1 k2 => by rw [gI_pI, if_neg (by omega)]⟩
theorem RC.crf {s' : fm_S} (h : RC s s') : CRf s s' := ⟨h.1, fun b j k1 k2 k3 => h.2 b j (by omega) (by omega) (by omega)⟩
theorem RQ.mrf {t' : fm_S} (h : RQ t t') : MRf t t' := ⟨h.1, fun b j k1 k2 => h.2 b j (by omega) (by omega)⟩
theorem BC.crf {s' : fm_S} (h : BC s s') : CRf s s' := ⟨h.1, fun b j k1 k2 k3 => h.2 b j (by omega) (by omega)⟩
theorem BM.mrf {t' : fm_S} (h : BM t t') : MRf t t' := ⟨h.1, fun b j k1 k2 => h.2 b j (by omega) (by omega)⟩
theorem OfF.crf {s' : fm_S} (h : OfF s s') : CRf s s' := ⟨h.1, fun b j k1 k2 k3 => h.2 b j (by omega) (by omega)⟩
theorem OfG.mrf {t' : fm_S} (h : OfG t t') : MRf t t' := ⟨h.1, fun b j k1 k2 => h.2 b j (by omega) (by omega)⟩
def Gz (G : GS) (f : Int32) : GS := (yB G, 0, f, yNf G, yNa G, yD G, yik G, yIm G)
theorem GOK.rd {f : Int32} (h : GOK w G) : GOK w (Gz G f) := ⟨Nat.zero_le _, fun i hi => absurd hi (Nat.not_lt_zero i), h.2.2.1, h.2.2.2.1, h.2.2.2.2.1, h.2.2.2.2.2⟩
theorem CI.rd {s' : fm_S} {f : Int32} (h : CI s w G ver) (hG : GOK w G) (x : CRf s s') (h9 : gI s' 0 9 = f) (h1 : gI s' 1 1 = Int32.ofNat 0) : CI s' w (Gz G f) ver := by
  obtain ⟨g1, g2, g3, g4, g5, g6⟩ := hG
  obtain ⟨a1, a2, a3, a4, a5, a6, a7, a8⟩ := h.2
  refine ⟨h.1.of (h.1.1.of (by rw [x.1])) (fun b j k1 k2 k3 => x.2 _ _ (by omega) (by omega) (by omega)) (fun b j hb => ⟨x.2 _ _ (by omega) (by omega) (by omega), by show s'.2.1 b j = s.2.1 b j; rw [x.1]⟩) (fun j _ => by show s'.2.2.1 307 j = s.2.2.1 307 j; rw [x.1]), ⟨h1, fun i hi => absurd hi (Nat.not_lt_zero i), a3.of g3 (fun b j q1 q2 => x.2 _ _ (by omega) (by omega) (by omega)), by rw [x.2 _ _ (by omega) (by omega) (by omega)]; exact a4, fun i hi => (a5 i hi).of (g5 i hi) (fun b j q1 q2 => x.2 _ _ (by omega) (by omega) (by omega)), h9, by rw [x.2 _ _ (by omega) (by omega) (by omega)]; exact a7, by rw [x.2 _ _ (by omega) (by omega) (by omega)]; exact a8⟩⟩
theorem MI.rd {t' : fm_S} {f : Int32} (h : MI t w G) (x : MRf t t') (h8 : gI t' 432 8 = f) (h2 : gI t' 432 2 = Int32.ofNat 0) : MI t' w (Gz G f) := by
  obtain ⟨a1, a2, a3, a4, a5, a6, a7, a8⟩ := h.2.2.2
  exact ⟨h.1.of (by rw [x.1]), h.2.1.of (fun b j hb => x.2 _ _ (by omega) (by omega)) (fun b j _ => by show t'.2.1 b j = t.2.1 b j; rw [x.1]), h.2.2.1.y (fun b j hb => x.2 _ _ (by omega) (by omega)), ⟨h2, fun i hi => absurd hi (Nat.not_lt_zero i), a3.k (fun b j hb => x.2 _ _ (by omega) (by omega)), by rw [x.2 _ _ (by omega) (by omega)]; exact a4, fun i hi => (a5 i hi).of (fun j => x.2 _ _ (by omega) (by omega)), h8, by rw [x.2 _ _ (by omega) (by omega)]; exact a7, by rw [x.2 _ _ (by omega) (by omega)]; exact a8⟩⟩
theorem CRf.clk {s' : fm_S} (x : CRf s s') : CLK s s' := ⟨fun b j h1 h2 => ⟨x.2 _ _ (by omega) (by omega) (by omega), by show s'.2.1 b j = s.2.1 b j; rw [x.1]⟩, fun b j _ => by show s'.2.2.1 b j = s.2.2.1 b j; rw [x.1], Or.inl (by rw [x.1])⟩
theorem MRf.mlk {t' : fm_S} (x : MRf t t') : MLK t t' := ⟨fun b j h => ⟨x.2 _ _ (by omega) (by omega), by show t'.2.1 b j = t.2.1 b j; rw [x.1]⟩, fun b j => by show t'.2.2.1 b j = t.2.2.1 b j; rw [x.1], by rw [x.1]⟩
/-- enough bytes are told -/
theorem c11_nb1 {x : Int32} {cap m : Nat} (h : CI s w G ver) (hG : GOK w G) (hc : cap ≤ 600) (hm : m = min cap (yL G)) (hx : win x (Int32.ofNat 0) (Int32.ofNat m)) : ev g (d + 1) mX11_needBytes 0 [some (.ref (0 : Nat)), some (.int x), some (.int (Int32.ofNat cap))] [] s = some (.inl none, s) := by
  have r0 := h.1.1.u 0 0 1 (by decide +kernel)
  have h6 := hG.1
  have hl := h.2.1
  have c2 : (if yL G < cap then Int32.ofNat (yL G) else Int32.ofNat cap) = Int32.ofNat m := by
    by_cases c : yL G < cap
    · rw [if_pos c, hm, show min cap (yL G) = yL G by omega]
    · rw [if_neg c, hm, show min cap (yL G) = cap by omega]
  simp (disch := first | exact jm_lt0 | (apply jm_ltx; (repeat (first | exact jw_0 | apply jw_i | apply jw_r | apply jw_l)); omega) | omega | assumption | exact sa_0 | exact sa_1 | exact n32_inA sb_0 (by omega) (by omega) | exact n32_inA sb_1 (by omega) (by omega) | (refine n32_inA (by assumption) ?_ ?_ <;> omega) | exact bi01 | (rw [sa_0]; omega) | (rw [sa_1]; omega) | decide) only [sX11_needBytes_0, sX11_needBytes_1, sX11_needBytes_2, sX11_needBytes_3, sX11_needBytes_4, sX11_needBytes_5, sX11_needBytes_8, sX11_needBytes_11, sX11_needBytes_14, sX11_needBytes_17, sX11_needBytes_20, evK_n, evK_v, evK_x, gI_pI, gJ_pI, gR_pI, gI_pJ, gJ_pJ, gR_pJ, gI_pR, gJ_pR, gR_pR, if_true, if_false, not_true_eq_false, not_false_eq_true, and_true, true_and, and_false, false_and, and_self, or_true, true_or, or_false, false_or, or_self, ne_eq, Decidable.not_not, Nat.reduceEqDiff, Nat.reduceEqDiff, n32_le, n32_lt, n32_add, n32_mul, n32_cl, sa_0, sb_0, sa_1, sb_1, r0, hl, c2, c11_wt hx, c11_need1]
theorem c11_nb0 {x : Int32} {cap m : Nat} (h : CI s w G ver) (hG : GOK w G) (hc : cap ≤ 600) (hm : m = min cap (yL G)) (hx : ¬ win x (Int32.ofNat 0) (Int32.ofNat m)) : ev g (d + 1) mX11_needBytes 0 [some (.ref (0 : Nat)), some (.int x), some (.int (Int32.ofNat cap))] [] s = some (.inr 1, fl s 11) := by
  have r0 := h.1.1.u 0 0 1 (by decide +kernel)
  have h6 := hG.1
  have hl := h.2.1
  have c2 : (if yL G < cap then Int32.ofNat (yL G) else Int32.ofNat cap) = Int32.ofNat m := by
    by_cases c : yL G < cap
    · rw [if_pos c, hm, show min cap (yL G) = yL G by omega]
    · rw [if_neg c, hm, show min cap (yL G) = cap by omega]
  simp (disch := first | exact jm_lt0 | (apply jm_ltx; (repeat (first | exact jw_0 | apply jw_i | apply jw_r | apply jw_l)); omega) | omega | assumption | exact sa_0 | exact sa_1 | exact n32_inA sb_0 (by omega) (by omega) | exact n32_inA sb_1 (by omega) (by omega) | (refine n32_inA (by assumption) ?_ ?_ <;> omega) | exact bi01 | (rw [sa_0]; omega) | (rw [sa_1]; omega) | decide) only [sX11_needBytes_0, sX11_needBytes_1, sX11_needBytes_2, sX11_needBytes_3, sX11_needBytes_4, sX11_needBytes_5, sX11_needBytes_8, sX11_needBytes_11, sX11_needBytes_14, sX11_needBytes_17, sX11_needBytes_20, evK_n, evK_v, evK_x, gI_pI, gJ_pI, gR_pI, gI_pJ, gJ_pJ, gR_pJ, gI_pR, gJ_pR, gR_pR, if_true, if_false, not_true_eq_false, not_false_eq_true, and_true, true_and, and_false, false_and, and_self, or_true, true_or, or_false, false_or, or_self, ne_eq, Decidable.not_not, Nat.reduceEqDiff, Nat.reduceEqDiff, n32_le, n32_lt, n32_add, n32_mul, n32_cl, sa_0, sb_0, sa_1, sb_1, r0, hl, c2, c11_wf hx, c11_need0]
theorem win_nn {x : Int32} {m : Nat} (hm : m < 1000) (h0 : ¬ x < 0) : ∃ n, n < 2147483648 ∧ x = Int32.ofNat n ∧ (win x (Int32.ofNat 0) (Int32.ofNat m) ↔ n ≤ m) := by
  have h1 : 0 ≤ x.toInt := by
    rw [Int32.lt_iff_toInt_lt] at h0
    have : (0 : Int32).toInt = 0 := by decide
    omega
  have h2 := Int32.toInt_lt x
  have hx : x = Int32.ofNat x.toInt.toNat := by
    apply Int32.toInt_inj.mp
    rw [n32_toInt (by omega)]
    omega
  refine ⟨x.toInt.toNat, by omega, hx, ?_⟩
  rw [win_n (by decide) hm]
  constructor
  · rintro ⟨n, -, h4, h5⟩
    rw [h5, n32_toInt (by omega)]
    omega
  · intro h
    exact ⟨_, Nat.zero_le _, h, hx⟩
theorem m_told1 {x : Int32} {m : Nat} (h : MI t w G) (hG : GOK w G) (hm : m = min 150 (yL G)) (hx : win x (Int32.ofNat 0) (Int32.ofNat m)) : ev g d mX12_isTold 0 [some (.ref (432 : Nat)), some (.int x)] [] t = some (.inl (some (.int (Int32.ofNat 1))), t) := by
  have h6 := hG.1
  have h2 := h.2.2.2.1
  obtain ⟨n, -, hn, rfl⟩ := (win_n (by decide) (by omega)).mp hx
  have q1 : ¬ yL G < n := by omega
  have q2 : ¬ 150 < n := by omega
  have q3 : n < 2147483648 := by omega
  simp (disch := first | exact jm_lt0 | (apply jm_ltx; (repeat (first | exact jw_0 | apply jw_i | apply jw_r | apply jw_l)); omega) | omega | assumption | exact sa_432 | exact n32_inA sb_432 (by omega) (by omega) | (refine n32_inA (by assumption) ?_ ?_ <;> omega) | exact bi01 | (rw [sa_432]; omega) | decide) only [sX12_isTold_0, sX12_isTold_1, sX12_isTold_4, sX12_isTold_5, sX12_isTold_6, sX12_isTold_9, sX12_isTold_12, sX12_isTold_13, sX12_isTold_16, sX12_isTold_19, sX12_isTold_20, kX12_isTold_23_AI, sX12_isTold_23, kX12_isTold_24_AI, sX12_isTold_24, if_true, if_false, not_true_eq_false, not_false_eq_true, and_true, true_and, and_false, false_and, and_self, or_true, true_or, or_false, false_or, or_self, ne_eq, Decidable.not_not, Nat.reduceEqDiff, Nat.reduceEqDiff, sa_432, sb_432, h2, n32_lt0 q3, n32_lt (show yL G < 2147483648 by omega) q3, n32_lt (show 150 < 2147483648 by omega) q3, q1, q2]
theorem m_told0 {x : Int32} {m : Nat} (h : MI t w G) (hG : GOK w G) (hm : m = min 150 (yL G)) (hx : ¬ win x (Int32.ofNat 0) (Int32.ofNat m)) : ev g d mX12_isTold 0 [some (.ref (432 : Nat)), some (.int x)] [] t = some (.inl (some (.int (Int32.ofNat 0))), t) := by
  have h6 := hG.1
  have h2 := h.2.2.2.1
  by_cases c0 : x < 0
  · simp (disch := first | exact jm_lt0 | (apply jm_ltx; (repeat (first | exact jw_0 | apply jw_i | apply jw_r | apply jw_l)); omega) | omega | assumption | exact sa_432 | exact n32_inA sb_432 (by omega) (by omega) | (refine n32_inA (by assumption) ?_ ?_ <;> omega) | exact bi01 | (rw [sa_432]; omega) | decide) only [sX12_isTold_0, sX12_isTold_1, sX12_isTold_4, sX12_isTold_5, sX12_isTold_6, sX12_isTold_9, sX12_isTold_12, sX12_isTold_13, sX12_isTold_16, sX12_isTold_19, sX12_isTold_20, kX12_isTold_23_AI, sX12_isTold_23, kX12_isTold_24_AI, sX12_isTold_24, if_true, if_false, not_true_eq_false, not_false_eq_true, and_true, true_and, and_false, false_and, and_self, or_true, true_or, or_false, false_or, or_self, ne_eq, Decidable.not_not, Nat.reduceEqDiff, Nat.reduceEqDiff, sa_432, sb_432, c0, z32]
  · obtain ⟨n, n1, rfl, n2⟩ := win_nn (m := m) (by omega) c0
    have c : ¬ n ≤ m := fun q => hx (n2.mpr q)
    by_cases q1 : yL G < n
    · simp (disch := first | exact jm_lt0 | (apply jm_ltx; (repeat (first | exact jw_0 | apply jw_i | apply jw_r | apply jw_l)); omega) | omega | assumption | exact sa_432 | exact n32_inA sb_432 (by omega) (by omega) | (refine n32_inA (by assumption) ?_ ?_ <;> omega) | exact bi01 | (rw [sa_432]; omega) | decide) only [sX12_isTold_0, sX12_isTold_1, sX12_isTold_4, sX12_isTold_5, sX12_isTold_6, sX12_isTold_9, sX12_isTold_12, sX12_isTold_13, sX12_isTold_16, sX12_isTold_19, sX12_isTold_20, kX12_isTold_23_AI, sX12_isTold_23, kX12_isTold_24_AI, sX12_isTold_24, if_true, if_false, not_true_eq_false, not_false_eq_true, and_true, true_and, and_false, false_and, and_self, or_true, true_or, or_false, false_or, or_self, ne_eq, Decidable.not_not, Nat.reduceEqDiff, Nat.reduceEqDiff, sa_432, sb_432, h2, n32_lt0 n1, n32_lt (show yL G < 2147483648 by omega) n1, q1, z32]
    · have q2 : 150 < n := by omega
      simp (disch := first | exact jm_lt0 | (apply jm_ltx; (repeat (first | exact jw_0 | apply jw_i | apply jw_r | apply jw_l)); omega) | omega | assumption | exact sa_432 | exact n32_inA sb_432 (by omega) (by omega) | (refine n32_inA (by assumption) ?_ ?_ <;> omega) | exact bi01 | (rw [sa_432]; omega) | decide) only [sX12_isTold_0, sX12_isTold_1, sX12_isTold_4, sX12_isTold_5, sX12_isTold_6, sX12_isTold_9, sX12_isTold_12, sX12_isTold_13, sX12_isTold_16, sX12_isTold_19, sX12_isTold_20, kX12_isTold_23_AI, sX12_isTold_23, kX12_isTold_24_AI, sX12_isTold_24, if_true, if_false, not_true_eq_false, not_false_eq_true, and_true, true_and, and_false, false_and, and_self, or_true, true_or, or_false, false_or, or_self, ne_eq, Decidable.not_not, Nat.reduceEqDiff, Nat.reduceEqDiff, sa_432, sb_432, h2, n32_lt0 n1, n32_lt (show yL G < 2147483648 by omega) n1, n32_lt (show 150 < 2147483648 by omega) n1, q1, q2, z32]
end CG1
