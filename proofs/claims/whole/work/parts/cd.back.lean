/-! restore, teach on both sides -/
section CD0
variable {g : fm_g} {d c ver : Nat} {w : WD} {G : GS} {s t : fm_S}
def Gk (G : GS) (k : Nat) : GS := (yB G, yL G, yF G, yNf G, yNa G, yD G, k, yIm G)
theorem GOK.ik {k : Nat} (hG : GOK w G) (hk : k ≤ yik G) : GOK w (Gk G k) := ⟨hG.1, hG.2.1, hG.2.2.1, Nat.le_trans hk hG.2.2.2.1, fun i hi => hG.2.2.2.2.1 i (Nat.lt_of_lt_of_le hi hk), hG.2.2.2.2.2⟩
theorem CI.ik {k : Nat} (hC : CI s w G ver) (hG : GOK w G) (hk : k ≤ yik G) : CI (pI s 0 8 (Int32.ofNat k)) w (Gk G k) ver := by
  obtain ⟨g1, g2, g3, g4, g5, g6⟩ := hG
  obtain ⟨a1, a2, a3, a4, a5, a6, a7, a9⟩ := hC.2
  have es : ∀ b j, ¬ (b = 0 ∧ j = 8) → gI (pI s 0 8 (Int32.ofNat k)) b j = gI s b j := fun b j k2 => by rw [gI_pI, if_neg k2]
  refine ⟨hC.1.of hC.1.1.pI (fun b j k1 k2 k3 => es _ _ (by omega)) (fun b j hb => ⟨es _ _ (by omega), rfl⟩) (fun j _ => rfl), ⟨by rw [es _ _ (by omega)]; exact a1, fun i hi => by rw [es _ _ (by omega)]; exact a2 i hi, a3.of g3 (fun b j q1 q2 => es _ _ (by omega)), ?_, fun i hi => ?_, by rw [es _ _ (by omega)]; exact a6, by rw [es _ _ (by omega)]; exact a7, by rw [es _ _ (by omega)]; exact a9⟩⟩
  · rw [gI_pI, if_pos ⟨rfl, rfl⟩]
    rfl
  · have hi' : i < k := hi
    exact (a5 i (by omega)).of (g5 i (by omega)) (fun b j q1 q2 => es _ _ (by omega))
theorem MI.ik {k : Nat} (hM : MI t w G) (hk : k ≤ yik G) : MI (pI t 432 64 (Int32.ofNat k)) w (Gk G k) := by
  obtain ⟨m1, m2, m3, m4, m5, m6, m7, m8⟩ := hM.2.2.2
  have et : ∀ b j, ¬ (b = 432 ∧ j = 64) → gI (pI t 432 64 (Int32.ofNat k)) b j = gI t b j := fun b j k2 => by rw [gI_pI, if_neg k2]
  refine ⟨hM.1.pI, hM.2.1.of (fun b j hb => et _ _ (by omega)) (fun b j _ => gJ_pI _ _ _ _ _ _), hM.2.2.1.y (fun b j hb => et _ _ (by omega)), ⟨by rw [et _ _ (by omega)]; exact m1, fun i hi => by rw [et _ _ (by omega)]; exact m2 i hi, m3.k (fun b j hb => et _ _ (by omega)), ?_, fun i hi => ?_, by rw [et _ _ (by omega)]; exact m6, by rw [et _ _ (by omega)]; exact m7, by rw [et _ _ (by omega)]; exact m8⟩⟩
  · rw [gI_pI, if_pos ⟨rfl, rfl⟩]
    rfl
  · have hi' : i < k := hi
    exact (m5 i (by omega)).of (fun j => et _ _ (by omega))
theorem opn_restore (h : Inv c s t) (hc : c < 1000) : OpN g (d + 35) mX11_restore mX12_restore [some (.ref (0 : Nat)), none] [some (.ref (432 : Nat))] c s t := by
  obtain ⟨w, G, ver, hC, hM, hG, hw, hv⟩ := h
  have hF := hC.1.1
  have hM0 := hM.t0
  have hik : yik G ≤ 3 := hG.2.2.2.1
  have a8 := hC.2.2.2.2.1
  have b64 := hM0.2.2.2.2.2.2.1
  have r05 := hF.u 0 5 167 (by decide +kernel)
  have r06 := hF.u 0 6 306 (by decide +kernel)
  by_cases c0 : yik G = 0
  · refine ⟨-1, s, _, ?_, ?_, ⟨w, G, ver, hC, hM0, hG, hw, by omega⟩, CLK.rf, t0_mlk⟩
    · simp (disch := first | exact jm_lt0 | (apply jm_ltx; (repeat (first | exact jw_0 | apply jw_i | apply jw_r | apply jw_l)); omega) | omega | assumption | exact sa_0 | exact sa_167 | exact n32_inA sb_0 (by omega) (by omega) | exact n32_inA sb_167 (by omega) (by omega) | (refine n32_inA (by assumption) ?_ ?_ <;> omega) | exact bi01 | (rw [sa_0]; omega) | (rw [sa_167]; omega) | decide) only [sX11_restore_0, sX11_restore_1, sX11_restore_4, sX11_restore_5, sX11_restore_6, sX11_restore_7, sX11_restore_8, sX11_restore_11, sX11_restore_12, sX11_restore_13, sX11_restore_16, sX11_restore_17, sX11_restore_20, sX11_restore_21, sX11_restore_24, sX11_restore_25, sX11_restore_26, kX11_restore_29_AI, sX11_restore_29, sX11_restore_30, sX11_restore_31, sX11_restore_32, sX11_restore_35, sX11_restore_36, sX11_restore_39, sX11_restore_40, sX11_restore_41, sX11_restore_44, sX11_restore_45, sX11_restore_46, sX11_restore_49, sX11_restore_50, sX11_restore_53, sX11_restore_56, sX11_restore_57, evK_n, evK_v, evK_x, gI_pI, gJ_pI, gR_pI, gI_pJ, gJ_pJ, gR_pJ, gI_pR, gJ_pR, gR_pR, if_true, if_false, not_true_eq_false, not_false_eq_true, and_true, true_and, and_false, false_and, and_self, or_true, true_or, or_false, false_or, or_self, ne_eq, Decidable.not_not, Nat.reduceEqDiff, Nat.reduceEqDiff, n32_le, n32_lt, n32_add, n32_mul, n32_cl, sa_0, sb_0, sa_167, sb_167, r05, a8, c0, show Int32.ofNat 0 - Int32.ofNat 1 < 0 from by decide]
    · have b64' : gI (pI t 432 0 (Int32.ofNat 0)) 432 64 = 0 := by rw [b64, c0]; rfl
      generalize ht : pI t 432 0 (Int32.ofNat 0) = t0 at *
      simp (disch := first | exact jm_lt0 | (apply jm_ltx; (repeat (first | exact jw_0 | apply jw_i | apply jw_r | apply jw_l)); omega) | omega | assumption | exact sa_432 | exact n32_inA sb_432 (by omega) (by omega) | (refine n32_inA (by assumption) ?_ ?_ <;> omega) | exact bi01 | (rw [sa_432]; omega) | decide) only [sX12_restore_0, sX12_restore_1, sX12_restore_2, sX12_restore_5, sX12_restore_6, sX12_restore_9, sX12_restore_12, sX12_restore_13, sX12_restore_14, sX12_restore_15, sX12_restore_16, sX12_restore_19, sX12_restore_20, sX12_restore_21, sX12_restore_24, sX12_restore_25, sX12_restore_26, sX12_restore_29, sX12_restore_30, sX12_restore_33, sX12_restore_34, sX12_restore_37, ht, evK_n, evK_v, evK_x, gI_pI, gJ_pI, gR_pI, gI_pJ, gJ_pJ, gR_pJ, gI_pR, gJ_pR, gR_pR, if_true, if_false, not_true_eq_false, not_false_eq_true, and_true, true_and, and_false, false_and, and_self, or_true, true_or, or_false, false_or, or_self, ne_eq, Decidable.not_not, Nat.reduceEqDiff, Nat.reduceEqDiff, n32_le, n32_lt, n32_add, n32_mul, n32_cl, sa_432, sb_432, b64']
  · obtain ⟨k, hk⟩ : ∃ k, yik G = k + 1 := ⟨yik G - 1, by omega⟩
    have hk3 : k < 3 := by omega
    have hk1 : k < yik G := by omega
    have hk0 : k ≤ yik G := by omega
    have c0' : ¬ k + 1 = 0 := by omega
    have hCa := hC.ik hG hk0
    have hMa := hM0.ik hk0
    have hGa := hG.ik hk0
    have hDk : drOK (yIm G k) := hG.2.2.2.2.1 k hk1
    have hdk : drC s (168 + 46 * k) (yIm G k) := hC.2.2.2.2.2.1 k hk1
    have himk : imM (pI t 432 0 (Int32.ofNat 0)) k (yIm G k) := hM0.2.2.2.2.2.2.2.1 k hk1
    have key : ∀ i, i < 3 → (167, i, 168 + 46 * i) ∈ fxL := by decide +kernel
    have r167 : gR s 167 k = 168 + 46 * k := hF _ (key _ hk3)
    have hne : gR s 167 (Int32.ofNat k).toNatClampNeg ≠ 0 := by rw [n32_cl (by omega), r167]; omega
    obtain ⟨s1, e1, x1, x2⟩ := d_copy (g := g) (d := d + 33) hF (a := 168 + 46 * k) (b := 5) (im_in hk3) (by decide) (by omega) hdk.1 hDk.1
    have hF1 : FX s1 := hF.of (by rw [x1.1])
    have r06b := hF1.u 0 6 306 (by decide +kernel)
    have c306 : gI (pI s1 0 8 (Int32.ofNat k)) 306 1 = Int32.ofNat ver := by rw [gI_pI, if_neg (by omega), x1.2.1 _ _ (by omega)]; exact hC.1.2.2.2.2.1
    have fg := fun d => c6_forget (g := g) (d := d) (s := pI s1 0 8 (Int32.ofNat k)) (ver := ver) c306
    have hdd : drC (pI (pI s1 0 8 (Int32.ofNat k)) 306 1 (Int32.ofNat (ver + 1))) 5 (yIm G k) := (hdk.copied hDk x1 x2).of hDk (fun b j q1 q2 => by rw [gI_pI, if_neg (by omega), gI_pI, if_neg (by omega)])
    have e0s : (pI (pI s1 0 8 (Int32.ofNat k)) 306 1 (Int32.ofNat (ver + 1))).2 = (pI s 0 8 (Int32.ofNat k)).2 := x1.1
    have frs : ∀ b j, ¬ (5 ≤ b ∧ b ≤ 50) → ¬ (b = 306 ∧ j = 1) → gI (pI (pI s1 0 8 (Int32.ofNat k)) 306 1 (Int32.ofNat (ver + 1))) b j = gI (pI s 0 8 (Int32.ofNat k)) b j := fun b j k1 k2 => by rw [gI_pI, if_neg k2, gI_pI, gI_pI, x1.2.1 _ _ (by omega)]
    have hCb := hCa.chg hGa (by omega) e0s frs (by rw [gI_pI, if_pos ⟨rfl, rfl⟩]) hdd hDk
    -- the model
    have hFt : FX (pI (pI t 432 0 (Int32.ofNat 0)) 432 64 (Int32.ofNat k)) := hMa.1
    obtain ⟨t1, f1, z1, z2, z3⟩ := m_keepF (g := g) (d := d + 33) hFt hk3 hDk (himk.of (fun j => by rw [gI_pI, if_neg (by omega)]))
    have e0t : t1.2 = (pI (pI t 432 0 (Int32.ofNat 0)) 432 64 (Int32.ofNat k)).2 := Prod.ext (funext fun b => funext fun j => z1.2.2 b j (fun q => q)) (by rw [z1.1])
    have frt : ∀ b j, ¬ (b = 439 ∨ b = 440 ∨ b = 458 ∨ (b = 432 ∧ (j = 0 ∨ j = 19 ∨ j = 62))) → gI t1 b j = gI (pI (pI t 432 0 (Int32.ofNat 0)) 432 64 (Int32.ofNat k)) b j := fun b j hb => z1.2.1 _ _ (by omega)
    have hMb := hMa.chg hGa hDk e0t frt z2 z3
    have b64b : gI t1 432 64 = Int32.ofNat k := by rw [z1.2.1 _ _ (by omega), gI_pI, if_pos ⟨rfl, rfl⟩]
    have sh4 := (diS_of (im_in hk3)).1
    refine ⟨Int32.ofNat k, pI (pI s1 0 8 (Int32.ofNat k)) 306 1 (Int32.ofNat (ver + 1)), t1, ?_, ?_, ⟨_, _, ver + 1, hCb, hMb, hGa.chg hDk, wV_ok hw (hDk.2 _ (Nat.le_refl _)), by omega⟩, ⟨fun b j h1 h2 => ⟨by rw [frs _ _ (by omega) (by omega), gI_pI, if_neg (by omega)], by show (pI (pI s1 0 8 (Int32.ofNat k)) 306 1 (Int32.ofNat (ver + 1))).2.1 b j = s.2.1 b j; rw [e0s]; rfl⟩, fun b j _ => by show (pI (pI s1 0 8 (Int32.ofNat k)) 306 1 (Int32.ofNat (ver + 1))).2.2.1 b j = s.2.2.1 b j; rw [e0s]; rfl, Or.inl (by rw [e0s]; rfl)⟩, ⟨fun b j h => ⟨by rw [frt _ _ (by omega), gI_pI, if_neg (by omega), gI_pI, if_neg (by omega)], by show t1.2.1 b j = t.2.1 b j; rw [e0t]; rfl⟩, fun b j => by show t1.2.2.1 b j = t.2.2.1 b j; rw [e0t]; rfl, by show t1.2.2.2 = t.2.2.2; rw [e0t]; rfl⟩⟩
    · have a8k : gI s 0 8 = Int32.ofNat (k + 1) := by rw [a8, hk]
      have q3 : Int32.ofNat (k + 1) - Int32.ofNat 1 = Int32.ofNat k := n32_sub (by omega)
      have q4 : ¬ 3 ≤ k := by omega
      simp (disch := first | exact jm_lt0 | (apply jm_ltx; (repeat (first | exact jw_0 | apply jw_i | apply jw_r | apply jw_l)); omega) | omega | assumption | exact sa_0 | exact sa_5 | exact sa_167 | exact sa_306 | exact n32_inA sb_0 (by omega) (by omega) | exact n32_inA sb_5 (by omega) (by omega) | exact n32_inA sb_167 (by omega) (by omega) | exact n32_inA sb_306 (by omega) (by omega) | (refine n32_inA (by assumption) ?_ ?_ <;> omega) | exact bi01 | (rw [sa_0]; omega) | (rw [sa_5]; omega) | (rw [sa_167]; omega) | (rw [sa_306]; omega) | decide) only [sX11_restore_0, sX11_restore_1, sX11_restore_4, sX11_restore_5, sX11_restore_6, sX11_restore_7, sX11_restore_8, sX11_restore_11, sX11_restore_12, sX11_restore_13, sX11_restore_16, sX11_restore_17, sX11_restore_20, sX11_restore_21, sX11_restore_24, sX11_restore_25, sX11_restore_26, kX11_restore_29_AI, sX11_restore_29, sX11_restore_30, sX11_restore_31, sX11_restore_32, sX11_restore_35, sX11_restore_36, sX11_restore_39, sX11_restore_40, sX11_restore_41, sX11_restore_44, sX11_restore_45, sX11_restore_46, sX11_restore_49, sX11_restore_50, sX11_restore_53, sX11_restore_56, sX11_restore_57, evK_n, evK_v, evK_x, gI_pI, gJ_pI, gR_pI, gI_pJ, gJ_pJ, gR_pJ, gI_pR, gJ_pR, gR_pR, if_true, if_false, not_true_eq_false, not_false_eq_true, and_true, true_and, and_false, false_and, and_self, or_true, true_or, or_false, false_or, or_self, ne_eq, Decidable.not_not, Nat.reduceEqDiff, Nat.reduceEqDiff, n32_le, n32_lt, n32_add, n32_mul, n32_cl, sa_0, sb_0, sa_5, sb_5, sa_167, sb_167, sa_306, sb_306, sh4, r05, a8k, q3, q4, r167, n32_lt0, c11_diary hF, e1, r06b, fg]
    · have b64' : gI (pI t 432 0 (Int32.ofNat 0)) 432 64 = Int32.ofNat (k + 1) := by rw [b64, hk]
      have q1 : ¬ Int32.ofNat (k + 1) = 0 := by rw [n32_eq0 (by omega)]; omega
      have q3 : Int32.ofNat (k + 1) - Int32.ofNat 1 = Int32.ofNat k := n32_sub (by omega)
      generalize ht : pI t 432 0 (Int32.ofNat 0) = t0 at *
      have b64a : gI (pI t0 432 64 (Int32.ofNat k)) 432 64 = Int32.ofNat k := by rw [gI_pI, if_pos ⟨rfl, rfl⟩]
      simp (disch := first | exact jm_lt0 | (apply jm_ltx; (repeat (first | exact jw_0 | apply jw_i | apply jw_r | apply jw_l)); omega) | omega | assumption | exact sa_432 | exact n32_inA sb_432 (by omega) (by omega) | (refine n32_inA (by assumption) ?_ ?_ <;> omega) | exact bi01 | (rw [sa_432]; omega) | decide) only [sX12_restore_0, sX12_restore_1, sX12_restore_2, sX12_restore_5, sX12_restore_6, sX12_restore_9, sX12_restore_12, sX12_restore_13, sX12_restore_14, sX12_restore_15, sX12_restore_16, sX12_restore_19, sX12_restore_20, sX12_restore_21, sX12_restore_24, sX12_restore_25, sX12_restore_26, sX12_restore_29, sX12_restore_30, sX12_restore_33, sX12_restore_34, sX12_restore_37, ht, evK_n, evK_v, evK_x, gI_pI, gJ_pI, gR_pI, gI_pJ, gJ_pJ, gR_pJ, gI_pR, gJ_pR, gR_pR, if_true, if_false, not_true_eq_false, not_false_eq_true, and_true, true_and, and_false, false_and, and_self, or_true, true_or, or_false, false_or, or_self, ne_eq, Decidable.not_not, Nat.reduceEqDiff, Nat.reduceEqDiff, n32_le, n32_lt, n32_add, n32_mul, n32_cl, sa_432, sb_432, b64', q1, q3, b64a, f1, b64b]
end CD0
