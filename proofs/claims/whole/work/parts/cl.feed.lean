/-! feed on both sides -/
section CL0
variable {g : fm_g} {d c ver : Nat} {w : WD} {G : GS} {s t : fm_S}
/-- a byte of an int -/
def bt8 (v : Int32) (k : Nat) : Nat := (v.toBitVec.toNat >>> k) % 256
theorem bt8_lt {v : Int32} {k : Nat} : bt8 v k < 256 := Nat.mod_lt _ (by decide)
theorem bt8_bv {x : BitVec 32} {k : Nat} (hk : k ≤ 24) : (x.sshiftRight k) &&& 255#32 = BitVec.ofNat 32 ((x.toNat >>> k) % 256) := by
  apply BitVec.eq_of_getLsbD_eq
  intro i hi
  rw [BitVec.getLsbD_and, BitVec.getLsbD_sshiftRight, BitVec.getLsbD_ofNat, BitVec.getLsbD_ofNat, show (255 : Nat) = 2 ^ 8 - 1 from rfl, Nat.testBit_two_pow_sub_one, show (256 : Nat) = 2 ^ 8 from rfl, Nat.testBit_mod_two_pow, Nat.testBit_shiftRight]
  by_cases c : i < 8
  · have h1 : ¬ 32 ≤ i := by omega
    have h2 : k + i < 32 := by omega
    simp [c, h1, h2, BitVec.getLsbD, hi]
  · simp [c]
theorem bt8_m {v : Int32} {k : Nat} (hk : k = 0 ∨ k = 8 ∨ k = 16 ∨ k = 24) : (v >>> (Int32.ofNat k &&& 31)) &&& Int32.ofNat 255 = Int32.ofNat (bt8 v k) := by
  apply Int32.toBitVec_inj.mp
  rcases hk with rfl | rfl | rfl | rfl <;> exact bt8_bv (x := v.toBitVec) (by decide)
theorem bt8_c {v : Int32} {k : Nat} (hk : k = 0 ∨ k = 8 ∨ k = 16 ∨ k = 24) : ((v.toUInt32 >>> ((Int32.ofNat k).toUInt32 &&& Int32.toUInt32 31)).toInt32).toInt8.toInt32.toInt = ((bt8 v k : Nat) : Int).bmod 256 := by
  rw [Int8.toInt_toInt32, Int32.toInt_toInt8]
  have h : ((v.toUInt32 >>> ((Int32.ofNat k).toUInt32 &&& Int32.toUInt32 31)).toInt32).toInt = (((v.toBitVec.toNat >>> k : Nat) : Int)).bmod (2 ^ 32) := by
    rcases hk with rfl | rfl | rfl | rfl <;> exact BitVec.toInt_eq_toNat_bmod _
  rw [h, Int.bmod_bmod_of_dvd (by decide)]
  unfold bt8
  rw [show (2 ^ 8 : Nat) = 256 from rfl, Int.natCast_emod]
  exact (Int.emod_bmod _ _).symm
theorem cb_bmod {n : Nat} (h : n < 256) : (cb n).toInt = ((n : Nat) : Int).bmod 256 := by
  rw [cb_toInt h]
  by_cases c : n < 128
  · rw [if_pos c, Int.bmod_eq_of_le (by omega) (by omega)]
  · rw [if_neg c, ← Int.sub_bmod_right, Int.bmod_eq_of_le (by omega) (by omega)]
    rfl
theorem bt8_cb {v : Int32} {k : Nat} (hk : k = 0 ∨ k = 8 ∨ k = 16 ∨ k = 24) : vp_nar .byte ((v.toUInt32 >>> ((Int32.ofNat k).toUInt32 &&& Int32.toUInt32 31)).toInt32).toInt8.toInt32 = cb (bt8 v k) := by
  show ((v.toUInt32 >>> ((Int32.ofNat k).toUInt32 &&& Int32.toUInt32 31)).toInt32).toInt8.toInt32.toInt8.toInt32 = cb (bt8 v k)
  apply Int32.toInt_inj.mp
  rw [Int8.toInt_toInt32, Int32.toInt_toInt8, bt8_c hk, cb_bmod bt8_lt]
  exact Int.bmod_bmod
/-- the class puts one byte -/
def putC (s : fm_S) (L b : Nat) : fm_S := pI (pI s 2 L (cb b)) 1 1 (Int32.ofNat (L + 1))
theorem c9_put1 {L k : Nat} {v i' : Int32} (hF : FX s) (hL : L < 600) (h11 : gI s 1 1 = Int32.ofNat L) (hk : k = 0 ∨ k = 8 ∨ k = 16 ∨ k = 24) (hi : Int32.ofNat k + (-8) = i') : ev g d mX9_put 3 [some (.ref (1 : Nat)), some (.int v), some (.int (Int32.ofNat k))] [] s = ev g d mX9_put 3 [some (.ref (1 : Nat)), some (.int v), some (.int i')] [] (putC s L (bt8 v k)) := by
  have r1 := hF.u 1 0 2 (by decide +kernel)
  have q1 : ¬ 600 ≤ L := by omega
  have e1 : gI (pI s 2 L (cb (bt8 v k))) 1 1 = Int32.ofNat L := by rw [gI_pI, if_neg (by omega), h11]
  have hb := bt8_cb (v := v) hk
  have hk0 : ¬ Int32.ofNat k < 0 := by rw [n32_lt0 (by omega)]; exact id
  rw [sX9_put_3]
  simp (disch := first | exact jm_lt0 | (apply jm_ltx; (repeat (first | exact jw_0 | apply jw_i | apply jw_r | apply jw_l)); omega) | omega | assumption | exact sa_1 | exact sa_2 | exact n32_inA sb_1 (by omega) (by omega) | exact n32_inA sb_2 (by omega) (by omega) | (refine n32_inA (by assumption) ?_ ?_ <;> omega) | exact bi01 | (rw [sa_1]; omega) | (rw [sa_2]; omega) | decide) only [sX9_put_0, sX9_put_2, sX9_put_4, sX9_put_7, sX9_put_8, sX9_put_11, sX9_put_14, sX9_put_15, sX9_put_18, sX9_put_19, sX9_put_22, sX9_put_23, sX9_put_26, sX9_put_27, sX9_put_30, sX9_put_31, sX9_put_34, sX9_put_35, sX9_put_36, sX9_put_37, sX9_put_38, sX9_put_39, sX9_put_40, sX9_put_41, sX9_put_44, sX9_put_45, sX9_put_46, sX9_put_49, sX9_put_52, kX9_put_55_AII, sX9_put_55, evK_n, evK_v, evK_x, gI_pI, gJ_pI, gR_pI, gI_pJ, gJ_pJ, gR_pJ, gI_pR, gJ_pR, gR_pR, if_true, if_false, not_true_eq_false, not_false_eq_true, and_true, true_and, and_false, false_and, and_self, or_true, true_or, or_false, false_or, or_self, ne_eq, Decidable.not_not, Nat.reduceEqDiff, Nat.reduceEqDiff, n32_le, n32_lt, n32_add, n32_mul, n32_cl, sa_1, sb_1, sa_2, sb_2, r1, h11, q1, hL, hk0, hb, e1, hi, n32_lt0]
  rfl
theorem putC_FM {L b : Nat} : FM (fun a j => (a = 1 ∧ j = 1) ∨ (a = 2 ∧ j = L)) nO s (putC s L b) := (FM.pI (Or.inr ⟨rfl, rfl⟩)).tr (FM.pI (Or.inl ⟨rfl, rfl⟩))
theorem putC_1 {L b : Nat} : gI (putC s L b) 1 1 = Int32.ofNat (L + 1) := by
  unfold putC
  rw [gI_pI, if_pos ⟨rfl, rfl⟩]
theorem putC_2 {L b j : Nat} : gI (putC s L b) 2 j = if j = L then cb b else gI s 2 j := by
  unfold putC
  rw [gI_pI, if_neg (by omega), gI_pI]
  by_cases c : j = L
  · rw [if_pos ⟨rfl, c⟩, if_pos c]
  · rw [if_neg (by omega), if_neg c]
theorem c9_put {L : Nat} {v : Int32} (hF : FX s) (hL : L + 4 ≤ 600) (h11 : gI s 1 1 = Int32.ofNat L) : ∃ s', ev g d mX9_put 0 [some (.ref (1 : Nat)), some (.int v), none] [] s = some (.inl none, s') ∧ FM (fun a j => (a = 1 ∧ j = 1) ∨ (a = 2 ∧ L ≤ j ∧ j < L + 4)) nO s s' ∧ gI s' 1 1 = Int32.ofNat (L + 4) ∧ ∀ j, j < 4 → gI s' 2 (L + j) = cb (bt8 v (24 - 8 * j)) := by
  have a1 := c9_put1 (g := g) (d := d) (s := s) (L := L) (k := 24) (v := v) hF (by omega) h11 (by omega) rfl
  have F1 : FX (putC s L (bt8 v 24)) := hF.of rfl
  have a2 := c9_put1 (g := g) (d := d) (s := putC s L (bt8 v 24)) (L := L + 1) (k := 16) (v := v) F1 (by omega) putC_1 (by omega) rfl
  have F2 : FX (putC (putC s L (bt8 v 24)) (L + 1) (bt8 v 16)) := F1.of rfl
  have a3 := c9_put1 (g := g) (d := d) (s := putC (putC s L (bt8 v 24)) (L + 1) (bt8 v 16)) (L := L + 2) (k := 8) (v := v) F2 (by omega) putC_1 (by omega) rfl
  have F3 : FX (putC (putC (putC s L (bt8 v 24)) (L + 1) (bt8 v 16)) (L + 2) (bt8 v 8)) := F2.of rfl
  have a4 := c9_put1 (g := g) (d := d) (s := putC (putC (putC s L (bt8 v 24)) (L + 1) (bt8 v 16)) (L + 2) (bt8 v 8)) (L := L + 3) (k := 0) (v := v) F3 (by omega) putC_1 (by omega) rfl
  refine ⟨putC (putC (putC (putC s L (bt8 v 24)) (L + 1) (bt8 v 16)) (L + 2) (bt8 v 8)) (L + 3) (bt8 v 0), ?_, (((putC_FM.mono (fun a j q => by omega) (fun _ _ q => q)).tr (putC_FM.mono (fun a j q => by omega) (fun _ _ q => q))).tr (putC_FM.mono (fun a j q => by omega) (fun _ _ q => q))).tr (putC_FM.mono (fun a j q => by omega) (fun _ _ q => q)), putC_1, fun j hj => ?_⟩
  · refine Eq.trans ?_ (a1.trans (a2.trans (a3.trans (a4.trans ?_))))
    · simp (disch := first | exact jm_lt0 | (apply jm_ltx; (repeat (first | exact jw_0 | apply jw_i | apply jw_r | apply jw_l)); omega) | omega | assumption | (refine n32_inA (by assumption) ?_ ?_ <;> omega) | exact bi01 | decide) only [sX9_put_0, sX9_put_2, sX9_put_4, sX9_put_7, sX9_put_8, sX9_put_11, sX9_put_14, sX9_put_15, sX9_put_18, sX9_put_19, sX9_put_22, sX9_put_23, sX9_put_26, sX9_put_27, sX9_put_30, sX9_put_31, sX9_put_34, sX9_put_35, sX9_put_36, sX9_put_37, sX9_put_38, sX9_put_39, sX9_put_40, sX9_put_41, sX9_put_44, sX9_put_45, sX9_put_46, sX9_put_49, sX9_put_52, kX9_put_55_AII, sX9_put_55, if_true, if_false, not_true_eq_false, not_false_eq_true, and_true, true_and, and_false, false_and, and_self, or_true, true_or, or_false, false_or, or_self, ne_eq, Decidable.not_not, Nat.reduceEqDiff, Nat.reduceEqDiff]
    · rw [sX9_put_3]
      simp (disch := first | exact jm_lt0 | (apply jm_ltx; (repeat (first | exact jw_0 | apply jw_i | apply jw_r | apply jw_l)); omega) | omega | assumption | (refine n32_inA (by assumption) ?_ ?_ <;> omega) | exact bi01 | decide) only [sX9_put_0, sX9_put_2, sX9_put_4, sX9_put_7, sX9_put_8, sX9_put_11, sX9_put_14, sX9_put_15, sX9_put_18, sX9_put_19, sX9_put_22, sX9_put_23, sX9_put_26, sX9_put_27, sX9_put_30, sX9_put_31, sX9_put_34, sX9_put_35, sX9_put_36, sX9_put_37, sX9_put_38, sX9_put_39, sX9_put_40, sX9_put_41, sX9_put_44, sX9_put_45, sX9_put_46, sX9_put_49, sX9_put_52, kX9_put_55_AII, sX9_put_55, if_true, if_false, not_true_eq_false, not_false_eq_true, and_true, true_and, and_false, false_and, and_self, or_true, true_or, or_false, false_or, or_self, ne_eq, Decidable.not_not, Nat.reduceEqDiff, Nat.reduceEqDiff, show (Int32.ofNat 0 + -8) < 0 by decide]
  · have : j = 0 ∨ j = 1 ∨ j = 2 ∨ j = 3 := by omega
    rcases this with rfl | rfl | rfl | rfl
    · rw [putC_2, if_neg (by omega), putC_2, if_neg (by omega), putC_2, if_neg (by omega), putC_2, if_pos (show L + 0 = L from rfl)]
    · rw [putC_2, if_neg (by omega), putC_2, if_neg (by omega), putC_2, if_pos rfl]
    · rw [putC_2, if_neg (by omega), putC_2, if_pos rfl]
    · rw [putC_2, if_pos rfl]
/-- the bytes of five ints -/
def b5 (x1 x2 x3 x4 x5 : Int32) (j : Nat) : Nat := bt8 (if j < 4 then x1 else if j < 8 then x2 else if j < 12 then x3 else if j < 16 then x4 else x5) (24 - 8 * (j % 4))
theorem m_feedLoop {L : Nat} {x1 x2 x3 x4 x5 : Int32} {t0 : fm_S} (hF : FX t0) (hL : L + 20 ≤ 600) : ∀ (m k : Nat) (t : fm_S) (z : Option Value), k + m = 20 → FM (fun a j => (a = 432 ∧ j = 2) ∨ (a = 434 ∧ L ≤ j ∧ j < L + 20)) nO t0 t → gI t 432 2 = Int32.ofNat (L + k) → (∀ j, j < k → gI t 434 (L + j) = Int32.ofNat (b5 x1 x2 x3 x4 x5 j)) → ∃ t', ev g d mX12_feed 23 [some (.ref (432 : Nat)), some (.int x1), some (.int x2), some (.int x3), some (.int x4), some (.int x5), some (.int (Int32.ofNat k)), none] [] t = some (.inl (some (.int (Int32.ofNat (L + 20)))), t') ∧ FM (fun a j => (a = 432 ∧ j = 2) ∨ (a = 434 ∧ L ≤ j ∧ j < L + 20)) nO t0 t' ∧ gI t' 432 2 = Int32.ofNat (L + 20) ∧ ∀ j, j < 20 → gI t' 434 (L + j) = Int32.ofNat (b5 x1 x2 x3 x4 x5 j) := by
  intro m
  induction m with
  | zero =>
    intro k t z hk hM h2 hJ
    have hil : k = 20 := by omega
    subst hil
    refine ⟨t, ?_, hM, h2, hJ⟩
    rw [sX12_feed_23]
    simp (disch := first | exact jm_lt0 | (apply jm_ltx; (repeat (first | exact jw_0 | apply jw_i | apply jw_r | apply jw_l)); omega) | omega | assumption | exact sa_432 | exact n32_inA sb_432 (by omega) (by omega) | (refine n32_inA (by assumption) ?_ ?_ <;> omega) | exact bi01 | (rw [sa_432]; omega) | decide) only [sX12_feed_0, sX12_feed_1, sX12_feed_2, sX12_feed_5, sX12_feed_6, sX12_feed_9, sX12_feed_11, sX12_feed_12, sX12_feed_15, sX12_feed_18, sX12_feed_19, sX12_feed_20, sX12_feed_21, kX12_feed_23_AIIIIIII, sX12_feed_25, sX12_feed_27, sX12_feed_30, sX12_feed_32, sX12_feed_33, sX12_feed_36, sX12_feed_37, sX12_feed_40, sX12_feed_42, sX12_feed_44, sX12_feed_47, sX12_feed_48, sX12_feed_51, sX12_feed_53, sX12_feed_55, sX12_feed_58, sX12_feed_59, sX12_feed_62, sX12_feed_64, sX12_feed_66, sX12_feed_69, sX12_feed_71, sX12_feed_74, sX12_feed_76, sX12_feed_78, sX12_feed_79, sX12_feed_82, sX12_feed_83, sX12_feed_86, sX12_feed_88, sX12_feed_90, sX12_feed_92, sX12_feed_94, sX12_feed_95, sX12_feed_96, sX12_feed_97, sX12_feed_98, sX12_feed_99, sX12_feed_102, sX12_feed_103, sX12_feed_104, sX12_feed_105, sX12_feed_106, sX12_feed_109, sX12_feed_110, sX12_feed_111, sX12_feed_114, sX12_feed_117, kX12_feed_120_AIIIIIIN, sX12_feed_120, sX12_feed_121, sX12_feed_124, evK_n, evK_v, evK_x, gI_pI, gJ_pI, gR_pI, gI_pJ, gJ_pJ, gR_pJ, gI_pR, gJ_pR, gR_pR, n32_le, n32_lt, n32_add, n32_mul, n32_cl, if_true, if_false, not_true_eq_false, not_false_eq_true, and_true, true_and, and_false, false_and, and_self, or_true, true_or, or_false, false_or, or_self, ne_eq, Decidable.not_not, Nat.reduceEqDiff, Nat.reduceEqDiff, sa_432, sb_432, Nat.le_refl, h2]
  | succ m ih =>
    intro k t z hk hM h2 hJ
    have hFs := hM.fx hF
    have r9 := hFs.u 432 9 434 (by decide +kernel)
    have g1 : ¬ 20 ≤ k := by omega
    have b1 : L + k < 600 := by omega
    have hq : 24 - 8 * (k % 4) = 0 ∨ 24 - 8 * (k % 4) = 8 ∨ 24 - 8 * (k % 4) = 16 ∨ 24 - 8 * (k % 4) = 24 := by omega
    have hr : Int32.ofNat k - Int32.ofNat k / Int32.ofNat 4 * Int32.ofNat 4 = Int32.ofNat (k % 4) := n32_mod (by omega) (by decide)
    have hs : Int32.ofNat 24 - Int32.ofNat (8 * (k % 4)) = Int32.ofNat (24 - 8 * (k % 4)) := n32_sub (by omega)
    have g2 : ∀ v, gI (pI t 434 (L + k) v) 432 2 = Int32.ofNat (L + k) := fun v => by rw [gI_pI, if_neg (by omega), h2]
    have lt4 : ∀ a, a < 100 → (Int32.ofNat k < Int32.ofNat a) = (k < a) := fun a ha => n32_lt (by omega) (by omega)
    have key : ∀ v : Int32, (v >>> (Int32.ofNat (24 - 8 * (k % 4)) &&& 31)) &&& Int32.ofNat 255 = Int32.ofNat (bt8 v (24 - 8 * (k % 4))) := fun v => bt8_m hq
    obtain ⟨t', f1, f2, f3, f4⟩ := ih (k + 1) (pI (pI t 434 (L + k) (Int32.ofNat (b5 x1 x2 x3 x4 x5 k))) 432 2 (Int32.ofNat (L + k + 1))) none (by omega) ((hM.tr (FM.pI (Or.inr ⟨rfl, by omega, by omega⟩))).tr (FM.pI (Or.inl ⟨rfl, rfl⟩))) (by rw [gI_pI, if_pos ⟨rfl, rfl⟩]; rfl) (fun j hj => by
      by_cases cj : j = k
      · rw [cj, gI_pI, if_neg (by omega), gI_pI, if_pos ⟨rfl, rfl⟩]
      · rw [gI_pI, if_neg (by omega), gI_pI, if_neg (by omega), hJ j (by omega)])
    refine ⟨t', ?_, f2, f3, f4⟩
    refine Eq.trans ?_ f1
    have hne : ¬ Int32.ofNat 4 = 0 := by decide
    unfold b5
    rw [sX12_feed_23]
    by_cases c1 : k < 4
    · rw [if_pos c1]
      simp (disch := first | exact jm_lt0 | (apply jm_ltx; (repeat (first | exact jw_0 | apply jw_i | apply jw_r | apply jw_l)); omega) | omega | assumption | exact sa_432 | exact sa_434 | exact n32_inA sb_432 (by omega) (by omega) | exact n32_inA sb_434 (by omega) (by omega) | (refine n32_inA (by assumption) ?_ ?_ <;> omega) | exact bi01 | (rw [sa_432]; omega) | (rw [sa_434]; omega) | decide) only [sX12_feed_0, sX12_feed_1, sX12_feed_2, sX12_feed_5, sX12_feed_6, sX12_feed_9, sX12_feed_11, sX12_feed_12, sX12_feed_15, sX12_feed_18, sX12_feed_19, sX12_feed_20, sX12_feed_21, kX12_feed_23_AIIIIIII, sX12_feed_25, sX12_feed_27, sX12_feed_30, sX12_feed_32, sX12_feed_33, sX12_feed_36, sX12_feed_37, sX12_feed_40, sX12_feed_42, sX12_feed_44, sX12_feed_47, sX12_feed_48, sX12_feed_51, sX12_feed_53, sX12_feed_55, sX12_feed_58, sX12_feed_59, sX12_feed_62, sX12_feed_64, sX12_feed_66, sX12_feed_69, sX12_feed_71, sX12_feed_74, sX12_feed_76, sX12_feed_78, sX12_feed_79, sX12_feed_82, sX12_feed_83, sX12_feed_86, sX12_feed_88, sX12_feed_90, sX12_feed_92, sX12_feed_94, sX12_feed_95, sX12_feed_96, sX12_feed_97, sX12_feed_98, sX12_feed_99, sX12_feed_102, sX12_feed_103, sX12_feed_104, sX12_feed_105, sX12_feed_106, sX12_feed_109, sX12_feed_110, sX12_feed_111, sX12_feed_114, sX12_feed_117, kX12_feed_120_AIIIIIIN, sX12_feed_120, sX12_feed_121, sX12_feed_124, evK_n, evK_v, evK_x, gI_pI, gJ_pI, gR_pI, gI_pJ, gJ_pJ, gR_pJ, gI_pR, gJ_pR, gR_pR, n32_le, n32_lt, n32_add, n32_mul, n32_cl, if_true, if_false, not_true_eq_false, not_false_eq_true, and_true, true_and, and_false, false_and, and_self, or_true, true_or, or_false, false_or, or_self, ne_eq, Decidable.not_not, Nat.reduceEqDiff, Nat.reduceEqDiff, sa_432, sb_432, sa_434, sb_434, r9, g1, show ¬ 4 ≤ k by omega, h2, b1, hne, hr, hs, key, g2]
    · rw [if_neg c1]
      by_cases c2 : k < 8
      · rw [if_pos c2]
        have c1' : 4 ≤ k := by omega
        simp (disch := first | exact jm_lt0 | (apply jm_ltx; (repeat (first | exact jw_0 | apply jw_i | apply jw_r | apply jw_l)); omega) | omega | assumption | exact sa_432 | exact sa_434 | exact n32_inA sb_432 (by omega) (by omega) | exact n32_inA sb_434 (by omega) (by omega) | (refine n32_inA (by assumption) ?_ ?_ <;> omega) | exact bi01 | (rw [sa_432]; omega) | (rw [sa_434]; omega) | decide) only [sX12_feed_0, sX12_feed_1, sX12_feed_2, sX12_feed_5, sX12_feed_6, sX12_feed_9, sX12_feed_11, sX12_feed_12, sX12_feed_15, sX12_feed_18, sX12_feed_19, sX12_feed_20, sX12_feed_21, kX12_feed_23_AIIIIIII, sX12_feed_25, sX12_feed_27, sX12_feed_30, sX12_feed_32, sX12_feed_33, sX12_feed_36, sX12_feed_37, sX12_feed_40, sX12_feed_42, sX12_feed_44, sX12_feed_47, sX12_feed_48, sX12_feed_51, sX12_feed_53, sX12_feed_55, sX12_feed_58, sX12_feed_59, sX12_feed_62, sX12_feed_64, sX12_feed_66, sX12_feed_69, sX12_feed_71, sX12_feed_74, sX12_feed_76, sX12_feed_78, sX12_feed_79, sX12_feed_82, sX12_feed_83, sX12_feed_86, sX12_feed_88, sX12_feed_90, sX12_feed_92, sX12_feed_94, sX12_feed_95, sX12_feed_96, sX12_feed_97, sX12_feed_98, sX12_feed_99, sX12_feed_102, sX12_feed_103, sX12_feed_104, sX12_feed_105, sX12_feed_106, sX12_feed_109, sX12_feed_110, sX12_feed_111, sX12_feed_114, sX12_feed_117, kX12_feed_120_AIIIIIIN, sX12_feed_120, sX12_feed_121, sX12_feed_124, evK_n, evK_v, evK_x, gI_pI, gJ_pI, gR_pI, gI_pJ, gJ_pJ, gR_pJ, gI_pR, gJ_pR, gR_pR, n32_le, n32_lt, n32_add, n32_mul, n32_cl, if_true, if_false, not_true_eq_false, not_false_eq_true, and_true, true_and, and_false, false_and, and_self, or_true, true_or, or_false, false_or, or_self, ne_eq, Decidable.not_not, Nat.reduceEqDiff, Nat.reduceEqDiff, sa_432, sb_432, sa_434, sb_434, r9, g1, c1', show ¬ 8 ≤ k by omega, h2, b1, hne, hr, hs, key, g2]
      · rw [if_neg c2]
        have c1' : 4 ≤ k := by omega
        have c2' : 8 ≤ k := by omega
        by_cases c3 : k < 12
        · rw [if_pos c3]
          simp (disch := first | exact jm_lt0 | (apply jm_ltx; (repeat (first | exact jw_0 | apply jw_i | apply jw_r | apply jw_l)); omega) | omega | assumption | exact sa_432 | exact sa_434 | exact n32_inA sb_432 (by omega) (by omega) | exact n32_inA sb_434 (by omega) (by omega) | (refine n32_inA (by assumption) ?_ ?_ <;> omega) | exact bi01 | (rw [sa_432]; omega) | (rw [sa_434]; omega) | decide) only [sX12_feed_0, sX12_feed_1, sX12_feed_2, sX12_feed_5, sX12_feed_6, sX12_feed_9, sX12_feed_11, sX12_feed_12, sX12_feed_15, sX12_feed_18, sX12_feed_19, sX12_feed_20, sX12_feed_21, kX12_feed_23_AIIIIIII, sX12_feed_25, sX12_feed_27, sX12_feed_30, sX12_feed_32, sX12_feed_33, sX12_feed_36, sX12_feed_37, sX12_feed_40, sX12_feed_42, sX12_feed_44, sX12_feed_47, sX12_feed_48, sX12_feed_51, sX12_feed_53, sX12_feed_55, sX12_feed_58, sX12_feed_59, sX12_feed_62, sX12_feed_64, sX12_feed_66, sX12_feed_69, sX12_feed_71, sX12_feed_74, sX12_feed_76, sX12_feed_78, sX12_feed_79, sX12_feed_82, sX12_feed_83, sX12_feed_86, sX12_feed_88, sX12_feed_90, sX12_feed_92, sX12_feed_94, sX12_feed_95, sX12_feed_96, sX12_feed_97, sX12_feed_98, sX12_feed_99, sX12_feed_102, sX12_feed_103, sX12_feed_104, sX12_feed_105, sX12_feed_106, sX12_feed_109, sX12_feed_110, sX12_feed_111, sX12_feed_114, sX12_feed_117, kX12_feed_120_AIIIIIIN, sX12_feed_120, sX12_feed_121, sX12_feed_124, evK_n, evK_v, evK_x, gI_pI, gJ_pI, gR_pI, gI_pJ, gJ_pJ, gR_pJ, gI_pR, gJ_pR, gR_pR, n32_le, n32_lt, n32_add, n32_mul, n32_cl, if_true, if_false, not_true_eq_false, not_false_eq_true, and_true, true_and, and_false, false_and, and_self, or_true, true_or, or_false, false_or, or_self, ne_eq, Decidable.not_not, Nat.reduceEqDiff, Nat.reduceEqDiff, sa_432, sb_432, sa_434, sb_434, r9, g1, c1', c2', show ¬ 12 ≤ k by omega, h2, b1, hne, hr, hs, key, g2]
        · rw [if_neg c3]
          have c3' : 12 ≤ k := by omega
          by_cases c4 : k < 16
          · rw [if_pos c4]
            simp (disch := first | exact jm_lt0 | (apply jm_ltx; (repeat (first | exact jw_0 | apply jw_i | apply jw_r | apply jw_l)); omega) | omega | assumption | exact sa_432 | exact sa_434 | exact n32_inA sb_432 (by omega) (by omega) | exact n32_inA sb_434 (by omega) (by omega) | (refine n32_inA (by assumption) ?_ ?_ <;> omega) | exact bi01 | (rw [sa_432]; omega) | (rw [sa_434]; omega) | decide) only [sX12_feed_0, sX12_feed_1, sX12_feed_2, sX12_feed_5, sX12_feed_6, sX12_feed_9, sX12_feed_11, sX12_feed_12, sX12_feed_15, sX12_feed_18, sX12_feed_19, sX12_feed_20, sX12_feed_21, kX12_feed_23_AIIIIIII, sX12_feed_25, sX12_feed_27, sX12_feed_30, sX12_feed_32, sX12_feed_33, sX12_feed_36, sX12_feed_37, sX12_feed_40, sX12_feed_42, sX12_feed_44, sX12_feed_47, sX12_feed_48, sX12_feed_51, sX12_feed_53, sX12_feed_55, sX12_feed_58, sX12_feed_59, sX12_feed_62, sX12_feed_64, sX12_feed_66, sX12_feed_69, sX12_feed_71, sX12_feed_74, sX12_feed_76, sX12_feed_78, sX12_feed_79, sX12_feed_82, sX12_feed_83, sX12_feed_86, sX12_feed_88, sX12_feed_90, sX12_feed_92, sX12_feed_94, sX12_feed_95, sX12_feed_96, sX12_feed_97, sX12_feed_98, sX12_feed_99, sX12_feed_102, sX12_feed_103, sX12_feed_104, sX12_feed_105, sX12_feed_106, sX12_feed_109, sX12_feed_110, sX12_feed_111, sX12_feed_114, sX12_feed_117, kX12_feed_120_AIIIIIIN, sX12_feed_120, sX12_feed_121, sX12_feed_124, evK_n, evK_v, evK_x, gI_pI, gJ_pI, gR_pI, gI_pJ, gJ_pJ, gR_pJ, gI_pR, gJ_pR, gR_pR, n32_le, n32_lt, n32_add, n32_mul, n32_cl, if_true, if_false, not_true_eq_false, not_false_eq_true, and_true, true_and, and_false, false_and, and_self, or_true, true_or, or_false, false_or, or_self, ne_eq, Decidable.not_not, Nat.reduceEqDiff, Nat.reduceEqDiff, sa_432, sb_432, sa_434, sb_434, r9, g1, c1', c2', c3', show ¬ 16 ≤ k by omega, h2, b1, hne, hr, hs, key, g2]
          · rw [if_neg c4]
            have c4' : 16 ≤ k := by omega
            simp (disch := first | exact jm_lt0 | (apply jm_ltx; (repeat (first | exact jw_0 | apply jw_i | apply jw_r | apply jw_l)); omega) | omega | assumption | exact sa_432 | exact sa_434 | exact n32_inA sb_432 (by omega) (by omega) | exact n32_inA sb_434 (by omega) (by omega) | (refine n32_inA (by assumption) ?_ ?_ <;> omega) | exact bi01 | (rw [sa_432]; omega) | (rw [sa_434]; omega) | decide) only [sX12_feed_0, sX12_feed_1, sX12_feed_2, sX12_feed_5, sX12_feed_6, sX12_feed_9, sX12_feed_11, sX12_feed_12, sX12_feed_15, sX12_feed_18, sX12_feed_19, sX12_feed_20, sX12_feed_21, kX12_feed_23_AIIIIIII, sX12_feed_25, sX12_feed_27, sX12_feed_30, sX12_feed_32, sX12_feed_33, sX12_feed_36, sX12_feed_37, sX12_feed_40, sX12_feed_42, sX12_feed_44, sX12_feed_47, sX12_feed_48, sX12_feed_51, sX12_feed_53, sX12_feed_55, sX12_feed_58, sX12_feed_59, sX12_feed_62, sX12_feed_64, sX12_feed_66, sX12_feed_69, sX12_feed_71, sX12_feed_74, sX12_feed_76, sX12_feed_78, sX12_feed_79, sX12_feed_82, sX12_feed_83, sX12_feed_86, sX12_feed_88, sX12_feed_90, sX12_feed_92, sX12_feed_94, sX12_feed_95, sX12_feed_96, sX12_feed_97, sX12_feed_98, sX12_feed_99, sX12_feed_102, sX12_feed_103, sX12_feed_104, sX12_feed_105, sX12_feed_106, sX12_feed_109, sX12_feed_110, sX12_feed_111, sX12_feed_114, sX12_feed_117, kX12_feed_120_AIIIIIIN, sX12_feed_120, sX12_feed_121, sX12_feed_124, evK_n, evK_v, evK_x, gI_pI, gJ_pI, gR_pI, gI_pJ, gJ_pJ, gR_pJ, gI_pR, gJ_pR, gR_pR, n32_le, n32_lt, n32_add, n32_mul, n32_cl, if_true, if_false, not_true_eq_false, not_false_eq_true, and_true, true_and, and_false, false_and, and_self, or_true, true_or, or_false, false_or, or_self, ne_eq, Decidable.not_not, Nat.reduceEqDiff, Nat.reduceEqDiff, sa_432, sb_432, sa_434, sb_434, r9, g1, c1', c2', c3', c4', h2, b1, hne, hr, hs, key, g2]
def Gfd (G : GS) (x1 x2 x3 x4 x5 : Int32) : GS := (fun i => if i < yL G then yB G i else b5 x1 x2 x3 x4 x5 (i - yL G), yL G + 20, yF G, yNf G, yNa G, yD G, yik G, yIm G)
theorem opn_feed {x1 x2 x3 x4 x5 : Int32} (h : Inv c s t) : OpN g (d + 35) mX11_feed mX12_feed [some (.ref (0 : Nat)), some (.int x1), some (.int x2), some (.int x3), some (.int x4), some (.int x5)] [some (.ref (432 : Nat)), some (.int x1), some (.int x2), some (.int x3), some (.int x4), some (.int x5), none, none] c s t := by
  obtain ⟨w, G, ver, hC, hM, hG, hw, hv⟩ := h
  have hF := hC.1.1
  have hM0 := hM.t0
  have h600 := hG.1
  have r00 := hF.u 0 0 1 (by decide +kernel)
  have r10 := hF.u 1 0 2 (by decide +kernel)
  have hl := hC.2.1
  have hm2 : gI (pI t 432 0 (Int32.ofNat 0)) 432 2 = Int32.ofNat (yL G) := hM0.2.2.2.1
  by_cases cL : yL G + 20 ≤ 600
  · have rm : ev g (d + 34) mX9_hasRoom 0 [some (.ref (1 : Nat)), some (.int (Int32.ofNat 20))] [] s = some (.inl (some (.int (Int32.ofNat 1))), s) := by
      have q : ¬ 580 < yL G := by omega
      have e : Int32.ofNat 600 - Int32.ofNat 20 = Int32.ofNat 580 := rfl
      simp (disch := first | exact jm_lt0 | (apply jm_ltx; (repeat (first | exact jw_0 | apply jw_i | apply jw_r | apply jw_l)); omega) | omega | assumption | exact sa_1 | exact sa_2 | exact n32_inA sb_1 (by omega) (by omega) | exact n32_inA sb_2 (by omega) (by omega) | (refine n32_inA (by assumption) ?_ ?_ <;> omega) | exact bi01 | (rw [sa_1]; omega) | (rw [sa_2]; omega) | decide) only [sX9_hasRoom_0, sX9_hasRoom_1, sX9_hasRoom_4, sX9_hasRoom_5, sX9_hasRoom_8, sX9_hasRoom_9, sX9_hasRoom_10, sX9_hasRoom_11, sX9_hasRoom_14, sX9_hasRoom_15, kX9_hasRoom_18_AI, sX9_hasRoom_18, kX9_hasRoom_19_AI, sX9_hasRoom_19, if_true, if_false, not_true_eq_false, not_false_eq_true, and_true, true_and, and_false, false_and, and_self, or_true, true_or, or_false, false_or, or_self, ne_eq, Decidable.not_not, Nat.reduceEqDiff, Nat.reduceEqDiff, sa_1, sb_1, sa_2, sb_2, r10, hl, e, n32_lt (show 580 < 2147483648 by decide) (show yL G < 2147483648 by omega), q]
    obtain ⟨s1, e1, y1, l1, p1⟩ := c9_put (g := g) (d := d + 34) (v := x1) hF (L := yL G) (by omega) hl
    have F1 := y1.fx hF
    obtain ⟨s2, e2, y2, l2, p2⟩ := c9_put (g := g) (d := d + 34) (v := x2) F1 (L := yL G + 4) (by omega) l1
    have F2 := y2.fx F1
    obtain ⟨s3, e3, y3, l3, p3⟩ := c9_put (g := g) (d := d + 34) (v := x3) F2 (L := yL G + 4 + 4) (by omega) l2
    have F3 := y3.fx F2
    obtain ⟨s4, e4, y4, l4, p4⟩ := c9_put (g := g) (d := d + 34) (v := x4) F3 (L := yL G + 4 + 4 + 4) (by omega) l3
    have F4 := y4.fx F3
    obtain ⟨s5, e5, y5, l5, p5⟩ := c9_put (g := g) (d := d + 34) (v := x5) F4 (L := yL G + 4 + 4 + 4 + 4) (by omega) l4
    have F5 := y5.fx F4
    have hy : FM (fun a j => (a = 1 ∧ j = 1) ∨ (a = 2 ∧ yL G ≤ j)) nO s s5 := ((((y1.mono (fun a j q => by omega) (fun _ _ q => q)).tr (y2.mono (fun a j q => by omega) (fun _ _ q => q))).tr (y3.mono (fun a j q => by omega) (fun _ _ q => q))).tr (y4.mono (fun a j q => by omega) (fun _ _ q => q))).tr (y5.mono (fun a j q => by omega) (fun _ _ q => q))
    have hb5 : ∀ j, j < 20 → gI s5 2 (yL G + j) = cb (b5 x1 x2 x3 x4 x5 j) := by
      intro j hj
      unfold b5
      by_cases c1 : j < 4
      · rw [if_pos c1, y5.2.1 _ _ (by omega), y4.2.1 _ _ (by omega), y3.2.1 _ _ (by omega), y2.2.1 _ _ (by omega), p1 j c1, show j % 4 = j by omega]
      · rw [if_neg c1]
        by_cases c2 : j < 8
        · rw [if_pos c2, y5.2.1 _ _ (by omega), y4.2.1 _ _ (by omega), y3.2.1 _ _ (by omega), show yL G + j = yL G + 4 + (j - 4) by omega, p2 (j - 4) (by omega), show j % 4 = j - 4 by omega]
        · rw [if_neg c2]
          by_cases c3 : j < 12
          · rw [if_pos c3, y5.2.1 _ _ (by omega), y4.2.1 _ _ (by omega), show yL G + j = yL G + 4 + 4 + (j - 8) by omega, p3 (j - 8) (by omega), show j % 4 = j - 8 by omega]
          · rw [if_neg c3]
            by_cases c4 : j < 16
            · rw [if_pos c4, y5.2.1 _ _ (by omega), show yL G + j = yL G + 4 + 4 + 4 + (j - 12) by omega, p4 (j - 12) (by omega), show j % 4 = j - 12 by omega]
            · rw [if_neg c4, show yL G + j = yL G + 4 + 4 + 4 + 4 + (j - 16) by omega, p5 (j - 16) (by omega), show j % 4 = j - 16 by omega]
    obtain ⟨t1, f1, f2, f3, f4⟩ := m_feedLoop (g := g) (d := d + 35) (L := yL G) (x1 := x1) (x2 := x2) (x3 := x3) (x4 := x4) (x5 := x5) hM0.1 (by omega) 20 0 (pI t 432 0 (Int32.ofNat 0)) none rfl FM.rf hm2 (fun j hj => by omega)
    have hFt := f2.fx hM0.1
    obtain ⟨g1, g2, g3, g4, g5, g6⟩ := id hG
    obtain ⟨a1, a2, a3, a4, a5, a6, a7, a9⟩ := hC.2
    obtain ⟨m1, m2, m3, m4, m5, m6, m7, m8⟩ := hM0.2.2.2
    have hb256 : ∀ j, b5 x1 x2 x3 x4 x5 j < 256 := fun j => bt8_lt
    have l5' : gI s5 1 1 = Int32.ofNat (yL G + 20) := l5
    refine ⟨Int32.ofNat (yL G + 20), s5, t1, ?_, ?_, ⟨w, Gfd G x1 x2 x3 x4 x5, ver, ⟨hC.1.of F5 (fun b j k1 k2 k3 => hy.2.1 _ _ (by omega)) (fun b j hb => ⟨hy.2.1 _ _ (by omega), hy.2.2 _ _ (fun q => q)⟩) (fun j _ => hy.gR _ _), ⟨l5', fun i hi => ?_, a3.of g3 (fun b j q1 q2 => hy.2.1 _ _ (by omega)), by rw [hy.2.1 _ _ (by omega)]; exact a4, fun i hi => (a5 i hi).of (g5 i hi) (fun b j q1 q2 => hy.2.1 _ _ (by omega)), by rw [hy.2.1 _ _ (by omega)]; exact a6, by rw [hy.2.1 _ _ (by omega)]; exact a7, by rw [hy.2.1 _ _ (by omega)]; exact a9⟩⟩, ⟨hFt, hM0.2.1.of (fun b j hb => f2.2.1 _ _ (by omega)) (fun b j _ => f2.2.2 _ _ (fun q => q)), hM0.2.2.1.y (fun b j hb => f2.2.1 _ _ (by omega)), ⟨f3, fun i hi => ?_, m3.k (fun b j hb => f2.2.1 _ _ (by omega)), by rw [f2.2.1 _ _ (by omega)]; exact m4, fun i hi => (m5 i hi).of (fun j => f2.2.1 _ _ (by omega)), by rw [f2.2.1 _ _ (by omega)]; exact m6, by rw [f2.2.1 _ _ (by omega)]; exact m7, by rw [f2.2.1 _ _ (by omega)]; exact m8⟩⟩, ⟨cL, fun i hi => ?_, g3, g4, g5, g6⟩, hw, by omega⟩, hy.clk (fun b j q => by omega) (fun b j q => q.elim), t0_mlk.tr (f2.mlk (fun b j q => by omega) (fun b j q => q.elim))⟩
    · have r00a := F1.u 0 0 1 (by decide +kernel)
      have r00b := F2.u 0 0 1 (by decide +kernel)
      have r00c := F3.u 0 0 1 (by decide +kernel)
      have r00d := F4.u 0 0 1 (by decide +kernel)
      have r00e := F5.u 0 0 1 (by decide +kernel)
      simp (disch := first | exact jm_lt0 | (apply jm_ltx; (repeat (first | exact jw_0 | apply jw_i | apply jw_r | apply jw_l)); omega) | omega | assumption | exact sa_0 | exact sa_1 | exact n32_inA sb_0 (by omega) (by omega) | exact n32_inA sb_1 (by omega) (by omega) | (refine n32_inA (by assumption) ?_ ?_ <;> omega) | exact bi01 | (rw [sa_0]; omega) | (rw [sa_1]; omega) | decide) only [sX11_feed_0, sX11_feed_1, sX11_feed_4, sX11_feed_6, sX11_feed_9, sX11_feed_12, sX11_feed_13, sX11_feed_14, sX11_feed_15, sX11_feed_18, sX11_feed_19, sX11_feed_22, sX11_feed_23, sX11_feed_26, sX11_feed_27, sX11_feed_30, sX11_feed_31, sX11_feed_34, sX11_feed_35, sX11_feed_38, sX11_feed_39, sX11_feed_42, sX11_feed_44, sX11_feed_47, sX11_feed_48, sX11_feed_51, sX11_feed_53, sX11_feed_56, sX11_feed_57, sX11_feed_60, sX11_feed_63, evK_n, evK_v, evK_x, gI_pI, gJ_pI, gR_pI, gI_pJ, gJ_pJ, gR_pJ, gI_pR, gJ_pR, gR_pR, if_true, if_false, not_true_eq_false, not_false_eq_true, and_true, true_and, and_false, false_and, and_self, or_true, true_or, or_false, false_or, or_self, ne_eq, Decidable.not_not, Nat.reduceEqDiff, Nat.reduceEqDiff, sa_0, sb_0, sa_1, sb_1, r00, rm, e1, r00a, e2, r00b, e3, r00c, e4, r00d, e5, r00e, l5', show ¬ (Int32.ofNat 1 = 0) by decide]
    · refine Eq.trans ?_ f1
      simp (disch := first | exact jm_lt0 | (apply jm_ltx; (repeat (first | exact jw_0 | apply jw_i | apply jw_r | apply jw_l)); omega) | omega | assumption | exact sa_432 | exact n32_inA sb_432 (by omega) (by omega) | (refine n32_inA (by assumption) ?_ ?_ <;> omega) | exact bi01 | (rw [sa_432]; omega) | decide) only [sX12_feed_0, sX12_feed_1, sX12_feed_2, sX12_feed_5, sX12_feed_6, sX12_feed_9, sX12_feed_11, sX12_feed_12, sX12_feed_15, sX12_feed_18, sX12_feed_19, sX12_feed_20, sX12_feed_21, kX12_feed_23_AIIIIIII, sX12_feed_25, sX12_feed_27, sX12_feed_30, sX12_feed_32, sX12_feed_33, sX12_feed_36, sX12_feed_37, sX12_feed_40, sX12_feed_42, sX12_feed_44, sX12_feed_47, sX12_feed_48, sX12_feed_51, sX12_feed_53, sX12_feed_55, sX12_feed_58, sX12_feed_59, sX12_feed_62, sX12_feed_64, sX12_feed_66, sX12_feed_69, sX12_feed_71, sX12_feed_74, sX12_feed_76, sX12_feed_78, sX12_feed_79, sX12_feed_82, sX12_feed_83, sX12_feed_86, sX12_feed_88, sX12_feed_90, sX12_feed_92, sX12_feed_94, sX12_feed_95, sX12_feed_96, sX12_feed_97, sX12_feed_98, sX12_feed_99, sX12_feed_102, sX12_feed_103, sX12_feed_104, sX12_feed_105, sX12_feed_106, sX12_feed_109, sX12_feed_110, sX12_feed_111, sX12_feed_114, sX12_feed_117, kX12_feed_120_AIIIIIIN, sX12_feed_120, sX12_feed_121, sX12_feed_124, evK_n, evK_v, evK_x, gI_pI, gJ_pI, gR_pI, gI_pJ, gJ_pJ, gR_pJ, gI_pR, gJ_pR, gR_pR, if_true, if_false, not_true_eq_false, not_false_eq_true, and_true, true_and, and_false, false_and, and_self, or_true, true_or, or_false, false_or, or_self, ne_eq, Decidable.not_not, Nat.reduceEqDiff, Nat.reduceEqDiff, n32_le, n32_lt, n32_add, n32_mul, n32_cl, sa_432, sb_432, hm2, cL]
    · show gI s5 2 i = cb (if i < yL G then yB G i else b5 x1 x2 x3 x4 x5 (i - yL G))
      have hi' : i < yL G + 20 := hi
      by_cases ci : i < yL G
      · rw [if_pos ci, hy.2.1 _ _ (by omega)]
        exact a2 i ci
      · rw [if_neg ci, show i = yL G + (i - yL G) by omega, hb5 _ (by omega), show yL G + (i - yL G) - yL G = i - yL G by omega]
    · show gI t1 434 i = Int32.ofNat (if i < yL G then yB G i else b5 x1 x2 x3 x4 x5 (i - yL G))
      have hi' : i < yL G + 20 := hi
      by_cases ci : i < yL G
      · rw [if_pos ci, f2.2.1 _ _ (by omega)]
        exact m2 i ci
      · rw [if_neg ci, show i = yL G + (i - yL G) by omega, f4 _ (by omega), show yL G + (i - yL G) - yL G = i - yL G by omega]
    · show (if i < yL G then yB G i else b5 x1 x2 x3 x4 x5 (i - yL G)) < 256
      by_cases ci : i < yL G
      · rw [if_pos ci]; exact g2 i ci
      · rw [if_neg ci]; exact hb256 _
  · refine ⟨-1, s, _, ?_, ?_, ⟨w, G, ver, hC, hM0, hG, hw, by omega⟩, CLK.rf, t0_mlk⟩
    · have q : 580 < yL G := by omega
      have e : Int32.ofNat 600 - Int32.ofNat 20 = Int32.ofNat 580 := rfl
      have rm : ev g (d + 34) mX9_hasRoom 0 [some (.ref (1 : Nat)), some (.int (Int32.ofNat 20))] [] s = some (.inl (some (.int (Int32.ofNat 0))), s) := by
        simp (disch := first | exact jm_lt0 | (apply jm_ltx; (repeat (first | exact jw_0 | apply jw_i | apply jw_r | apply jw_l)); omega) | omega | assumption | exact sa_1 | exact sa_2 | exact n32_inA sb_1 (by omega) (by omega) | exact n32_inA sb_2 (by omega) (by omega) | (refine n32_inA (by assumption) ?_ ?_ <;> omega) | exact bi01 | (rw [sa_1]; omega) | (rw [sa_2]; omega) | decide) only [sX9_hasRoom_0, sX9_hasRoom_1, sX9_hasRoom_4, sX9_hasRoom_5, sX9_hasRoom_8, sX9_hasRoom_9, sX9_hasRoom_10, sX9_hasRoom_11, sX9_hasRoom_14, sX9_hasRoom_15, kX9_hasRoom_18_AI, sX9_hasRoom_18, kX9_hasRoom_19_AI, sX9_hasRoom_19, if_true, if_false, not_true_eq_false, not_false_eq_true, and_true, true_and, and_false, false_and, and_self, or_true, true_or, or_false, false_or, or_self, ne_eq, Decidable.not_not, Nat.reduceEqDiff, Nat.reduceEqDiff, sa_1, sb_1, sa_2, sb_2, r10, hl, e, n32_lt (show 580 < 2147483648 by decide) (show yL G < 2147483648 by omega), q]
      simp (disch := first | exact jm_lt0 | (apply jm_ltx; (repeat (first | exact jw_0 | apply jw_i | apply jw_r | apply jw_l)); omega) | omega | assumption | exact sa_0 | exact n32_inA sb_0 (by omega) (by omega) | (refine n32_inA (by assumption) ?_ ?_ <;> omega) | exact bi01 | (rw [sa_0]; omega) | decide) only [sX11_feed_0, sX11_feed_1, sX11_feed_4, sX11_feed_6, sX11_feed_9, sX11_feed_12, sX11_feed_13, sX11_feed_14, sX11_feed_15, sX11_feed_18, sX11_feed_19, sX11_feed_22, sX11_feed_23, sX11_feed_26, sX11_feed_27, sX11_feed_30, sX11_feed_31, sX11_feed_34, sX11_feed_35, sX11_feed_38, sX11_feed_39, sX11_feed_42, sX11_feed_44, sX11_feed_47, sX11_feed_48, sX11_feed_51, sX11_feed_53, sX11_feed_56, sX11_feed_57, sX11_feed_60, sX11_feed_63, evK_n, evK_v, evK_x, gI_pI, gJ_pI, gR_pI, gI_pJ, gJ_pJ, gR_pJ, gI_pR, gJ_pR, gR_pR, if_true, if_false, not_true_eq_false, not_false_eq_true, and_true, true_and, and_false, false_and, and_self, or_true, true_or, or_false, false_or, or_self, ne_eq, Decidable.not_not, Nat.reduceEqDiff, Nat.reduceEqDiff, sa_0, sb_0, r00, rm, z32]
    · generalize ht : pI t 432 0 (Int32.ofNat 0) = t0 at *
      simp (disch := first | exact jm_lt0 | (apply jm_ltx; (repeat (first | exact jw_0 | apply jw_i | apply jw_r | apply jw_l)); omega) | omega | assumption | exact sa_432 | exact n32_inA sb_432 (by omega) (by omega) | (refine n32_inA (by assumption) ?_ ?_ <;> omega) | exact bi01 | (rw [sa_432]; omega) | decide) only [sX12_feed_0, sX12_feed_1, sX12_feed_2, sX12_feed_5, sX12_feed_6, sX12_feed_9, sX12_feed_11, sX12_feed_12, sX12_feed_15, sX12_feed_18, sX12_feed_19, sX12_feed_20, sX12_feed_21, kX12_feed_23_AIIIIIII, sX12_feed_25, sX12_feed_27, sX12_feed_30, sX12_feed_32, sX12_feed_33, sX12_feed_36, sX12_feed_37, sX12_feed_40, sX12_feed_42, sX12_feed_44, sX12_feed_47, sX12_feed_48, sX12_feed_51, sX12_feed_53, sX12_feed_55, sX12_feed_58, sX12_feed_59, sX12_feed_62, sX12_feed_64, sX12_feed_66, sX12_feed_69, sX12_feed_71, sX12_feed_74, sX12_feed_76, sX12_feed_78, sX12_feed_79, sX12_feed_82, sX12_feed_83, sX12_feed_86, sX12_feed_88, sX12_feed_90, sX12_feed_92, sX12_feed_94, sX12_feed_95, sX12_feed_96, sX12_feed_97, sX12_feed_98, sX12_feed_99, sX12_feed_102, sX12_feed_103, sX12_feed_104, sX12_feed_105, sX12_feed_106, sX12_feed_109, sX12_feed_110, sX12_feed_111, sX12_feed_114, sX12_feed_117, kX12_feed_120_AIIIIIIN, sX12_feed_120, sX12_feed_121, sX12_feed_124, ht, evK_n, evK_v, evK_x, gI_pI, gJ_pI, gR_pI, gI_pJ, gJ_pJ, gR_pJ, gI_pR, gJ_pR, gR_pR, if_true, if_false, not_true_eq_false, not_false_eq_true, and_true, true_and, and_false, false_and, and_self, or_true, true_or, or_false, false_or, or_self, ne_eq, Decidable.not_not, Nat.reduceEqDiff, Nat.reduceEqDiff, n32_le, n32_lt, n32_add, n32_mul, n32_cl, sa_432, sb_432, hm2]
      rw [if_neg cL]
end CL0
