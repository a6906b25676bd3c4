/-! a day that passes: draws -/
def dnu (y : Int32) : Nat := y.toUInt32.toNat / 65536 % 32768
theorem dn_bv (x : BitVec 32) : (x >>> 16 &&& 32767#32).toNat = x.toNat / 65536 % 32768 := by
  rw [BitVec.toNat_and, BitVec.toNat_ushiftRight, Nat.shiftRight_eq_div_pow]
  exact Nat.and_two_pow_sub_one_eq_mod _ 15
theorem dn_sr (x : BitVec 32) : x.sshiftRight 16 &&& 32767#32 = x >>> 16 &&& 32767#32 := by
  apply BitVec.eq_of_getLsbD_eq
  intro i hi
  rw [BitVec.getLsbD_and, BitVec.getLsbD_and]
  by_cases c : i < 15
  · congr 1
    rw [BitVec.getLsbD_sshiftRight, BitVec.getLsbD_ushiftRight]
    simp [show i < 32 by omega, show 16 + i < 32 by omega, show ¬ 32 ≤ i by omega]
  · have : (32767#32).getLsbD i = false := by
      rw [show (32767#32 : BitVec 32) = BitVec.ofNat 32 (2 ^ 15 - 1) from rfl, BitVec.getLsbD_ofNat, Nat.testBit_two_pow_sub_one]
      simp
      omega
    rw [this, Bool.and_false, Bool.and_false]
theorem dn_u (y : Int32) : ((y.toUInt32 >>> ((Int32.ofNat 16).toUInt32 &&& Int32.toUInt32 31)).toInt32) &&& Int32.ofNat 32767 = Int32.ofNat (dnu y) := by
  apply Int32.toBitVec_inj.mp
  apply BitVec.eq_of_toNat_eq
  have h1 : ((y.toUInt32 >>> ((Int32.ofNat 16).toUInt32 &&& Int32.toUInt32 31)).toInt32 &&& Int32.ofNat 32767).toBitVec = y.toBitVec >>> 16 &&& 32767#32 := rfl
  rw [h1, dn_bv]
  have h2 : (Int32.ofNat (dnu y)).toBitVec = BitVec.ofNat 32 (dnu y) := rfl
  rw [h2, BitVec.toNat_ofNat]
  unfold dnu
  have h3 : y.toUInt32.toNat = y.toBitVec.toNat := rfl
  rw [h3]
  omega
theorem dn_s (y : Int32) : (y >>> (Int32.ofNat 16 &&& 31)) &&& Int32.ofNat 32767 = Int32.ofNat (dnu y) := by
  rw [← dn_u y]
  apply Int32.toBitVec_inj.mp
  have h1 : ((y.toUInt32 >>> ((Int32.ofNat 16).toUInt32 &&& Int32.toUInt32 31)).toInt32 &&& Int32.ofNat 32767).toBitVec = y.toBitVec >>> 16 &&& 32767#32 := rfl
  have h2 : ((y >>> (Int32.ofNat 16 &&& 31)) &&& Int32.ofNat 32767).toBitVec = y.toBitVec.sshiftRight 16 &&& 32767#32 := by
    rw [Int32.toBitVec_and, Int32.toBitVec_shiftRight]
    rfl
  rw [h1, h2, dn_sr]
def nxt (y : Int32) : Int32 := y * Int32.ofNat 1103515245 + Int32.ofNat 12345
/-- so much is drawn of n -/
def drw (y : Int32) (n : Nat) : Nat := dnu (nxt y) % n
theorem dnu_lt (y : Int32) : dnu y < 32768 := Nat.mod_lt _ (by decide)
theorem m_draws {g : fm_g} {d n : Nat} {y : Int32} {t : fm_S} (h : gI t 432 57 = y) (hn : 1 ≤ n ∧ n < 100) : ev g d mX12_draws 0 [some (.ref (432 : Nat)), some (.int (Int32.ofNat n))] [] t = some (.inl (some (.int (Int32.ofNat (drw y n)))), pI t 432 57 (nxt y)) := by
  have h1 := dn_s (nxt y)
  have h2 := dnu_lt (nxt y)
  have hz : ¬ Int32.ofNat n = 0 := by rw [n32_eq0 (by omega)]; omega
  have hd := dv32 (a := dnu (nxt y)) (b := n) (by omega) (by omega)
  have hr := rm32 (a := dnu (nxt y)) (b := n) (by omega)
  unfold nxt at *
  simp (disch := first | exact jm_lt0 | (apply jm_ltx; (repeat (first | exact jw_0 | apply jw_i | apply jw_r | apply jw_l)); omega) | omega | assumption | exact sa_432 | exact n32_inA sb_432 (by omega) (by omega) | (refine n32_inA (by assumption) ?_ ?_ <;> omega) | exact bi01 | (rw [sa_432]; omega) | decide) only [sX12_draws_0, sX12_draws_1, sX12_draws_2, sX12_draws_5, sX12_draws_8, sX12_draws_9, sX12_draws_12, sX12_draws_13, sX12_draws_16, sX12_draws_17, sX12_draws_20, sX12_draws_22, sX12_draws_23, sX12_draws_26, sX12_draws_27, sX12_draws_28, sX12_draws_29, evK_n, evK_v, evK_x, gI_pI, gJ_pI, gR_pI, gI_pJ, gJ_pJ, gR_pJ, gI_pR, gJ_pR, gR_pR, if_true, if_false, not_true_eq_false, not_false_eq_true, and_true, true_and, and_false, false_and, and_self, or_true, true_or, or_false, false_or, or_self, ne_eq, Decidable.not_not, Nat.reduceEqDiff, Nat.reduceEqDiff, sa_432, sb_432, h, h1, hz, hd, n32_mul, hr]
  rfl
theorem c3_draw {g : fm_g} {d n : Nat} {y : Int32} {s : fm_S} (h : gI s 428 4 = y) (hn : 1 ≤ n ∧ n < 100) : ev g d mX3_draw 0 [some (.ref (428 : Nat)), some (.int (Int32.ofNat n)), none] [] s = some (.inl (some (.int (Int32.ofNat (drw y n)))), pI s 428 4 (nxt y)) := by
  have h1 := dn_u (nxt y)
  have h2 := dnu_lt (nxt y)
  have hz : ¬ Int32.ofNat n = 0 := by rw [n32_eq0 (by omega)]; omega
  have hle : ¬ Int32.ofNat n ≤ Int32.ofNat 0 := by rw [n32_le (by omega) (by omega)]; omega
  have hle' : ¬ Int32.ofNat n ≤ 0 := hle
  have hd := dv32 (a := dnu (nxt y)) (b := n) (by omega) (by omega)
  have hr := rm32 (a := dnu (nxt y)) (b := n) (by omega)
  unfold nxt at *
  simp (disch := first | exact jm_lt0 | (apply jm_ltx; (repeat (first | exact jw_0 | apply jw_i | apply jw_r | apply jw_l)); omega) | omega | assumption | exact sa_428 | exact n32_inA sb_428 (by omega) (by omega) | (refine n32_inA (by assumption) ?_ ?_ <;> omega) | exact bi01 | (rw [sa_428]; omega) | decide) only [sX3_draw_0, sX3_draw_1, sX3_draw_2, sX3_draw_5, sX3_draw_7, sX3_draw_8, sX3_draw_11, sX3_draw_12, sX3_draw_15, sX3_draw_16, sX3_draw_19, sX3_draw_21, sX3_draw_22, sX3_draw_25, sX3_draw_26, sX3_draw_27, sX3_draw_28, sX3_draw_31, sX3_draw_32, sX3_draw_33, sX3_draw_34, kX3_draw_37_AII, sX3_draw_37, kX3_draw_38_AII, sX3_draw_38, evK_n, evK_v, evK_x, gI_pI, gJ_pI, gR_pI, gI_pJ, gJ_pJ, gR_pJ, gI_pR, gJ_pR, gR_pR, if_true, if_false, not_true_eq_false, not_false_eq_true, and_true, true_and, and_false, false_and, and_self, or_true, true_or, or_false, false_or, or_self, ne_eq, Decidable.not_not, Nat.reduceEqDiff, Nat.reduceEqDiff, sa_428, sb_428, h, h1, hz, hle', hd, n32_mul, hr]
  rfl
