/-! what holds of all rows, and of the classes -/
theorem fm_okA : (jm_tb.all fun M => M.2.2.2.2.2.2.all (fm_ok jm_fk)) = true := by decide +kernel
theorem fm_okTb : ∀ M ∈ jm_tb, ∀ e ∈ M.2.2.2.2.2.2, fm_ok jm_fk e = true := fun M hM e he => List.all_eq_true.mp (List.all_eq_true.mp fm_okA M hM) e he
theorem fm_okB : (mL_law.2.2.2.2.2.2.all (fm_ok jm_fk)) = true := by decide +kernel
theorem fm_okL : ∀ e ∈ mL_law.2.2.2.2.2.2, fm_ok jm_fk e = true := List.all_eq_true.mp fm_okB
theorem jk_pl {W : List Cond} (ps : List Nat) (h : (decide (W = ps.filterMap (fun i => tables_1[i]?)) && W.all goodWord) = true) : ∀ w ∈ W, w ∈ jr_T := by
  intro w hw
  simp only [Bool.and_eq_true, decide_eq_true_eq] at h
  exact jr_g (List.mem_append_right _ (jw_pl ps h.1 w hw)) (List.all_eq_true.mp h.2 w hw)
def kG0 : jm_G := jm_G0 0 fun _ => 0
theorem cls0 : (∀ w ∈ u_ws RX0 TX0 4, w ∈ jr_T) ∧ (∃ ty : Nat → FieldType, (∀ k, k < 4 → parseFieldDescriptor (TX0 k).2.2.1 = some (ty k)) ∧ ∀ j, j < 4 → defaultValue (ty j) = vp_V (jm_fld kG0 0) j) ∧ (∀ a, a < 4 → ∀ b, b < 4 → a ≠ b → (TX0 a).2.1 ≠ (TX0 b).2.1) ∧ Cond.instantiable RX0 4 ∈ jr_T ∧ Cond.initialized RX0 ∈ jr_T ∧ jm_nam kG0 0 = RX0 ∧ (jm_fld kG0 0).length = 4 ∧ ∀ v ∈ jm_fld kG0 0, v = .int 0 ∨ v = .long 0 ∨ v = .null :=
  ⟨jk_pl [176, 178, 180, 182] (by decide +kernel), ⟨tyX0, tyX0_ok, by decide +kernel⟩, nmX0, jk_mem 166 (by decide +kernel) rfl, jk_mem 7 (by decide +kernel) rfl, rfl, rfl, by decide +kernel⟩
theorem cls1 : (∀ w ∈ u_ws RX1 TX1 3, w ∈ jr_T) ∧ (∃ ty : Nat → FieldType, (∀ k, k < 3 → parseFieldDescriptor (TX1 k).2.2.1 = some (ty k)) ∧ ∀ j, j < 3 → defaultValue (ty j) = vp_V (jm_fld kG0 1) j) ∧ (∀ a, a < 3 → ∀ b, b < 3 → a ≠ b → (TX1 a).2.1 ≠ (TX1 b).2.1) ∧ Cond.instantiable RX1 3 ∈ jr_T ∧ Cond.initialized RX1 ∈ jr_T ∧ jm_nam kG0 1 = RX1 ∧ (jm_fld kG0 1).length = 3 ∧ ∀ v ∈ jm_fld kG0 1, v = .int 0 ∨ v = .long 0 ∨ v = .null :=
  ⟨jk_pl [301, 303, 305] (by decide +kernel), ⟨tyX1, tyX1_ok, by decide +kernel⟩, nmX1, jk_mem 292 (by decide +kernel) rfl, jk_mem 11 (by decide +kernel) rfl, rfl, rfl, by decide +kernel⟩
theorem cls2 : (∀ w ∈ u_ws RX2 TX2 12, w ∈ jr_T) ∧ (∃ ty : Nat → FieldType, (∀ k, k < 12 → parseFieldDescriptor (TX2 k).2.2.1 = some (ty k)) ∧ ∀ j, j < 12 → defaultValue (ty j) = vp_V (jm_fld kG0 2) j) ∧ (∀ a, a < 12 → ∀ b, b < 12 → a ≠ b → (TX2 a).2.1 ≠ (TX2 b).2.1) ∧ Cond.instantiable RX2 12 ∈ jr_T ∧ Cond.initialized RX2 ∈ jr_T ∧ jm_nam kG0 2 = RX2 ∧ (jm_fld kG0 2).length = 12 ∧ ∀ v ∈ jm_fld kG0 2, v = .int 0 ∨ v = .long 0 ∨ v = .null :=
  ⟨jk_pl [265, 267, 269, 271, 273, 275, 277, 279, 281, 283, 285, 287] (by decide +kernel), ⟨tyX2, tyX2_ok, by decide +kernel⟩, nmX2, jk_mem 228 (by decide +kernel) rfl, jk_mem 10 (by decide +kernel) rfl, rfl, rfl, by decide +kernel⟩
theorem cls3 : (∀ w ∈ u_ws RX3 TX3 5, w ∈ jr_T) ∧ (∃ ty : Nat → FieldType, (∀ k, k < 5 → parseFieldDescriptor (TX3 k).2.2.1 = some (ty k)) ∧ ∀ j, j < 5 → defaultValue (ty j) = vp_V (jm_fld kG0 3) j) ∧ (∀ a, a < 5 → ∀ b, b < 5 → a ≠ b → (TX3 a).2.1 ≠ (TX3 b).2.1) ∧ Cond.instantiable RX3 5 ∈ jr_T ∧ Cond.initialized RX3 ∈ jr_T ∧ jm_nam kG0 3 = RX3 ∧ (jm_fld kG0 3).length = 5 ∧ ∀ v ∈ jm_fld kG0 3, v = .int 0 ∨ v = .long 0 ∨ v = .null :=
  ⟨jk_pl [423, 425, 427, 429, 431] (by decide +kernel), ⟨tyX3, tyX3_ok, by decide +kernel⟩, nmX3, jk_mem 409 (by decide +kernel) rfl, jk_mem 12 (by decide +kernel) rfl, rfl, rfl, by decide +kernel⟩
theorem cls4 : (∀ w ∈ u_ws RX4 TX4 4, w ∈ jr_T) ∧ (∃ ty : Nat → FieldType, (∀ k, k < 4 → parseFieldDescriptor (TX4 k).2.2.1 = some (ty k)) ∧ ∀ j, j < 4 → defaultValue (ty j) = vp_V (jm_fld kG0 4) j) ∧ (∀ a, a < 4 → ∀ b, b < 4 → a ≠ b → (TX4 a).2.1 ≠ (TX4 b).2.1) ∧ Cond.instantiable RX4 4 ∈ jr_T ∧ Cond.initialized RX4 ∈ jr_T ∧ jm_nam kG0 4 = RX4 ∧ (jm_fld kG0 4).length = 4 ∧ ∀ v ∈ jm_fld kG0 4, v = .int 0 ∨ v = .long 0 ∨ v = .null :=
  ⟨jk_pl [86, 88, 90, 92] (by decide +kernel), ⟨tyX4, tyX4_ok, by decide +kernel⟩, nmX4, jk_mem 74 (by decide +kernel) rfl, jk_mem 5 (by decide +kernel) rfl, rfl, rfl, by decide +kernel⟩
theorem cls5 : (∀ w ∈ u_ws RX5 TX5 9, w ∈ jr_T) ∧ (∃ ty : Nat → FieldType, (∀ k, k < 9 → parseFieldDescriptor (TX5 k).2.2.1 = some (ty k)) ∧ ∀ j, j < 9 → defaultValue (ty j) = vp_V (jm_fld kG0 5) j) ∧ (∀ a, a < 9 → ∀ b, b < 9 → a ≠ b → (TX5 a).2.1 ≠ (TX5 b).2.1) ∧ Cond.instantiable RX5 9 ∈ jr_T ∧ Cond.initialized RX5 ∈ jr_T ∧ jm_nam kG0 5 = RX5 ∧ (jm_fld kG0 5).length = 9 ∧ ∀ v ∈ jm_fld kG0 5, v = .int 0 ∨ v = .long 0 ∨ v = .null :=
  ⟨jk_pl [146, 148, 150, 152, 154, 156, 158, 160, 162] (by decide +kernel), ⟨tyX5, tyX5_ok, by decide +kernel⟩, nmX5, jk_mem 129 (by decide +kernel) rfl, jk_mem 6 (by decide +kernel) rfl, rfl, rfl, by decide +kernel⟩
theorem cls6 : (∀ w ∈ u_ws RX6 TX6 16, w ∈ jr_T) ∧ (∃ ty : Nat → FieldType, (∀ k, k < 16 → parseFieldDescriptor (TX6 k).2.2.1 = some (ty k)) ∧ ∀ j, j < 16 → defaultValue (ty j) = vp_V (jm_fld kG0 6) j) ∧ (∀ a, a < 16 → ∀ b, b < 16 → a ≠ b → (TX6 a).2.1 ≠ (TX6 b).2.1) ∧ Cond.instantiable RX6 16 ∈ jr_T ∧ Cond.initialized RX6 ∈ jr_T ∧ jm_nam kG0 6 = RX6 ∧ (jm_fld kG0 6).length = 16 ∧ ∀ v ∈ jm_fld kG0 6, v = .int 0 ∨ v = .long 0 ∨ v = .null :=
  ⟨jk_pl [375, 377, 379, 381, 383, 385, 387, 389, 391, 393, 395, 397, 399, 401, 403, 405] (by decide +kernel), ⟨tyX6, tyX6_ok, by decide +kernel⟩, nmX6, jk_mem 216 (by decide +kernel) rfl, jk_mem 8 (by decide +kernel) rfl, rfl, rfl, by decide +kernel⟩
theorem cls7 : (∀ w ∈ u_ws RX7 TX7 14, w ∈ jr_T) ∧ (∃ ty : Nat → FieldType, (∀ k, k < 14 → parseFieldDescriptor (TX7 k).2.2.1 = some (ty k)) ∧ ∀ j, j < 14 → defaultValue (ty j) = vp_V (jm_fld kG0 7) j) ∧ (∀ a, a < 14 → ∀ b, b < 14 → a ≠ b → (TX7 a).2.1 ≠ (TX7 b).2.1) ∧ Cond.instantiable RX7 14 ∈ jr_T ∧ Cond.initialized RX7 ∈ jr_T ∧ jm_nam kG0 7 = RX7 ∧ (jm_fld kG0 7).length = 14 ∧ ∀ v ∈ jm_fld kG0 7, v = .int 0 ∨ v = .long 0 ∨ v = .null :=
  ⟨jk_pl [328, 330, 332, 334, 336, 338, 340, 342, 344, 346, 348, 350, 352, 354] (by decide +kernel), ⟨tyX7, tyX7_ok, by decide +kernel⟩, nmX7, jk_mem 222 (by decide +kernel) rfl, jk_mem 9 (by decide +kernel) rfl, rfl, rfl, by decide +kernel⟩
theorem cls8 : (∀ w ∈ u_ws RX8 TX8 3, w ∈ jr_T) ∧ (∃ ty : Nat → FieldType, (∀ k, k < 3 → parseFieldDescriptor (TX8 k).2.2.1 = some (ty k)) ∧ ∀ j, j < 3 → defaultValue (ty j) = vp_V (jm_fld kG0 8) j) ∧ (∀ a, a < 3 → ∀ b, b < 3 → a ≠ b → (TX8 a).2.1 ≠ (TX8 b).2.1) ∧ Cond.instantiable RX8 3 ∈ jr_T ∧ Cond.initialized RX8 ∈ jr_T ∧ jm_nam kG0 8 = RX8 ∧ (jm_fld kG0 8).length = 3 ∧ ∀ v ∈ jm_fld kG0 8, v = .int 0 ∨ v = .long 0 ∨ v = .null :=
  ⟨jk_pl [120, 122, 124] (by decide +kernel), ⟨tyX8, tyX8_ok, by decide +kernel⟩, nmX8, jk_mem 68 (by decide +kernel) rfl, jk_mem 4 (by decide +kernel) rfl, rfl, rfl, by decide +kernel⟩
theorem cls9 : (∀ w ∈ u_ws RX9 TX9 6, w ∈ jr_T) ∧ (∃ ty : Nat → FieldType, (∀ k, k < 6 → parseFieldDescriptor (TX9 k).2.2.1 = some (ty k)) ∧ ∀ j, j < 6 → defaultValue (ty j) = vp_V (jm_fld kG0 9) j) ∧ (∀ a, a < 6 → ∀ b, b < 6 → a ≠ b → (TX9 a).2.1 ≠ (TX9 b).2.1) ∧ Cond.instantiable RX9 6 ∈ jr_T ∧ Cond.initialized RX9 ∈ jr_T ∧ jm_nam kG0 9 = RX9 ∧ (jm_fld kG0 9).length = 6 ∧ ∀ v ∈ jm_fld kG0 9, v = .int 0 ∨ v = .long 0 ∨ v = .null :=
  ⟨jk_pl [47, 49, 51, 53, 55, 57] (by decide +kernel), ⟨tyX9, tyX9_ok, by decide +kernel⟩, nmX9, jk_mem 33 (by decide +kernel) rfl, jk_mem 2 (by decide +kernel) rfl, rfl, rfl, by decide +kernel⟩
theorem cls10 : (∀ w ∈ u_ws RX10 TX10 4, w ∈ jr_T) ∧ (∃ ty : Nat → FieldType, (∀ k, k < 4 → parseFieldDescriptor (TX10 k).2.2.1 = some (ty k)) ∧ ∀ j, j < 4 → defaultValue (ty j) = vp_V (jm_fld kG0 10) j) ∧ (∀ a, a < 4 → ∀ b, b < 4 → a ≠ b → (TX10 a).2.1 ≠ (TX10 b).2.1) ∧ Cond.instantiable RX10 4 ∈ jr_T ∧ Cond.initialized RX10 ∈ jr_T ∧ jm_nam kG0 10 = RX10 ∧ (jm_fld kG0 10).length = 4 ∧ ∀ v ∈ jm_fld kG0 10, v = .int 0 ∨ v = .long 0 ∨ v = .null :=
  ⟨jk_pl [197, 199, 201, 203] (by decide +kernel), ⟨tyX10, tyX10_ok, by decide +kernel⟩, nmX10, jk_mem 62 (by decide +kernel) rfl, jk_mem 3 (by decide +kernel) rfl, rfl, rfl, by decide +kernel⟩
theorem cls11 : (∀ w ∈ u_ws RX11 TX11 12, w ∈ jr_T) ∧ (∃ ty : Nat → FieldType, (∀ k, k < 12 → parseFieldDescriptor (TX11 k).2.2.1 = some (ty k)) ∧ ∀ j, j < 12 → defaultValue (ty j) = vp_V (jm_fld kG0 11) j) ∧ (∀ a, a < 12 → ∀ b, b < 12 → a ≠ b → (TX11 a).2.1 ≠ (TX11 b).2.1) ∧ Cond.instantiable RX11 12 ∈ jr_T ∧ Cond.initialized RX11 ∈ jr_T ∧ jm_nam kG0 11 = RX11 ∧ (jm_fld kG0 11).length = 12 ∧ ∀ v ∈ jm_fld kG0 11, v = .int 0 ∨ v = .long 0 ∨ v = .null :=
  ⟨jk_pl [446, 448, 450, 452, 454, 456, 458, 460, 462, 464, 466, 468] (by decide +kernel), ⟨tyX11, tyX11_ok, by decide +kernel⟩, nmX11, jk_mem 25 (by decide +kernel) rfl, jk_mem 1 (by decide +kernel) rfl, rfl, rfl, by decide +kernel⟩
theorem cls12 : (∀ w ∈ u_ws RX12 TX12 65, w ∈ jr_T) ∧ (∃ ty : Nat → FieldType, (∀ k, k < 65 → parseFieldDescriptor (TX12 k).2.2.1 = some (ty k)) ∧ ∀ j, j < 65 → defaultValue (ty j) = vp_V (jm_fld kG0 12) j) ∧ (∀ a, a < 65 → ∀ b, b < 65 → a ≠ b → (TX12 a).2.1 ≠ (TX12 b).2.1) ∧ Cond.instantiable RX12 65 ∈ jr_T ∧ Cond.initialized RX12 ∈ jr_T ∧ jm_nam kG0 12 = RX12 ∧ (jm_fld kG0 12).length = 65 ∧ ∀ v ∈ jm_fld kG0 12, v = .int 0 ∨ v = .long 0 ∨ v = .null :=
  ⟨jk_pl [1648, 1650, 1652, 1654, 1656, 1658, 1660, 1662, 1664, 1666, 1668, 1670, 1672, 1674, 1676, 1678, 1680, 1682, 1684, 1686, 1688, 1690, 1692, 1694, 1696, 1698, 1700, 1702, 1704, 1706, 1708, 1710, 1712, 1714, 1716, 1718, 1720, 1722, 1724, 1726, 1728, 1730, 1732, 1734, 1736, 1738, 1740, 1742, 1744, 1746, 1748, 1750, 1752, 1754, 1756, 1758, 1760, 1762, 1764, 1766, 1768, 1770, 1772, 1774, 1776] (by decide +kernel), ⟨tyX12, tyX12_ok, by decide +kernel⟩, nmX12, jk_mem 1566 (by decide +kernel) rfl, jk_mem 13 (by decide +kernel) rfl, rfl, rfl, by decide +kernel⟩
theorem clsOK (Ln : Nat) (xs : Nat → Int32) : jr_cls vwCl (jm_G0 Ln xs) := by
  intro ci q hq
  match ci, hq with
  | 0, hq => cases hq; exact cls0
  | 1, hq => cases hq; exact cls1
  | 2, hq => cases hq; exact cls2
  | 3, hq => cases hq; exact cls3
  | 4, hq => cases hq; exact cls4
  | 5, hq => cases hq; exact cls5
  | 6, hq => cases hq; exact cls6
  | 7, hq => cases hq; exact cls7
  | 8, hq => cases hq; exact cls8
  | 9, hq => cases hq; exact cls9
  | 10, hq => cases hq; exact cls10
  | 11, hq => cases hq; exact cls11
  | 12, hq => cases hq; exact cls12
  | k + 13, hq => simp [vwCl] at hq
