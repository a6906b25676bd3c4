/-! small numbers as ints and longs -/
theorem n32_le {a b : Nat} (ha : a < 2147483648) (hb : b < 2147483648) : (Int32.ofNat a ≤ Int32.ofNat b) = (a ≤ b) := propext (Int32.ofNat_le_iff_le ha hb)
theorem n32_lt {a b : Nat} (ha : a < 2147483648) (hb : b < 2147483648) : (Int32.ofNat a < Int32.ofNat b) = (a < b) := propext (Int32.ofNat_lt_iff_lt ha hb)
theorem n32_add (a b : Nat) : Int32.ofNat a + Int32.ofNat b = Int32.ofNat (a + b) := (Int32.ofNat_add a b).symm
theorem n32_mul (a b : Nat) : Int32.ofNat a * Int32.ofNat b = Int32.ofNat (a * b) := (Int32.ofNat_mul a b).symm
theorem n32_sub {a b : Nat} (h : b ≤ a) : Int32.ofNat a - Int32.ofNat b = Int32.ofNat (a - b) := (Int32.ofNat_sub a b h).symm
theorem n32_div {a b : Nat} (ha : a < 2147483648) (hb : b < 2147483648) : Int32.ofNat a / Int32.ofNat b = Int32.ofNat (a / b) := (Int32.ofNat_div ha hb).symm
theorem n32_mod {a b : Nat} (ha : a < 2147483648) (hb : b < 2147483648) : Int32.ofNat a - Int32.ofNat a / Int32.ofNat b * Int32.ofNat b = Int32.ofNat (a % b) := by
  have h1 : a / b * b ≤ a := Nat.div_mul_le_self a b
  rw [n32_div ha hb, n32_mul, n32_sub h1]
  congr 1
  have := Nat.div_add_mod a b
  rw [Nat.mul_comm] at this
  omega
theorem n32_toInt {a : Nat} (ha : a < 2147483648) : (Int32.ofNat a).toInt = a := Int32.toInt_ofNat_of_lt ha
theorem n32_eq {a b : Nat} (ha : a < 2147483648) (hb : b < 2147483648) : (Int32.ofNat a = Int32.ofNat b) = (a = b) := by
  refine propext ⟨fun h => ?_, fun h => by rw [h]⟩
  have h1 := congrArg Int32.toInt h
  rw [n32_toInt ha, n32_toInt hb] at h1
  omega
theorem n32_in {i n : Nat} (hi : i < 2147483648) : jm_in (Int32.ofNat i) n = decide (i < n) := by
  have h1 : (Int32.ofNat i).toNatClampNeg = i := Int32.toNatClampNeg_ofNat_of_lt hi
  have h2 : ¬ Int32.ofNat i < 0 := by
    show ¬ Int32.ofNat i < Int32.ofNat 0
    rw [n32_lt hi (by decide)]
    omega
  unfold jm_in
  rw [h1]
  simp [h2]
theorem n32_in' {i n : Nat} (hi : i < 2147483648) (h : i < n) : jm_in (Int32.ofNat i) n = true := by
  rw [n32_in hi]
  exact decide_eq_true h
theorem n32_cl {i : Nat} (hi : i < 2147483648) : (Int32.ofNat i).toNatClampNeg = i := Int32.toNatClampNeg_ofNat_of_lt hi
theorem n32_eq0 {a : Nat} (ha : a < 2147483648) : (Int32.ofNat a = 0) = (a = 0) := n32_eq (b := 0) ha (by decide)
theorem n32_eq1 {a : Nat} (ha : a < 2147483648) : (Int32.ofNat a = 1) = (a = 1) := n32_eq (b := 1) ha (by decide)
theorem n32_lt0 {a : Nat} (ha : a < 2147483648) : (Int32.ofNat a < 0) = False := by
  rw [show (0 : Int32) = Int32.ofNat 0 from rfl, n32_lt ha (by decide)]
  simp
theorem n32_0le {a : Nat} (ha : a < 2147483648) : ((0 : Int32) ≤ Int32.ofNat a) = True := by
  rw [show (0 : Int32) = Int32.ofNat 0 from rfl, n32_le (by decide) ha]
  simp
theorem n32_0lt {a : Nat} (ha : a < 2147483648) : ((0 : Int32) < Int32.ofNat a) = (0 < a) := n32_lt (a := 0) (by decide) ha
theorem n32_le0 {a : Nat} (ha : a < 2147483648) : (Int32.ofNat a ≤ 0) = (a = 0) := by
  rw [show (0 : Int32) = Int32.ofNat 0 from rfl, n32_le ha (by decide)]
  simp
theorem n32_neg {a : Nat} (ha : a < 2147483648) : (Int32.ofNat a = -1) = False := by
  refine propext ⟨fun h => ?_, False.elim⟩
  have h1 := congrArg Int32.toInt h
  rw [n32_toInt ha] at h1
  have h2 : (-1 : Int32).toInt = -1 := by decide
  omega
theorem n32_64 {a : Nat} (ha : a < 2147483648) : (Int32.ofNat a).toInt64 = Int64.ofNat a := Int32.toInt64_ofNat' (by rw [Int32.toInt_maxValue]; omega)
theorem n32_i {x : Int32} (h : 0 ≤ x) : ∃ a, x = Int32.ofNat a ∧ a < 2147483648 := by
  have h1 : (0 : Int) ≤ x.toInt := by
    have := Int32.le_iff_toInt_le.mp h
    simpa using this
  have h2 := x.toInt_lt
  refine ⟨x.toInt.toNat, ?_, by omega⟩
  apply Int32.toInt_inj.mp
  rw [n32_toInt (by omega)]
  omega
theorem n64_le {a b : Nat} (ha : a < 9223372036854775808) (hb : b < 9223372036854775808) : (Int64.ofNat a ≤ Int64.ofNat b) = (a ≤ b) := propext (Int64.ofNat_le_iff_le ha hb)
theorem n64_lt {a b : Nat} (ha : a < 9223372036854775808) (hb : b < 9223372036854775808) : (Int64.ofNat a < Int64.ofNat b) = (a < b) := propext (Int64.ofNat_lt_iff_lt ha hb)
theorem n64_add (a b : Nat) : Int64.ofNat a + Int64.ofNat b = Int64.ofNat (a + b) := (Int64.ofNat_add a b).symm
theorem n64_mul (a b : Nat) : Int64.ofNat a * Int64.ofNat b = Int64.ofNat (a * b) := (Int64.ofNat_mul a b).symm
theorem n64_sub {a b : Nat} (h : b ≤ a) : Int64.ofNat a - Int64.ofNat b = Int64.ofNat (a - b) := (Int64.ofNat_sub a b h).symm
theorem n64_div {a b : Nat} (ha : a < 9223372036854775808) (hb : b < 9223372036854775808) : Int64.ofNat a / Int64.ofNat b = Int64.ofNat (a / b) := (Int64.ofNat_div ha hb).symm
theorem n64_mod {a b : Nat} (ha : a < 9223372036854775808) (hb : b < 9223372036854775808) : Int64.ofNat a - Int64.ofNat a / Int64.ofNat b * Int64.ofNat b = Int64.ofNat (a % b) := by
  have h1 : a / b * b ≤ a := Nat.div_mul_le_self a b
  rw [n64_div ha hb, n64_mul, n64_sub h1]
  congr 1
  have := Nat.div_add_mod a b
  rw [Nat.mul_comm] at this
  omega
theorem n64_toInt {a : Nat} (ha : a < 9223372036854775808) : (Int64.ofNat a).toInt = a := Int64.toInt_ofNat_of_lt ha
theorem n64_eq {a b : Nat} (ha : a < 9223372036854775808) (hb : b < 9223372036854775808) : (Int64.ofNat a = Int64.ofNat b) = (a = b) := by
  refine propext ⟨fun h => ?_, fun h => by rw [h]⟩
  have h1 := congrArg Int64.toInt h
  rw [n64_toInt ha, n64_toInt hb] at h1
  omega
theorem n64_cge (x y : Int64) : (0 ≤ lg_cmp x y) = (y ≤ x) := propext (lg_cmp_ge x y)
theorem n64_cle (x y : Int64) : (lg_cmp x y ≤ 0) = (x ≤ y) := propext (lg_cmp_le x y)
theorem n64_cgt (x y : Int64) : (0 < lg_cmp x y) = (y < x) := propext (lg_cmp_gt x y)
theorem n64_clt (x y : Int64) : (lg_cmp x y < 0) = (x < y) := propext (lg_cmp_lt x y)
theorem n64_ceq (x y : Int64) : (lg_cmp x y = 0) = (x = y) := propext (lg_cmp_eq x y)
theorem n64_cne (x y : Int64) : (lg_cmp x y ≠ 0) = (x ≠ y) := by rw [ne_eq, n64_ceq]
theorem jm_lt0 : jm_lt [] = true := rfl
theorem jm_lti {x : Int32} : jm_lt [.int x] = true := rfl
theorem jm_ltr {x : Nat} : jm_lt [.ref x] = true := rfl
theorem jm_ltl {x : Int64} : jm_lt [.long x] = true := rfl
theorem jm_lti2 {x y : Int32} : jm_lt [.int x, .int y] = true := rfl
theorem jm_ltri {x : Int32} {y : Nat} : jm_lt [.ref y, .int x] = true := rfl
theorem jm_ltir {x : Int32} {y : Nat} : jm_lt [.int x, .ref y] = true := rfl
theorem jm_ltrr {x y : Nat} : jm_lt [.ref x, .ref y] = true := rfl
theorem jm_ltl2 {x y : Int64} : jm_lt [.long x, .long y] = true := rfl
theorem jm_ltrl {x : Int64} {y : Nat} : jm_lt [.ref y, .long x] = true := rfl
theorem jm_ltlr {x : Int64} {y : Nat} : jm_lt [.long x, .ref y] = true := rfl
