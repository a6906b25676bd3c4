/-! the class's text and the model's stand at the same place, with the same orders -/
def PF (B : Nat → Nat) (e n p o : Nat) (s t : fm_S) : Prop := FX s ∧ FX t ∧ (∃ b, CT s B e b ∧ skp B e b = p) ∧ (∃ c, MT t B e c ∧ skp B e c = p) ∧ gI s 1 2 = 0 ∧ gI t 432 5 = -1 ∧ (gI s 156 6 = Int32.ofNat n ∧ gI s 1 3 = -1) ∧ gI t 432 28 = Int32.ofNat n ∧ gI t 432 7 = Int32.ofNat o ∧ n ≤ p ∧ ∀ i, i < n → ∃ k c, k ≤ 10 ∧ c ≤ 999 ∧ (k = 1 → c ≤ 7) ∧ gI s 161 i = Int32.ofNat (k * 1000 + c) ∧ gI t 441 i = Int32.ofNat k ∧ gI t 442 i = Int32.ofNat c
/-- both have refused, for the same reason at the same place -/
def PB (B : Nat → Nat) (e o : Nat) (s t : fm_S) : Prop := CX B e s ∧ FX t ∧ (∃ c, MT t B e c) ∧ gI t 432 5 ≠ -1 ∧ gI t 432 6 = gI s 1 2 ∧ gI t 432 5 = gI s 1 3 ∧ gI t 432 7 = Int32.ofNat o
/-- what the model's reading changes -/
def MR (t t' : fm_S) : Prop := t'.2 = t.2 ∧ ∀ b j, b ≠ 441 → b ≠ 442 → (b = 432 → j ≠ 4 ∧ j ≠ 5 ∧ j ≠ 6 ∧ j ≠ 7 ∧ j ≠ 28) → gI t' b j = gI t b j
theorem MR.rf {s : fm_S} : MR s s := ⟨rfl, fun _ _ _ _ _ => rfl⟩
theorem MR.tr {a b c : fm_S} (h : MR a b) (k : MR b c) : MR a c := ⟨k.1.trans h.1, fun x j h1 h2 h3 => (k.2 x j h1 h2 h3).trans (h.2 x j h1 h2 h3)⟩
/-- what the class's reading changes -/
def CS (s s' : fm_S) : Prop := s'.2 = s.2 ∧ ∀ b j, b ≠ 161 → ¬ (b = 156 ∧ j = 6) → (b = 1 → j ≠ 2 ∧ j ≠ 3 ∧ j ≠ 5) → gI s' b j = gI s b j
theorem CS.rf {s : fm_S} : CS s s := ⟨rfl, fun _ _ _ _ _ => rfl⟩
theorem CS.tr {a b c : fm_S} (h : CS a b) (k : CS b c) : CS a c := ⟨k.1.trans h.1, fun x j h1 h2 h3 => (k.2 x j h1 h2 h3).trans (h.2 x j h1 h2 h3)⟩
theorem CR.cs {a b : fm_S} (h : CR a b) : CS a b := ⟨h.1, fun x j h1 h2 h3 => h.2 x j h1 h2 (fun q => (h3 q.1).2.2 q.2)⟩
theorem CS.at {s : fm_S} {v : Int32} : CS s (pI s 1 5 v) := ⟨rfl, fun x j h1 h2 h3 => by rw [gI_pI, if_neg (fun q => (h3 q.1).2.2 q.2)]⟩
theorem MR.at {s : fm_S} {v : Int32} : MR s (pI s 432 4 v) := ⟨rfl, fun x j h1 h2 h3 => by rw [gI_pI, if_neg (fun q => (h3 q.1).1 q.2)]⟩
theorem CS.bad {s : fm_S} {k p : Nat} : CS s (flt s k p) := ⟨rfl, fun x j h1 h2 h3 => by
  unfold flt
  rw [gI_pI, if_neg (fun q => (h3 q.1).2.1 q.2), gI_pI, if_neg (fun q => (h3 q.1).1 q.2)]⟩
theorem MR.bad {s : fm_S} {k p : Nat} : MR s (mflt s k p) := ⟨rfl, fun x j h1 h2 h3 => by
  unfold mflt
  rw [gI_pI, if_neg (fun q => (h3 q.1).2.2.1 q.2), gI_pI, if_neg (fun q => (h3 q.1).2.1 q.2)]⟩
theorem CS.ord {s : fm_S} {n k a : Nat} : CS s (ord1 s n k a) := ⟨rfl, fun x j h1 h2 h3 => by
  unfold ord1
  rw [gI_pI, if_neg h2, gI_pI, if_neg (fun q => h1 q.1)]⟩
theorem MR.emi {s : fm_S} {n : Nat} {k a : Int32} : MR s (emi1 s n k a) := ⟨rfl, fun x j h1 h2 h3 => by
  unfold emi1
  rw [gI_pI, if_neg (fun q => (h3 q.1).2.2.2.2 q.2), gI_pI, if_neg (fun q => h2 q.1), gI_pI, if_neg (fun q => h1 q.1)]⟩
theorem PF.ple {B : Nat → Nat} {e n p o : Nat} {s t : fm_S} (h : PF B e n p o s t) : p ≤ e ∧ skp B e p = p ∧ e ≤ 600 := by
  obtain ⟨-, -, ⟨b, h1, rfl⟩, -⟩ := h
  exact ⟨(skp_le h1.2.2.1).2, skp_skp, h1.2.2.2.1⟩
theorem PF.sat {B : Nat → Nat} {e n p o : Nat} {s t : fm_S} (h : PF B e n p o s t) : PF B e n p o (pI s 1 5 (Int32.ofNat p)) t := by
  obtain ⟨q1, q2, q3⟩ := h.ple
  obtain ⟨h1, h2, ⟨b, h3, h3'⟩, h4, h5, h6, h7, h8, h9, hA, hB⟩ := h
  exact ⟨h1.pI, h2, ⟨p, h3.at q1, q2⟩, h4, by simpa [gI_pI] using h5, h6, by simpa [gI_pI] using h7, h8, h9, hA, by simpa [gI_pI] using hB⟩
theorem PF.mat {B : Nat → Nat} {e n p o : Nat} {s t : fm_S} (h : PF B e n p o s t) : PF B e n p o s (pI t 432 4 (Int32.ofNat p)) := by
  obtain ⟨q1, q2, q3⟩ := h.ple
  obtain ⟨h1, h2, h3, ⟨c, h4, h4'⟩, h5, h6, h7, h8, h9, hA, hB⟩ := h
  exact ⟨h1, h2.pI, h3, ⟨p, h4.at q1, q2⟩, h5, by simpa [gI_pI] using h6, h7, by simpa [gI_pI] using h8, by simpa [gI_pI] using h9, hA, by simpa [gI_pI] using hB⟩
theorem PF.fwd {B : Nat → Nat} {e n p o q : Nat} {s t : fm_S} (h : PF B e n p o s t) (hq : p ≤ q) (hqe : q ≤ e) : PF B e n (skp B e q) o (pI s 1 5 (Int32.ofNat (skp B e q))) (pI t 432 4 (Int32.ofNat q)) := by
  have hl := skp_le (B := B) hqe
  obtain ⟨h1, h2, ⟨b, h3, h3'⟩, ⟨c, h4, h4'⟩, h5, h6, h7, h8, h9, hA, hB⟩ := h
  exact ⟨h1.pI, h2.pI, ⟨q, h3.to hqe, rfl⟩, ⟨q, h4.at hqe, rfl⟩, by simpa [gI_pI] using h5, by simpa [gI_pI] using h6, by simpa [gI_pI] using h7, by simpa [gI_pI] using h8, by simpa [gI_pI] using h9, by omega, by simpa [gI_pI] using hB⟩
theorem PF.ord {B : Nat → Nat} {e n p o k c : Nat} {s t : fm_S} (h : PF B e n p o s t) (hn : n < p) (hk : k ≤ 10) (hc : c ≤ 999) (hc1 : k = 1 → c ≤ 7) : PF B e (n + 1) p o (ord1 s n k c) (emi1 t n (Int32.ofNat k) (Int32.ofNat c)) := by
  obtain ⟨h1, h2, ⟨b, h3, h3'⟩, ⟨c', h4, h4'⟩, h5, h6, h7, h8, h9, hA, hB⟩ := h
  obtain ⟨u1, u2, u3, u4, u5⟩ := h3
  obtain ⟨w1, w2, w3, w4, w5⟩ := h4
  refine ⟨h1.of rfl, h2.of rfl, ⟨b, ⟨?_, ?_, u3, u4, fun i hi => ?_⟩, h3'⟩, ⟨c', ⟨?_, ?_, w3, w4, fun i hi => ?_⟩, h4'⟩, ?_, ?_, ?_, ?_, ?_, by omega, fun i hi => ?_⟩
  · simpa [ord1, gI_pI] using u1
  · simpa [ord1, gI_pI] using u2
  · simpa [ord1, gI_pI] using u5 i hi
  · simpa [emi1, gI_pI] using w1
  · simpa [emi1, gI_pI] using w2
  · simpa [emi1, gI_pI] using w5 i hi
  · simpa [ord1, gI_pI] using h5
  · simpa [emi1, gI_pI] using h6
  · exact ⟨by simp [ord1, gI_pI], by simpa [ord1, gI_pI] using h7.2⟩
  · simp [emi1, gI_pI]
  · simpa [emi1, gI_pI] using h9
  · by_cases hin : i = n
    · subst hin
      exact ⟨k, c, hk, hc, hc1, by simp [ord1, gI_pI], by simp [emi1, gI_pI], by simp [emi1, gI_pI]⟩
    · obtain ⟨k', c'', g1, g2, g6, g3, g4, g5⟩ := hB i (by omega)
      exact ⟨k', c'', g1, g2, g6, by simpa [ord1, gI_pI, hin] using g3, by simpa [emi1, gI_pI, hin] using g4, by simpa [emi1, gI_pI, hin] using g5⟩
theorem PF.bad {B : Nat → Nat} {e n p o k q c : Nat} {s t : fm_S} (h : PF B e n p o s t) (he : e ≤ 150) (hk : 0 < k ∧ k < 10) (hq : q ≤ 600) (hc : c ≤ e) : PB B e o (flt (pI s 1 5 (Int32.ofNat p)) k q) (mflt (pI t 432 4 (Int32.ofNat c)) k q) := by
  replace h := h.sat
  obtain ⟨q1, -, -⟩ := h.ple
  generalize pI s 1 5 (Int32.ofNat p) = s at h ⊢
  obtain ⟨h1, h2, ⟨b, h3, h3'⟩, ⟨c', h4, h4'⟩, h5, h6, h7, h8, h9, hA, hB⟩ := h
  obtain ⟨u1, u2, u3, u4, u5⟩ := h3
  obtain ⟨w1, w2, w3, w4, w5⟩ := h4.at hc
  refine ⟨⟨h1.of rfl, ⟨skp B e b, ⟨?_, ?_, (skp_le u3).2, u4, fun i hi => ?_⟩⟩, ?_, n, by omega, ?_⟩, h2.of rfl, ⟨c, ⟨?_, ?_, w3, w4, fun i hi => ?_⟩⟩, ?_, ?_, ?_, ?_⟩
  · simpa [flt, gI_pI] using u1
  · simpa [flt, gI_pI] using u2
  · simpa [flt, gI_pI] using u5 i hi
  · rw [show gI (flt s k q) 1 2 = Int32.ofNat k by simp [flt, gI_pI], ne_eq, n32_eq0 (by omega)]
    omega
  · simpa [flt, gI_pI] using h7.1
  · simpa [mflt, gI_pI] using w1
  · simpa [mflt, gI_pI] using w2
  · simpa [mflt, gI_pI] using w5 i hi
  · rw [show gI (mflt (pI t 432 4 (Int32.ofNat c)) k q) 432 5 = Int32.ofNat q by simp [mflt, gI_pI], ne_eq, n32_neg (by omega)]
    exact id
  · simp [mflt, flt, gI_pI]
  · simp [mflt, flt, gI_pI]
  · simpa [mflt, gI_pI] using h9
/-- what an order does to a stack of numbers (false) and conditions (true) -/
def ty1 (k : Nat) (S : List Bool) : Option (List Bool) := if k ≤ 1 then some (false :: S) else match S with
  | [] => none
  | a :: r => if k = 8 then (if a = true then some (true :: r) else none) else match r with
    | [] => none
    | b :: r' => if k ≤ 7 then (if a = false ∧ b = false then some (decide (5 ≤ k) :: r') else none) else (if a = true ∧ b = true then some (true :: r') else none)
def tyS (R : Nat → Int32) : Nat → Nat → List Bool → Option (List Bool)
  | _, 0, S => some S
  | a, m + 1, S => (ty1 (R a).toNatClampNeg S).bind (tyS R (a + 1) m)
theorem tyS_add {R : Nat → Int32} : ∀ (m m' a : Nat) (S : List Bool), tyS R a (m + m') S = (tyS R a m S).bind (tyS R (a + m) m')
  | 0, m', a, S => by rw [Nat.zero_add]; rfl
  | m + 1, m', a, S => by
    rw [show m + 1 + m' = (m + m') + 1 by omega, tyS, tyS, Option.bind_assoc]
    congr 1
    funext S1
    rw [tyS_add m m' (a + 1) S1, show a + 1 + m = a + (m + 1) by omega]
theorem tyS_congr {R R' : Nat → Int32} : ∀ (m a : Nat) (S : List Bool), (∀ i, a ≤ i → i < a + m → R' i = R i) → tyS R' a m S = tyS R a m S
  | 0, _, _, _ => rfl
  | m + 1, a, S, h => by
    rw [tyS, tyS, h a (Nat.le_refl _) (by omega)]
    congr 1
    funext S1
    exact tyS_congr m (a + 1) S1 (fun i h1 h2 => h i (by omega) (by omega))
/-- the orders from n to n' leave one number or condition more; those ahead are as they were -/
def GW (ty : Bool) (n n' : Nat) (R R' : Nat → Int32) : Prop := n ≤ n' ∧ (∀ i, i < n → R' i = R i) ∧ ∀ S, tyS R' n (n' - n) S = some (ty :: S)
theorem GW.one {ty : Bool} {n k : Nat} {R : Nat → Int32} (hk : k ≤ 1 ∧ ty = false) : GW ty n (n + 1) R (fun i => if i = n then Int32.ofNat k else R i) := by
  refine ⟨by omega, fun i hi => if_neg (by omega), fun S => ?_⟩
  rw [show n + 1 - n = 0 + 1 by omega, tyS, if_pos rfl, n32_cl (by omega), ty1.eq_def, if_pos hk.1, hk.2]
  rfl
theorem GW.un {n n1 : Nat} {R R1 : Nat → Int32} (h : GW true n n1 R R1) : GW true n (n1 + 1) R (fun i => if i = n1 then Int32.ofNat 8 else R1 i) := by
  obtain ⟨h1, h2, h3⟩ := h
  refine ⟨by omega, fun i hi => by simp only [if_neg (show ¬ i = n1 by omega)]; exact h2 i hi, fun S => ?_⟩
  rw [show n1 + 1 - n = (n1 - n) + (0 + 1) by omega, tyS_add, tyS_congr (R := R1) _ _ _ (fun i h4 h5 => if_neg (by omega)), h3 S, show n + (n1 - n) = n1 by omega]
  show (ty1 (if n1 = n1 then Int32.ofNat 8 else R1 n1).toNatClampNeg (true :: S)).bind _ = _
  rw [if_pos rfl]
  rfl
theorem GW.bin {ty ty' : Bool} {k n n1 n2 : Nat} {R R1 R2 : Nat → Int32} (hk : k < 1000) (hy : ∀ S, ty1 k (ty :: ty :: S) = some (ty' :: S)) (h : GW ty n n1 R R1) (h' : GW ty n1 n2 R1 R2) : GW ty' n (n2 + 1) R (fun i => if i = n2 then Int32.ofNat k else R2 i) := by
  obtain ⟨h1, h2, h3⟩ := h
  obtain ⟨g1, g2, g3⟩ := h'
  refine ⟨by omega, fun i hi => by simp only [if_neg (show ¬ i = n2 by omega)]; rw [g2 i (by omega), h2 i hi], fun S => ?_⟩
  have e1 : tyS (fun i => if i = n2 then Int32.ofNat k else R2 i) n (n1 - n) S = some (ty :: S) := by
    rw [tyS_congr (R := R1) _ _ _ (fun i h4 h5 => by simp only [if_neg (show ¬ i = n2 by omega)]; exact g2 i (by omega)), h3 S]
  have e2 : tyS (fun i => if i = n2 then Int32.ofNat k else R2 i) n1 (n2 - n1) (ty :: S) = some (ty :: ty :: S) := by
    rw [tyS_congr (R := R2) _ _ _ (fun i h4 h5 => if_neg (by omega)), g3 (ty :: S)]
  rw [show n2 + 1 - n = (n1 - n) + ((n2 - n1) + (0 + 1)) by omega, tyS_add, e1, Option.bind_some, show n + (n1 - n) = n1 by omega, tyS_add, e2, Option.bind_some, show n1 + (n2 - n1) = n2 by omega]
  show (ty1 (if n2 = n2 then Int32.ofNat k else R2 n2).toNatClampNeg (ty :: ty :: S)).bind _ = _
  rw [if_pos rfl, n32_cl (by omega), hy]
  rfl
theorem g441 {t : fm_S} {j : Nat} {v : Int32} : gI (pI t 432 j v) 441 = gI t 441 := by
  funext i
  rw [gI_pI, if_neg (by omega)]
theorem g441e {t : fm_S} {n : Nat} {k a : Int32} : gI (emi1 t n k a) 441 = fun i => if i = n then k else gI t 441 i := by
  funext i
  unfold emi1
  rw [gI_pI, if_neg (by omega), gI_pI, if_neg (by omega), gI_pI]
  simp
/-- how a reading ends: fine, with more orders and further on; or both have refused -/
def LC (B : Nat → Nat) (e o : Nat) (ty : Bool) (n p : Nat) (t s' t' : fm_S) : Prop := (∃ n' p', p < p' ∧ n' + p ≤ n + p' ∧ PF B e n' p' o s' t' ∧ GW ty n n' (gI t 441) (gI t' 441)) ∨ PB B e o s' t'
