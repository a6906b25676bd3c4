/-! THE FLAT MACHINE: all cells are there already, each has its shape for good; what they hold stands in three rows (ints, longs, places of other cells; 0 in a row: null) by cell and field or element -/
abbrev fm_S : Type := (Nat → Nat → Int32) × (Nat → Nat → Int64) × (Nat → Nat → Nat) × Nat × Nat
def gI (s : fm_S) (a j : Nat) : Int32 := s.1 a j
def gJ (s : fm_S) (a j : Nat) : Int64 := s.2.1 a j
def gR (s : fm_S) (a j : Nat) : Nat := s.2.2.1 a j
def pI (s : fm_S) (a j : Nat) (v : Int32) : fm_S := (fun b k => if b = a ∧ k = j then v else s.1 b k, s.2)
def pJ (s : fm_S) (a j : Nat) (v : Int64) : fm_S := (s.1, fun b k => if b = a ∧ k = j then v else s.2.1 b k, s.2.2)
def pR (s : fm_S) (a j : Nat) (v : Nat) : fm_S := (s.1, s.2.1, fun b k => if b = a ∧ k = j then v else s.2.2.1 b k, s.2.2.2)
/-- an exception was made -/
def pX (s : fm_S) : fm_S := (s.1, s.2.1, s.2.2.1, s.2.2.2.1 + 1, s.2.2.2.2 + 6)
/-- the shape of a cell: below 60 an object of that class and how many fields, 60 an int array and its length, 61 bytes, 62 longs, 64 rows of ints, 65 rows of longs, 70 + c objects of class c, 99 no such cell -/
abbrev fm_H : Type := Nat → Nat × Nat
def fm_stp (sh : fm_H) (G : jm_G) (e : jm_I) (L : jm_L) (st : List Value) (s : fm_S) : Option (Nat × jm_L × List Value × fm_S) := match e with
  | (pc, i, np, x, y, z, w, v, bs) => match i with
    | .getfield _ => match st with
      | .ref a :: r => if (sh a).1 = x ∧ x < 50 then some (np, L, (if z = 0 then .int (gI s a y) else if z = 1 then .long (gJ s a y) else .ref (gR s a y)) :: r, s) else none
      | .retAddr k :: r => if x = 50 ∧ k < G.2.1.length then (if y = 0 then some (np, L, .retAddr (k + 1000) :: r, s) else some (np, L, .int 0 :: r, s)) else none
      | _ => none
    | .putfield _ => match st with
      | .int v :: .ref a :: r => if (sh a).1 = x ∧ (z = 0 ∨ (z = 3 ∧ (v = 0 ∨ v = 1))) then some (np, L, r, pI s a y v) else none
      | .long v :: .ref a :: r => if (sh a).1 = x ∧ z = 1 then some (np, L, r, pJ s a y v) else none
      | .ref v :: .ref a :: r => if (sh a).1 = x ∧ z = 2 then some (np, L, r, pR s a y v) else none
      | _ => none
    | .iaload => match st with
      | .int k :: .ref a :: r => if (sh a).1 = 60 ∧ jm_in k (sh a).2 = true then some (np, L, .int (gI s a k.toNatClampNeg) :: r, s) else none
      | .int k :: .float u :: r => if u = 0 ∧ jm_in k G.2.2.1 = true then some (np, L, .int (G.2.2.2 k.toNatClampNeg) :: r, s) else none
      | _ => none
    | .baload => match st with
      | .int k :: .ref a :: r => if (sh a).1 = 61 ∧ jm_in k (sh a).2 = true then some (np, L, .int (gI s a k.toNatClampNeg) :: r, s) else none
      | .int j :: .retAddr k :: r => if k < 1000 then none else match G.2.1[k - 1000]? with
        | some t => if jm_in j t.length = true then some (np, L, .int (t.getD j.toNatClampNeg 0) :: r, s) else none
        | none => none
      | _ => none
    | .laload => match st with
      | .int k :: .ref a :: r => if (sh a).1 = 62 ∧ jm_in k (sh a).2 = true then some (np, L, .long (gJ s a k.toNatClampNeg) :: r, s) else none
      | _ => none
    | .aaload => match st with
      | .int k :: .ref a :: r => if 64 ≤ (sh a).1 ∧ jm_in k (sh a).2 = true then some (np, L, (if gR s a k.toNatClampNeg = 0 then .null else .ref (gR s a k.toNatClampNeg)) :: r, s) else none
      | _ => none
    | .iastore => match st with
      | .int v :: .int k :: .ref a :: r => if (sh a).1 = 60 ∧ jm_in k (sh a).2 = true then some (np, L, r, pI s a k.toNatClampNeg v) else none
      | _ => none
    | .bastore => match st with
      | .int v :: .int k :: .ref a :: r => if (sh a).1 = 61 ∧ jm_in k (sh a).2 = true then some (np, L, r, pI s a k.toNatClampNeg (vp_nar .byte v)) else none
      | _ => none
    | .lastore => match st with
      | .long v :: .int k :: .ref a :: r => if (sh a).1 = 62 ∧ jm_in k (sh a).2 = true then some (np, L, r, pJ s a k.toNatClampNeg v) else none
      | _ => none
    | .aastore => match st with
      | .ref v :: .int k :: .ref a :: r => if (sh a).1 = 70 + x ∧ (sh v).1 = x ∧ x < 60 ∧ jm_in k (sh a).2 = true ∧ v ≠ 0 then some (np, L, r, pR s a k.toNatClampNeg v) else none
      | _ => none
    | .arraylength => match st with
      | .ref a :: r => if 60 ≤ (sh a).1 ∧ (sh a).1 < 99 then some (np, L, .int (Int32.ofNat (sh a).2) :: r, s) else none
      | .float u :: r => if u = 0 then some (np, L, .int (Int32.ofNat G.2.2.1) :: r, s) else none
      | .retAddr k :: r => if k < 1000 then none else (G.2.1[k - 1000]?).map (fun t => (np, L, .int (Int32.ofNat t.length) :: r, s))
      | _ => none
    | .new _ => none
    | .newarray _ => none
    | .anewarray _ => none
    | .multianewarray _ _ => none
    | _ => (jm_stp G e L st ([], 0, 0)).map fun q => (q.1, q.2.1, q.2.2.1, s)
def fm_rcv (sh : fm_H) (G : jm_G) (i : Instr) (ci : Nat) (vs : List Value) : Bool := match i with
  | .invokestatic _ => true
  | .invokespecial _ => match vs with
    | .ref _ :: _ => true
    | _ => false
  | _ => match vs with
    | .ref a :: _ => decide ((sh a).1 = ci ∧ ci < 60)
    | .retAddr k :: _ => decide (ci = 50 ∧ k < G.2.1.length)
    | _ => false
def fm_run (sh : fm_H) (G : jm_G) (tb : List jm_M) : Nat → Nat → jm_M → Nat → jm_L → List Value → fm_S → Option (jm_O × fm_S)
  | 0, _, _, _, _, _, _ => none
  | n + 1, d, M, pc, L0, st, s => match jm_at M.2.2.2.2.2.2 pc with
    | none => none
    | some e => match (if e.2.2.2.2.2.2.2.2 = [] then L0 else jm_mask e.2.2.2.2.2.2.2.2 L0) with
      | L => match jm_kind e with
        | 0 => (fm_stp sh G e L st s).bind fun q => fm_run sh G tb n d M q.1 q.2.1 q.2.2.1 q.2.2.2
        | 5 => match d, tb[e.2.2.2.1]? with
          | d' + 1, some M' => if M'.2.2.2.2.2.1 ≤ st.length ∧ fm_rcv sh G e.2.1 e.2.2.2.2.2.1 (st.take M'.2.2.2.2.2.1).reverse = true ∧ jm_lt (st.drop M'.2.2.2.2.2.1) = true ∧ (jm_lay (st.take M'.2.2.2.2.2.1).reverse).length ≤ M'.2.2.1 then
              match fm_run sh G tb n d' M' 0 (jm_ent (st.take M'.2.2.2.2.2.1).reverse M'.2.2.1) [] s with
              | some (.inl v, s') => fm_run sh G tb n (d' + 1) M e.2.2.1 L (v.toList ++ st.drop M'.2.2.2.2.2.1) s'
              | some (.inr E, s') => if jm_sp e.2.1 = true then none else match jm_hnd M.2.2.2.2.1 pc E with
                | some hp => fm_run sh G tb n (d' + 1) M hp L [.float 1] s'
                | none => if M.2.2.2.2.1 = [] then some (.inr E, s') else none
              | none => none
            else none
          | _, _ => none
        | 6 => if M.2.2.2.2.1 = [] ∧ st = [] then some (.inr (e.2.2.2.1 - 2000), pX s) else none
        | k => (jm_ret (jm_rz M.2.2.2.1) k st).map fun v => (.inl v, s)
/-- a cell and its shape -/
def fm_val (s : fm_S) (a j : Nat) (t : Nat) : Value := if t = 0 then .int (gI s a j) else if t = 1 then .long (gJ s a j) else .ref (gR s a j)
def fm_C (G : jm_G) (fk : Nat → List Nat) (s : fm_S) (a : Nat) (k n : Nat) (c : jm_C) : Prop := match c with
  | .inl (ci, fs) => k = ci ∧ k < 60 ∧ fs.length = n ∧ n = (fk ci).length ∧ ∀ (j t : Nat), (fk ci)[j]? = some t → fs[j]? = some (fm_val s a j t)
  | .inr (t, (m, f)) => m = n ∧ 60 ≤ k ∧ k < 99 ∧ ((k = 60 ∧ t = .int ∧ ∃ g, f = .inl g ∧ ∀ i, i < n → g i = gI s a i) ∨ (k = 61 ∧ t = .byte ∧ ∃ g, f = .inl g ∧ ∀ i, i < n → g i = gI s a i) ∨ (k = 62 ∧ t = .long ∧ ∃ g, f = .inr (.inl g) ∧ ∀ i, i < n → g i = gJ s a i) ∨
      (64 ≤ k ∧ (k = 64 ∨ k = 65 ∨ ∃ ci, k = 70 + ci ∧ t = .object (jm_nam G ci)) ∧ t.isReference = true ∧ ∃ g, f = .inr (.inr (.inr (.inr g))) ∧ ∀ i, i < n → g i = if gR s a i = 0 then none else some (gR s a i)))
def fm_R (sh : fm_H) (G : jm_G) (fk : Nat → List Nat) (s : fm_S) (h : jm_H) : Prop :=
  (∀ (a : Nat), a < h.1.length → ∃ c, h.1[a]? = some c ∧ fm_C G fk s a (sh a).1 (sh a).2 c) ∧ (∀ a, h.1.length ≤ a → sh a = (99, 0)) ∧ h.2 = s.2.2.2
/-- which kind a field is of -/
def fm_ok (fk : Nat → List Nat) (e : jm_I) : Bool := match e with
  | (_, i, _, x, y, z, _, _, _) => match i with
    | .getfield _ => decide (x = 50 ∨ (fk x)[y]? = some z) && decide (x < 60)
    | .putfield _ => decide ((fk x)[y]? = some (if z = 3 then 0 else z)) && decide (x < 60)
    | _ => true
theorem fm_R.at {sh : fm_H} {G : jm_G} {fk : Nat → List Nat} {s : fm_S} {h : jm_H} (g : fm_R sh G fk s h) {a : Nat} (ha : (sh a).1 < 99) : ∃ c, h.1[a]? = some c ∧ fm_C G fk s a (sh a).1 (sh a).2 c := by
  by_cases e : a < h.1.length
  · exact g.1 a e
  · rw [g.2.1 a (Nat.le_of_not_lt e)] at ha
    exact absurd ha (Nat.lt_irrefl _)
theorem fm_R.obj {sh : fm_H} {G : jm_G} {fk : Nat → List Nat} {s : fm_S} {h : jm_H} (g : fm_R sh G fk s h) {a x : Nat} (ha : (sh a).1 = x) (hx : x < 60) : ∃ fs, h.1[a]? = some (.inl (x, fs)) ∧ fs.length = (fk x).length ∧ ∀ (j t : Nat), (fk x)[j]? = some t → fs[j]? = some (fm_val s a j t) := by
  obtain ⟨c, h1, h2⟩ := g.at (a := a) (by omega)
  cases c with
  | inl o =>
    obtain ⟨ci, fs⟩ := o
    obtain ⟨k1, -, k3, k4, k5⟩ := h2
    rw [ha] at k1
    subst k1
    exact ⟨fs, h1, k3.trans k4, k5⟩
  | inr o =>
    obtain ⟨t, m, f⟩ := o
    have := h2.2.1
    omega
theorem fm_R.arr {sh : fm_H} {G : jm_G} {fk : Nat → List Nat} {s : fm_S} {h : jm_H} (g : fm_R sh G fk s h) {a : Nat} (ha : 60 ≤ (sh a).1) (ha' : (sh a).1 < 99) : ∃ t f, h.1[a]? = some (.inr (t, ((sh a).2, f))) ∧ fm_C G fk s a (sh a).1 (sh a).2 (.inr (t, ((sh a).2, f))) := by
  obtain ⟨c, h1, h2⟩ := g.at ha'
  cases c with
  | inl o =>
    obtain ⟨ci, fs⟩ := o
    have := h2.2.1
    omega
  | inr o =>
    obtain ⟨t, m, f⟩ := o
    have := h2.1
    subst this
    exact ⟨t, f, h1, h2⟩
