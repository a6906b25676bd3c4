/-! A RUN THAT THE KERNEL CAN COMPUTE: the abstract machine's, but that numbers, locals, stack and the cells' row are brought to their last form at each step; arrays are written at the cells W alone, the script isn't read -/
theorem jm_monoF {G : jm_G} {tb : List jm_M} : ∀ {n d : Nat} {M : jm_M} {pc : Nat} {L : jm_L} {st : List Value} {s : jm_H} {r : jm_O × jm_H}, jm_run G tb n d M pc L st s = some r → jm_run G tb (n + 1) d M pc L st s = some r := by
  intro n
  induction n with
  | zero => intro d M pc L st s r hr; cases hr
  | succ n ih =>
    intro d M pc L0 st s r hr
    rw [jm_run] at hr
    rw [jm_run]
    split at hr
    next => cases hr
    next e he =>
    (try rw [he])
    (try dsimp only at hr ⊢)
    generalize (if e.2.2.2.2.2.2.2.2 = [] then L0 else jm_mask e.2.2.2.2.2.2.2.2 L0) = L at hr ⊢
    split at hr
    next hk =>
      (try rw [hk])
      obtain ⟨q, h1, h2⟩ := Option.bind_eq_some_iff.mp hr
      (try dsimp only)
      rw [h1]
      exact ih h2
    next hk =>
      (try rw [hk])
      (try dsimp only)
      split at hr
      next d' M' hM' =>
        (try rw [hM'])
        (try dsimp only)
        split at hr
        next hc =>
          (try rw [if_pos hc])
          split at hr
          next v s1 hrun => (try rw [ih hrun]); exact ih hr
          next E s1 hrun =>
            (try rw [ih hrun])
            (try dsimp only)
            split at hr
            next => cases hr
            next hsp =>
            (try rw [if_neg hsp])
            split at hr
            next hp hhp => (try rw [hhp]); exact ih hr
            next hhp => (try rw [hhp]); exact hr
          next => cases hr
        next => cases hr
      next => cases hr
    next hk => (try rw [hk]); exact hr
    next hk0 hk5 hk6 =>
      exact hr
theorem jm_monoF' {G : jm_G} {tb : List jm_M} {n m d : Nat} {M : jm_M} {pc : Nat} {L : jm_L} {st : List Value} {s : jm_H} {r : jm_O × jm_H} (hnm : n ≤ m) (hr : jm_run G tb n d M pc L st s = some r) : jm_run G tb m d M pc L st s = some r := by
  induction hnm with
  | refl => exact hr
  | step _ ih => exact jm_monoF ih
section KF
variable {β : Type}
noncomputable def kf_N (n : Nat) (k : Nat → β) : β := Nat.rec (motive := fun _ => β) (k 0) (fun m _ => k (m + 1)) n
noncomputable def kf_I (x : Int32) (k : Int32 → β) : β := kf_N x.toUInt32.toNat fun n => k (Int32.ofUInt32 (UInt32.ofNat n))
noncomputable def kf_J (x : Int64) (k : Int64 → β) : β := kf_N x.toUInt64.toNat fun n => k (Int64.ofUInt64 (UInt64.ofNat n))
noncomputable def kf_V (v : Value) (k : Value → β) : β := match v with
  | .int x => kf_I x fun y => k (.int y)
  | .long x => kf_J x fun y => k (.long y)
  | .ref a => kf_N a fun b => k (.ref b)
  | v => k v
noncomputable def kf_S (l : List Value) (k : List Value → β) : β := List.rec (motive := fun _ => (List Value → β) → β) (fun k => k []) (fun v _ ih k => kf_V v fun v' => ih fun r' => k (v' :: r')) l k
noncomputable def kf_L (l : jm_L) (k : jm_L → β) : β := List.rec (motive := fun _ => (jm_L → β) → β) (fun k => k []) (fun o _ ih k => Option.rec (motive := fun _ => β) (ih fun r' => k (none :: r')) (fun v => kf_V v fun v' => ih fun r' => k (some v' :: r')) o) l k
noncomputable def kf_H (l : List jm_C) (k : List jm_C → β) : β := List.rec (motive := fun _ => (List jm_C → β) → β) (fun k => k []) (fun c _ ih k => ih fun r' => k (c :: r')) l k
theorem kf_N_e (n : Nat) (k : Nat → β) : kf_N n k = k n := by cases n <;> rfl
theorem kf_I_e (x : Int32) (k : Int32 → β) : kf_I x k = k x := by
  unfold kf_I
  rw [kf_N_e, UInt32.ofNat_toNat]
theorem kf_J_e (x : Int64) (k : Int64 → β) : kf_J x k = k x := by
  unfold kf_J
  rw [kf_N_e, UInt64.ofNat_toNat]
theorem kf_V_e (v : Value) (k : Value → β) : kf_V v k = k v := by
  cases v <;> simp [kf_V, kf_I_e, kf_J_e, kf_N_e]
theorem kf_S_e : ∀ (l : List Value) (k : List Value → β), kf_S l k = k l
  | [], _ => rfl
  | v :: r, k => by
    show kf_V v (fun v' => kf_S r fun r' => k (v' :: r')) = k (v :: r)
    rw [kf_V_e, kf_S_e r]
theorem kf_L_e : ∀ (l : jm_L) (k : jm_L → β), kf_L l k = k l
  | [], _ => rfl
  | none :: r, k => by
    show kf_L r (fun r' => k (none :: r')) = k (none :: r)
    rw [kf_L_e r]
  | some v :: r, k => by
    show kf_V v (fun v' => kf_L r fun r' => k (some v' :: r')) = k (some v :: r)
    rw [kf_V_e, kf_L_e r]
theorem kf_H_e : ∀ (l : List jm_C) (k : List jm_C → β), kf_H l k = k l
  | [], _ => rfl
  | c :: r, k => by
    show kf_H r (fun r' => k (c :: r')) = k (c :: r)
    rw [kf_H_e r]
noncomputable def kz_x {α : Type} (l : List α) (i : Nat) : Option α := List.rec (motive := fun _ => Nat → Option α) (fun _ => none) (fun c _ ih i => Nat.rec (motive := fun _ => Option α) (some c) (fun j _ => ih j) i) l i
theorem kz_x_e {α : Type} : ∀ (l : List α) (i : Nat), kz_x l i = l[i]?
  | [], i => by rw [List.getElem?_nil]; rfl
  | c :: r, 0 => rfl
  | c :: r, i + 1 => by
    show kz_x r i = (c :: r)[i + 1]?
    rw [kz_x_e r i, List.getElem?_cons_succ]
noncomputable def kz_s {α : Type} (l : List α) (i : Nat) (c : α) : List α := List.rec (motive := fun _ => Nat → List α) (fun _ => []) (fun x r ih i => Nat.rec (motive := fun _ => List α) (c :: r) (fun j _ => x :: ih j) i) l i
theorem kz_s_e {α : Type} : ∀ (l : List α) (i : Nat) (c : α), kz_s l i c = l.set i c
  | [], _, _ => rfl
  | x :: r, 0, c => rfl
  | x :: r, i + 1, c => by
    show x :: kz_s r i c = (x :: r).set (i + 1) c
    rw [kz_s_e r i c, List.set_cons_succ]
noncomputable def kz_g (h : jm_H) (a ci j : Nat) : Option Value := match kz_x h.1 a with
  | some (.inl (c, fs)) => if c = ci then kz_x fs j else none
  | _ => none
theorem kz_g_e (h : jm_H) (a ci j : Nat) : kz_g h a ci j = jm_get h a ci j := by
  unfold kz_g jm_get
  rw [kz_x_e]
  cases h.1[a]? with
  | none => rfl
  | some c =>
    cases c with
    | inl o => dsimp only; rw [kz_x_e]
    | inr o => rfl
noncomputable def kz_p (h : jm_H) (a ci j : Nat) (v : Value) : Option jm_H := match kz_x h.1 a with
  | some (.inl (c, fs)) => if c = ci then (match kz_x fs j with
    | some _ => some (kz_s h.1 a (.inl (c, kz_s fs j v)), h.2)
    | none => none) else none
  | _ => none
theorem kz_p_e (h : jm_H) (a ci j : Nat) (v : Value) : kz_p h a ci j v = jm_put h a ci j v := by
  unfold kz_p jm_put
  rw [kz_x_e]
  cases h.1[a]? with
  | none => rfl
  | some c0 =>
    cases c0 with
    | inr o => rfl
    | inl o =>
      obtain ⟨c, fs⟩ := o
      dsimp only
      by_cases e : c = ci
      · rw [if_pos e]
        by_cases hj : j < fs.length
        · rw [if_pos ⟨e, hj⟩, kz_x_e, List.getElem?_eq_getElem hj]
          dsimp only
          rw [kz_s_e, kz_s_e]
        · rw [if_neg (fun q => hj q.2), kz_x_e, List.getElem?_eq_none (Nat.le_of_not_lt hj)]
      · rw [if_neg e, if_neg (fun q => e q.1)]
noncomputable def kz_a (h : jm_H) (t : FieldType) (a : Nat) (i x : Int32) : Option jm_H := match kz_x h.1 a with
  | some (.inr (t', (n, .inl f))) => if t' = t ∧ jm_in i n = true then some (kz_s h.1 a (.inr (t', (n, .inl (upd f i.toNatClampNeg x)))), h.2) else none
  | _ => none
theorem kz_a_e (h : jm_H) (t : FieldType) (a : Nat) (i x : Int32) : kz_a h t a i x = jm_astI h t a i x := by
  unfold kz_a jm_astI
  rw [kz_x_e]
  cases h.1[a]? with
  | none => rfl
  | some c0 =>
    cases c0 with
    | inl o => rfl
    | inr o =>
      obtain ⟨t', n, f⟩ := o
      cases f with
      | inl f => dsimp only; rw [kz_s_e]
      | inr f => rfl
noncomputable def kz_gI (h : jm_H) (a ci j : Nat) : Option Int32 := match kz_g h a ci j with
  | some (.int x) => some x
  | _ => none
noncomputable def kz_gL (h : jm_H) (a ci j : Nat) : Option Int64 := match kz_g h a ci j with
  | some (.long x) => some x
  | _ => none
noncomputable def kz_gR (h : jm_H) (a ci j : Nat) : Option Nat := match kz_g h a ci j with
  | some (.ref x) => some x
  | _ => none
theorem kz_gI_e (h : jm_H) (a ci j : Nat) : kz_gI h a ci j = jm_getI h a ci j := by
  unfold kz_gI jm_getI
  rw [kz_g_e]
  cases jm_get h a ci j with
  | none => rfl
  | some v => cases v <;> rfl
theorem kz_gL_e (h : jm_H) (a ci j : Nat) : kz_gL h a ci j = jm_getL h a ci j := by
  unfold kz_gL jm_getL
  rw [kz_g_e]
  cases jm_get h a ci j with
  | none => rfl
  | some v => cases v <;> rfl
theorem kz_gR_e (h : jm_H) (a ci j : Nat) : kz_gR h a ci j = jm_getR h a ci j := by
  unfold kz_gR jm_getR
  rw [kz_g_e]
  cases jm_get h a ci j with
  | none => rfl
  | some v => cases v <;> rfl
end KF
/-- no look at the script; arrays are written at W alone -/
def kx_ok (W : List Nat) (e : jm_I) (st : List Value) : Bool := match e.2.1 with
  | .iaload => match st with
    | .int _ :: .ref _ :: _ => true
    | _ => false
  | .arraylength => match st with
    | .ref _ :: _ => true
    | _ => false
  | .iastore => match st with
    | _ :: _ :: .ref a :: _ => W.elem a
    | _ => false
  | .bastore => match st with
    | _ :: _ :: .ref a :: _ => W.elem a
    | _ => false
  | .lastore => match st with
    | _ :: _ :: .ref a :: _ => W.elem a
    | _ => false
  | .aastore => match st with
    | _ :: _ :: .ref a :: _ => W.elem a
    | _ => false
  | _ => true
/-- what an instruction is to this run, and its number: the tables of the library's instructions are large, they are opened once a step -/
def kx_io (i : Instr) : Nat × Nat := match i with
  | .iconst _ => (1, 0)
  | .bipush _ => (1, 0)
  | .sipush _ => (1, 0)
  | .iload k => (2, k)
  | .iload_n k => (2, k.val)
  | .aload k => (3, k)
  | .aload_n k => (3, k.val)
  | .istore k => (4, k)
  | .istore_n k => (4, k.val)
  | .astore k => (5, k)
  | .astore_n k => (5, k.val)
  | .iinc k _ => (6, k)
  | .iadd => (7, 0)
  | .isub => (8, 0)
  | .imul => (9, 0)
  | .idiv => (10, 0)
  | .goto _ => (11, 0)
  | .dup => (12, 0)
  | .getfield _ => (13, 0)
  | .iaload => (14, 0)
  | .ifCond _ _ => (15, 0)
  | .if_icmp _ _ => (16, 0)
  | .arraylength => (17, 0)
  | .putfield _ => (20, 0)
  | .iastore => (21, 0)
  | .aastore => (22, 0)
  | .new _ => (23, 0)
  | .newarray _ => (24, 0)
  | .anewarray _ => (25, 0)
  | .multianewarray _ _ => (26, 0)
  | .invokespecial _ => (50, 0)
  | .invokevirtual _ => (51, 0)
  | .invokestatic _ => (51, 0)
  | .return_ => (53, 0)
  | .ireturn => (54, 0)
  | _ => (99, 0)
def kx_op (e : jm_I) : Nat := (fun o : Nat => cond (Nat.beq o 50) (cond (Nat.ble 1000 e.2.2.2.1) 19 50) (cond (Nat.beq o 51) (cond (Nat.ble 1000 e.2.2.2.1) 99 51) (cond (Nat.beq o 23) (cond (Nat.ble 2000 e.2.2.2.1) 99 23) o))) (kx_io e.2.1).1
def kx_go (e : jm_I) (L : jm_L) (st : List Value) (h : jm_H) : Option jm_S := some (e.2.2.1, L, st, h)
def kx_1 (e : jm_I) (L : jm_L) (st : List Value) (h : jm_H) : Option jm_S := some (e.2.2.1, L, e.2.2.2.2.2.2.2.1 :: st, h)
def kx_2 (e : jm_I) (L : jm_L) (st : List Value) (h : jm_H) : Option jm_S := (jm_ldI L (kx_io e.2.1).2).map fun v => (e.2.2.1, L, v :: st, h)
def kx_3 (e : jm_I) (L : jm_L) (st : List Value) (h : jm_H) : Option jm_S := (jm_ldA L (kx_io e.2.1).2).map fun v => (e.2.2.1, L, v :: st, h)
def kx_4 (e : jm_I) (L : jm_L) (st : List Value) (h : jm_H) : Option jm_S := jm_stI L (kx_io e.2.1).2 e.2.2.1 h st
def kx_5 (e : jm_I) (L : jm_L) (st : List Value) (h : jm_H) : Option jm_S := jm_stA L (kx_io e.2.1).2 e.2.2.1 h st
def kx_7 (e : jm_I) (L : jm_L) (st : List Value) (h : jm_H) : Option jm_S := (jm_i2 (fun x y => .int (x + y)) st).map fun r => (e.2.2.1, L, r, h)
def kx_8 (e : jm_I) (L : jm_L) (st : List Value) (h : jm_H) : Option jm_S := (jm_i2 (fun x y => .int (x - y)) st).map fun r => (e.2.2.1, L, r, h)
def kx_9 (e : jm_I) (L : jm_L) (st : List Value) (h : jm_H) : Option jm_S := (jm_i2 (fun x y => .int (x * y)) st).map fun r => (e.2.2.1, L, r, h)
def kx_11 (e : jm_I) (L : jm_L) (st : List Value) (h : jm_H) : Option jm_S := some (e.2.2.2.1, L, st, h)
noncomputable def kx_13 (e : jm_I) (L : jm_L) (st : List Value) (h : jm_H) : Option jm_S := match st with
  | .ref a :: r => if e.2.2.2.2.2.1 = 0 then (kz_gI h a e.2.2.2.1 e.2.2.2.2.1).map (fun v => (e.2.2.1, L, .int v :: r, h)) else if e.2.2.2.2.2.1 = 1 then (kz_gL h a e.2.2.2.1 e.2.2.2.2.1).map (fun v => (e.2.2.1, L, .long v :: r, h)) else (kz_gR h a e.2.2.2.1 e.2.2.2.2.1).map (fun v => (e.2.2.1, L, .ref v :: r, h))
  | _ => none
def kx_15 (e : jm_I) (L : jm_L) (st : List Value) (h : jm_H) : Option jm_S := match e.2.1 with
  | .ifCond .eq _ => jm_if1 (fun a => a = 0) L e.2.2.2.1 e.2.2.1 h st
  | .ifCond .ne _ => jm_if1 (fun a => a ≠ 0) L e.2.2.2.1 e.2.2.1 h st
  | .ifCond .lt _ => jm_if1 (fun a => a < 0) L e.2.2.2.1 e.2.2.1 h st
  | .ifCond .ge _ => jm_if1 (fun a => 0 ≤ a) L e.2.2.2.1 e.2.2.1 h st
  | .ifCond .gt _ => jm_if1 (fun a => 0 < a) L e.2.2.2.1 e.2.2.1 h st
  | .ifCond .le _ => jm_if1 (fun a => a ≤ 0) L e.2.2.2.1 e.2.2.1 h st
  | _ => none
def kx_16 (e : jm_I) (L : jm_L) (st : List Value) (h : jm_H) : Option jm_S := match e.2.1 with
  | .if_icmp .eq _ => jm_if2 (fun a b => a = b) L e.2.2.2.1 e.2.2.1 h st
  | .if_icmp .ne _ => jm_if2 (fun a b => a ≠ b) L e.2.2.2.1 e.2.2.1 h st
  | .if_icmp .lt _ => jm_if2 (fun a b => a < b) L e.2.2.2.1 e.2.2.1 h st
  | .if_icmp .ge _ => jm_if2 (fun a b => b ≤ a) L e.2.2.2.1 e.2.2.1 h st
  | .if_icmp .gt _ => jm_if2 (fun a b => b < a) L e.2.2.2.1 e.2.2.1 h st
  | .if_icmp .le _ => jm_if2 (fun a b => a ≤ b) L e.2.2.2.1 e.2.2.1 h st
  | _ => none
noncomputable def kx_20 (e : jm_I) (L : jm_L) (st : List Value) (h : jm_H) : Option jm_S := match st with
  | .int v :: .ref a :: r => if e.2.2.2.2.2.1 = 0 ∨ (e.2.2.2.2.2.1 = 3 ∧ (v = 0 ∨ v = 1)) then (kz_p h a e.2.2.2.1 e.2.2.2.2.1 (.int v)).map (fun h' => (e.2.2.1, L, r, h')) else none
  | .long v :: .ref a :: r => if e.2.2.2.2.2.1 = 1 then (kz_p h a e.2.2.2.1 e.2.2.2.2.1 (.long v)).map (fun h' => (e.2.2.1, L, r, h')) else none
  | .ref v :: .ref a :: r => if e.2.2.2.2.2.1 = 2 then (kz_p h a e.2.2.2.1 e.2.2.2.2.1 (.ref v)).map (fun h' => (e.2.2.1, L, r, h')) else none
  | _ => none
noncomputable def kx_21 (W : List Nat) (e : jm_I) (L : jm_L) (st : List Value) (h : jm_H) : Option jm_S := match st with
  | .int v :: .int k :: .ref a :: r => cond (W.elem a) ((kz_a h .int a k v).map (fun h' => (e.2.2.1, L, r, h'))) none
  | _ => none
/-- the seldom ones, as they stand in the machine -/
def kx_o (W : List Nat) (G : jm_G) (e : jm_I) (L : jm_L) (st : List Value) (h : jm_H) : Option jm_S := cond (kx_ok W e st) (jm_stp G e L st h) none
noncomputable def kx_S (W : List Nat) (G : jm_G) (op : Nat) (e : jm_I) (L : jm_L) (st : List Value) (h : jm_H) : Option jm_S :=
  cond (Nat.beq op 2) (kx_2 e L st h) (cond (Nat.beq op 3) (kx_3 e L st h) (cond (Nat.beq op 1) (kx_1 e L st h) (cond (Nat.beq op 16) (kx_16 e L st h) (cond (Nat.beq op 21) (kx_21 W e L st h) (cond (Nat.beq op 7) (kx_7 e L st h) (cond (Nat.beq op 13) (kx_13 e L st h) (cond (Nat.beq op 4) (kx_4 e L st h) (cond (Nat.beq op 8) (kx_8 e L st h)
  (cond (Nat.beq op 11) (kx_11 e L st h) (cond (Nat.beq op 20) (kx_20 e L st h) (cond (Nat.beq op 15) (kx_15 e L st h) (cond (Nat.beq op 9) (kx_9 e L st h) (cond (Nat.beq op 5) (kx_5 e L st h) (kx_o W G e L st h))))))))))))))
noncomputable def kx_at (l : List jm_I) (pc : Nat) : Option jm_I := List.rec (motive := fun _ => Option jm_I) none (fun e _ ih => cond (Nat.beq e.1 pc) (some e) ih) l
theorem kx_at_e : ∀ (l : List jm_I) (pc : Nat), kx_at l pc = jm_at l pc
  | [], _ => rfl
  | e :: r, pc => by
    show cond (Nat.beq e.1 pc) (some e) (kx_at r pc) = jm_at (e :: r) pc
    unfold jm_at
    rw [kx_at_e r pc]
    by_cases h : e.1 = pc
    · rw [if_pos h, show Nat.beq e.1 pc = true from Nat.beq_eq.mpr h]
      rfl
    · rw [if_neg h, show Nat.beq e.1 pc = false from by
        cases hb : Nat.beq e.1 pc with
        | false => rfl
        | true => exact absurd (Nat.eq_of_beq_eq_true hb) h]
      rfl
noncomputable def kx_m {β : Type} (bs : List Bool) (L : jm_L) (k : jm_L → β) : β := match bs with
  | [] => k L
  | b :: r => kf_L (jm_mask (b :: r) L) k
theorem kx_m_e {β : Type} (bs : List Bool) (L : jm_L) (k : jm_L → β) : kx_m bs L k = k (if bs = [] then L else jm_mask bs L) := by
  cases bs with
  | nil => rfl
  | cons b r => rw [kx_m, kf_L_e, if_neg (by simp)]
noncomputable def kx_F {β : Type} (op : Nat) (h : jm_H) (k : jm_H → β) : β := cond (Nat.ble 20 op) (kf_H h.1 fun l => kf_N h.2.1 fun a => kf_N h.2.2 fun b => k (l, a, b)) (k h)
theorem kx_F_e {β : Type} (op : Nat) (h : jm_H) (k : jm_H → β) : kx_F op h k = k h := by
  unfold kx_F
  cases Nat.ble 20 op with
  | false => rfl
  | true => exact (kf_H_e _ _).trans ((kf_N_e _ _).trans (kf_N_e _ _))
/-- an ordinary step -/
theorem kx_S_ok {W : List Nat} {G : jm_G} {e : jm_I} {L : jm_L} {st : List Value} {h : jm_H} {q : jm_S} (ho : Nat.ble (kx_op e) 49 = true) (hs : kx_S W G (kx_op e) e L st h = some q) : jm_kind e = 0 ∧ kx_ok W e st = true ∧ jm_stp G e L st h = some q := by
  obtain ⟨pc, i, np, x, y, z, w, v, bs⟩ := e
  have hoth : ∀ e : jm_I, kx_o W G e L st h = some q → kx_ok W e st = true ∧ jm_stp G e L st h = some q := fun e h9 => by
    unfold kx_o at h9
    cases hk : kx_ok W e st with
    | false => rw [hk] at h9; cases h9
    | true => rw [hk] at h9; exact ⟨rfl, h9⟩
  cases i
  case iconst => exact ⟨rfl, rfl, hs⟩
  case bipush => exact ⟨rfl, rfl, hs⟩
  case sipush => exact ⟨rfl, rfl, hs⟩
  case iload => exact ⟨rfl, rfl, hs⟩
  case iload_n => exact ⟨rfl, rfl, hs⟩
  case aload => exact ⟨rfl, rfl, hs⟩
  case aload_n => exact ⟨rfl, rfl, hs⟩
  case istore => exact ⟨rfl, rfl, hs⟩
  case istore_n => exact ⟨rfl, rfl, hs⟩
  case astore => exact ⟨rfl, rfl, hs⟩
  case astore_n => exact ⟨rfl, rfl, hs⟩
  case iinc => exact ⟨rfl, hoth _ hs⟩
  case iadd => exact ⟨rfl, rfl, hs⟩
  case isub => exact ⟨rfl, rfl, hs⟩
  case imul => exact ⟨rfl, rfl, hs⟩
  case idiv => exact ⟨rfl, hoth _ hs⟩
  case goto => exact ⟨rfl, rfl, hs⟩
  case dup => exact ⟨rfl, hoth _ hs⟩
  case getfield i9 =>
    replace hs : kx_13 (pc, .getfield i9, np, x, y, z, w, v, bs) L st h = some q := hs
    refine ⟨rfl, rfl, ?_⟩
    unfold kx_13 at hs
    split at hs
    · rw [kz_gI_e, kz_gL_e, kz_gR_e] at hs
      exact hs
    · cases hs
  case iaload => exact ⟨rfl, hoth _ hs⟩
  case ifCond c o => cases c <;> exact ⟨rfl, rfl, hs⟩
  case if_icmp c o => cases c <;> exact ⟨rfl, rfl, hs⟩
  case putfield i9 =>
    replace hs : kx_20 (pc, .putfield i9, np, x, y, z, w, v, bs) L st h = some q := hs
    refine ⟨rfl, rfl, ?_⟩
    unfold kx_20 at hs
    split at hs
    · rw [kz_p_e] at hs
      exact hs
    · rw [kz_p_e] at hs
      exact hs
    · rw [kz_p_e] at hs
      exact hs
    · cases hs
  case iastore =>
    replace hs : kx_21 W (pc, .iastore, np, x, y, z, w, v, bs) L st h = some q := hs
    unfold kx_21 at hs
    split at hs
    next u k a r =>
      cases hw : W.elem a with
      | false => rw [hw] at hs; cases hs
      | true => rw [hw, kz_a_e] at hs; exact ⟨rfl, hw, hs⟩
    next => cases hs
  case aastore => exact ⟨rfl, hoth _ hs⟩
  case arraylength => exact ⟨rfl, hoth _ hs⟩
  case new i9 =>
    have hx : ¬ 2000 ≤ x := fun h9 => by
      have h8 : Nat.ble 2000 x = true := Nat.ble_eq.mpr h9
      have h7 : kx_op (pc, .new i9, np, x, y, z, w, v, bs) = 99 := by
        show cond (Nat.ble 2000 x) 99 23 = 99
        rw [h8]; rfl
      rw [h7] at ho
      cases ho
    have h8 : Nat.ble 2000 x = false := by
      cases hb : Nat.ble 2000 x with
      | false => rfl
      | true => exact absurd (Nat.ble_eq.mp hb) hx
    have h7 : kx_op (pc, .new i9, np, x, y, z, w, v, bs) = 23 := by
      show cond (Nat.ble 2000 x) 99 23 = 23
      rw [h8]; rfl
    rw [h7] at hs
    exact ⟨if_neg hx, hoth _ hs⟩
  case newarray => exact ⟨rfl, hoth _ hs⟩
  case anewarray => exact ⟨rfl, hoth _ hs⟩
  case multianewarray => exact ⟨rfl, hoth _ hs⟩
  case invokespecial i9 =>
    have hx : 1000 ≤ x := by
      cases hb : Nat.ble 1000 x with
      | true => exact Nat.ble_eq.mp hb
      | false =>
        have h7 : kx_op (pc, .invokespecial i9, np, x, y, z, w, v, bs) = 50 := by
          show cond (Nat.ble 1000 x) 19 50 = 50
          rw [hb]; rfl
        rw [h7] at ho
        cases ho
    have h8 : Nat.ble 1000 x = true := Nat.ble_eq.mpr hx
    have h7 : kx_op (pc, .invokespecial i9, np, x, y, z, w, v, bs) = 19 := by
      show cond (Nat.ble 1000 x) 19 50 = 19
      rw [h8]; rfl
    rw [h7] at hs
    exact ⟨if_neg (by show ¬ x < 1000; omega), hoth _ hs⟩
  case invokevirtual =>
    exfalso
    revert ho
    show ¬ Nat.ble (cond (Nat.ble 1000 x) 99 51) 49 = true
    cases Nat.ble 1000 x <;> decide
  case invokestatic =>
    exfalso
    revert ho
    show ¬ Nat.ble (cond (Nat.ble 1000 x) 99 51) 49 = true
    cases Nat.ble 1000 x <;> decide
  all_goals (cases ho)
/-- a call -/
theorem kx_call {e : jm_I} (ho : (Nat.beq (kx_op e) 50 || Nat.beq (kx_op e) 51) = true) : jm_kind e = 5 := by
  obtain ⟨pc, i, np, x, y, z, w, v, bs⟩ := e
  cases i
  case invokespecial i9 =>
    cases hb : Nat.ble 1000 x with
    | false => exact if_pos (by show x < 1000; exact Nat.lt_of_not_le (fun h9 => by rw [Nat.ble_eq.mpr h9] at hb; cases hb))
    | true =>
      exfalso
      have h7 : kx_op (pc, .invokespecial i9, np, x, y, z, w, v, bs) = 19 := by
        show cond (Nat.ble 1000 x) 19 50 = 19
        rw [hb]; rfl
      rw [h7] at ho
      cases ho
  case invokevirtual i9 =>
    cases hb : Nat.ble 1000 x with
    | false => exact if_pos (by show x < 1000; exact Nat.lt_of_not_le (fun h9 => by rw [Nat.ble_eq.mpr h9] at hb; cases hb))
    | true =>
      exfalso
      have h7 : kx_op (pc, .invokevirtual i9, np, x, y, z, w, v, bs) = 99 := by
        show cond (Nat.ble 1000 x) 99 51 = 99
        rw [hb]; rfl
      rw [h7] at ho
      cases ho
  case invokestatic i9 =>
    cases hb : Nat.ble 1000 x with
    | false => exact if_pos (by show x < 1000; exact Nat.lt_of_not_le (fun h9 => by rw [Nat.ble_eq.mpr h9] at hb; cases hb))
    | true =>
      exfalso
      have h7 : kx_op (pc, .invokestatic i9, np, x, y, z, w, v, bs) = 99 := by
        show cond (Nat.ble 1000 x) 99 51 = 99
        rw [hb]; rfl
      rw [h7] at ho
      cases ho
  case new =>
    exfalso
    revert ho
    show ¬ (Nat.beq (cond (Nat.ble 2000 x) 99 23) 50 || Nat.beq (cond (Nat.ble 2000 x) 99 23) 51) = true
    cases Nat.ble 2000 x <;> decide
  all_goals (cases ho)
/-- a return -/
theorem kx_retn {e : jm_I} (ho : Nat.beq (kx_op e) 53 = true ∨ Nat.beq (kx_op e) 54 = true) : (Nat.beq (kx_op e) 53 = true ∧ jm_kind e = 1) ∨ (Nat.beq (kx_op e) 54 = true ∧ jm_kind e = 2) := by
  obtain ⟨pc, i, np, x, y, z, w, v, bs⟩ := e
  cases i
  case return_ => exact Or.inl ⟨rfl, rfl⟩
  case ireturn => exact Or.inr ⟨rfl, rfl⟩
  case invokespecial =>
    exfalso
    revert ho
    show ¬ (Nat.beq (cond (Nat.ble 1000 x) 19 50) 53 = true ∨ Nat.beq (cond (Nat.ble 1000 x) 19 50) 54 = true)
    cases Nat.ble 1000 x <;> decide
  case invokevirtual =>
    exfalso
    revert ho
    show ¬ (Nat.beq (cond (Nat.ble 1000 x) 99 51) 53 = true ∨ Nat.beq (cond (Nat.ble 1000 x) 99 51) 54 = true)
    cases Nat.ble 1000 x <;> decide
  case invokestatic =>
    exfalso
    revert ho
    show ¬ (Nat.beq (cond (Nat.ble 1000 x) 99 51) 53 = true ∨ Nat.beq (cond (Nat.ble 1000 x) 99 51) 54 = true)
    cases Nat.ble 1000 x <;> decide
  case new =>
    exfalso
    revert ho
    show ¬ (Nat.beq (cond (Nat.ble 2000 x) 99 23) 53 = true ∨ Nat.beq (cond (Nat.ble 2000 x) 99 23) 54 = true)
    cases Nat.ble 2000 x <;> decide
  all_goals (rcases ho with ho | ho <;> cases ho)
noncomputable def kx_af (rec : Nat → jm_M → Nat → jm_L → List Value → jm_H → Option (jm_O × jm_H)) (d : Nat) (M : jm_M) (op : Nat) (o : Option jm_S) : Option (jm_O × jm_H) := match o with
  | none => none
  | some q => kf_N q.1 fun pc' => kf_L q.2.1 fun L' => kf_S q.2.2.1 fun st' => kx_F op q.2.2.2 fun h' => rec d M pc' L' st' h'
noncomputable def kx_cl (rec : Nat → jm_M → Nat → jm_L → List Value → jm_H → Option (jm_O × jm_H)) (G : jm_G) (tb : List jm_M) (d : Nat) (M : jm_M) (e : jm_I) (L : jm_L) (st : List Value) (h : jm_H) : Option (jm_O × jm_H) := match d, kz_x tb e.2.2.2.1 with
  | d' + 1, some M' => if M'.2.2.2.2.2.1 ≤ st.length ∧ jm_rcv G h e.2.1 e.2.2.2.2.2.1 (st.take M'.2.2.2.2.2.1).reverse = true ∧ jm_lt (st.drop M'.2.2.2.2.2.1) = true ∧ (jm_lay (st.take M'.2.2.2.2.2.1).reverse).length ≤ M'.2.2.1 then
      match kf_L (jm_ent (st.take M'.2.2.2.2.2.1).reverse M'.2.2.1) fun L' => rec d' M' 0 L' [] h with
      | some (.inl v, h') => kf_S (v.toList ++ st.drop M'.2.2.2.2.2.1) fun st' => rec (d' + 1) M e.2.2.1 L st' h'
      | _ => none
    else none
  | _, _ => none
noncomputable def kx_cr (rec : Nat → jm_M → Nat → jm_L → List Value → jm_H → Option (jm_O × jm_H)) (G : jm_G) (tb : List jm_M) (d : Nat) (M : jm_M) (op : Nat) (e : jm_I) (L : jm_L) (st : List Value) (h : jm_H) : Option (jm_O × jm_H) := match Nat.beq op 50 || Nat.beq op 51 with
  | true => kx_cl rec G tb d M e L st h
  | false => match Nat.beq op 53 with
    | true => (jm_ret (jm_rz M.2.2.2.1) 1 st).map fun v => (.inl v, h)
    | false => match Nat.beq op 54 with
      | true => (jm_ret (jm_rz M.2.2.2.1) 2 st).map fun v => (.inl v, h)
      | false => none
noncomputable def kx_nx (rec : Nat → jm_M → Nat → jm_L → List Value → jm_H → Option (jm_O × jm_H)) (W : List Nat) (G : jm_G) (tb : List jm_M) (d : Nat) (M : jm_M) (op : Nat) (e : jm_I) (L : jm_L) (st : List Value) (h : jm_H) : Option (jm_O × jm_H) := match Nat.ble op 49 with
  | true => kx_af rec d M op (kx_S W G op e L st h)
  | false => kx_cr rec G tb d M op e L st h
noncomputable def kx_run (W : List Nat) (G : jm_G) (tb : List jm_M) : Nat → Nat → jm_M → Nat → jm_L → List Value → jm_H → Option (jm_O × jm_H)
  | 0, _, _, _, _, _, _ => none
  | n + 1, d, M, pc, L0, st, h => match kx_at M.2.2.2.2.2.2 pc with
    | none => none
    | some e => kx_m e.2.2.2.2.2.2.2.2 L0 fun L => kf_N (kx_op e) fun op => kx_nx (kx_run W G tb n) W G tb d M op e L st h
theorem kx_stp {W : List Nat} {a : List (String × List Value)} {b : List (List Int32)} {n n' : Nat} {f f' : Nat → Int32} {e : jm_I} {L : jm_L} {st : List Value} {h : jm_H} (hk : kx_ok W e st = true) : jm_stp (a, b, n, f) e L st h = jm_stp (a, b, n', f') e L st h := by
  obtain ⟨pc, i, np, x, y, z, w, v, bs⟩ := e
  cases i
  case iaload =>
    simp only [kx_ok] at hk
    split at hk
    · rfl
    · cases hk
  case arraylength =>
    simp only [kx_ok] at hk
    split at hk
    · rfl
    · cases hk
  all_goals first
    | rfl
    | (rename_i c0 c1; cases c0 <;> rfl)
    | (rename_i c0; cases c0 <;> rfl)
/-- arrays that were never written hold zeros -/
def kx_z : vp_A → Prop
  | (_, .inl g) => g = fun _ => 0
  | (_, .inr (.inl g)) => g = fun _ => 0
  | _ => True
def kx_Z (W : List Nat) (h : List jm_C) : Prop := ∀ (k : Nat) (t : FieldType) (q : vp_A), k ∉ W → h[k]? = some (.inr (t, q)) → kx_z q
theorem kx_Z.app {W : List Nat} {h l : List jm_C} (g : kx_Z W h) (hl : ∀ c ∈ l, ∀ (t : FieldType) (q : vp_A), c = .inr (t, q) → kx_z q) : kx_Z W (h ++ l) := by
  intro k t q hk hq
  by_cases e : k < h.length
  · rw [List.getElem?_append_left e] at hq
    exact g k t q hk hq
  · rw [List.getElem?_append_right (Nat.le_of_not_lt e)] at hq
    exact hl _ (List.mem_of_getElem? hq) t q rfl
theorem kx_Z.seto {W : List Nat} {h : List jm_C} (g : kx_Z W h) {a : Nat} {o : Nat × List Value} : kx_Z W (h.set a (.inl o)) := by
  intro k t q hk hq
  rw [List.getElem?_set] at hq
  split at hq
  · split at hq
    · cases hq
    · cases hq
  · exact g k t q hk hq
theorem kx_Z.setw {W : List Nat} {h : List jm_C} (g : kx_Z W h) {a : Nat} {c : jm_C} (ha : W.elem a = true) : kx_Z W (h.set a c) := by
  intro k t q hk hq
  have hak : a ≠ k := fun e => hk (by rw [← e]; exact List.elem_iff.mp ha)
  rw [List.getElem?_set_ne hak] at hq
  exact g k t q hk hq
theorem kx_put {W : List Nat} {h h' : jm_H} {a x y : Nat} {v : Value} (hz : kx_Z W h.1) (hp : jm_put h a x y v = some h') : kx_Z W h'.1 := by
  unfold jm_put at hp
  split at hp
  next =>
    split at hp
    next => cases hp; exact hz.seto
    next => cases hp
  next => cases hp
set_option maxHeartbeats 4000000 in
theorem kx_zs {W : List Nat} {G : jm_G} {e : jm_I} {L : jm_L} {st : List Value} {h : jm_H} {q : jm_S} (hk : kx_ok W e st = true) (hz : kx_Z W h.1) (hs : jm_stp G e L st h = some q) : kx_Z W q.2.2.2.1 := by
  by_cases hb : fm_heapy e.2.1 = false
  · rw [jm_stp_blind h hb] at hs
    obtain ⟨q0, -, rfl⟩ := Option.map_eq_some_iff.mp hs
    exact hz
  · obtain ⟨pc, i, np, x, y, z, w, v, bs⟩ := e
    cases i <;> simp only [fm_heapy, not_true_eq_false] at hb
    case getfield =>
      simp only [jm_stp] at hs
      repeat' split at hs
      all_goals first
        | (obtain ⟨u, -, rfl⟩ := Option.map_eq_some_iff.mp hs; exact hz)
        | (cases hs <;> exact hz)
    case putfield =>
      simp only [jm_stp] at hs
      repeat' split at hs
      all_goals first
        | (obtain ⟨u, hu, rfl⟩ := Option.map_eq_some_iff.mp hs; exact kx_put hz hu)
        | (cases hs; done)
    case iaload =>
      simp only [jm_stp] at hs
      repeat' split at hs
      all_goals first
        | (obtain ⟨u, -, rfl⟩ := Option.map_eq_some_iff.mp hs; exact hz)
        | (cases hs <;> exact hz)
    case baload =>
      simp only [jm_stp] at hs
      repeat' split at hs
      all_goals first
        | (obtain ⟨u, -, rfl⟩ := Option.map_eq_some_iff.mp hs; exact hz)
        | (cases hs <;> exact hz)
    case laload =>
      simp only [jm_stp] at hs
      repeat' split at hs
      all_goals first
        | (obtain ⟨u, -, rfl⟩ := Option.map_eq_some_iff.mp hs; exact hz)
        | (cases hs <;> exact hz)
    case aaload =>
      simp only [jm_stp] at hs
      repeat' split at hs
      all_goals first
        | (obtain ⟨u, -, rfl⟩ := Option.map_eq_some_iff.mp hs; exact hz)
        | (cases hs <;> exact hz)
    case arraylength =>
      simp only [jm_stp] at hs
      repeat' split at hs
      all_goals first
        | (obtain ⟨u, -, rfl⟩ := Option.map_eq_some_iff.mp hs; exact hz)
        | (cases hs <;> exact hz)
    case iastore =>
      simp only [jm_stp] at hs
      split at hs
      · rename_i u k a r
        obtain ⟨h', hu, rfl⟩ := Option.map_eq_some_iff.mp hs
        have hW : W.elem a = true := hk
        unfold jm_astI at hu
        repeat' split at hu
        all_goals first
          | (cases hu; exact hz.setw hW)
          | (cases hu; done)
      · cases hs
    case bastore =>
      simp only [jm_stp] at hs
      split at hs
      · rename_i u k a r
        obtain ⟨h', hu, rfl⟩ := Option.map_eq_some_iff.mp hs
        have hW : W.elem a = true := hk
        unfold jm_astI at hu
        repeat' split at hu
        all_goals first
          | (cases hu; exact hz.setw hW)
          | (cases hu; done)
      · cases hs
    case lastore =>
      simp only [jm_stp] at hs
      split at hs
      · rename_i u k a r
        obtain ⟨h', hu, rfl⟩ := Option.map_eq_some_iff.mp hs
        have hW : W.elem a = true := hk
        unfold jm_astL at hu
        repeat' split at hu
        all_goals first
          | (cases hu; exact hz.setw hW)
          | (cases hu; done)
      · cases hs
    case aastore =>
      simp only [jm_stp] at hs
      split at hs
      · rename_i u k a r
        obtain ⟨h', hu, rfl⟩ := Option.map_eq_some_iff.mp hs
        have hW : W.elem a = true := hk
        unfold jm_astR at hu
        repeat' split at hu
        all_goals first
          | (cases hu; exact hz.setw hW)
          | (cases hu; done)
      · cases hs
    case new =>
      simp only [jm_stp] at hs
      cases hs
      exact hz.app (fun c hc t q e => by rw [List.mem_singleton.mp hc] at e; cases e)
    case newarray =>
      rename_i at0
      cases at0 <;> simp only [jm_stp] at hs
      all_goals first
        | (cases hs; done)
        | (repeat' split at hs
           all_goals first
             | (cases hs; exact hz.app (fun c hc t q e => by rw [List.mem_singleton.mp hc] at e; cases e; exact rfl))
             | (cases hs; done))
    case anewarray =>
      simp only [jm_stp] at hs
      repeat' split at hs
      all_goals first
        | (cases hs; exact hz.app (fun c hc t q e => by rw [List.mem_singleton.mp hc] at e; cases e; exact trivial))
        | (cases hs; done)
    case multianewarray =>
      simp only [jm_stp] at hs
      split at hs
      · split at hs
        · cases hs
        · cases hs
          rw [List.append_assoc]
          refine hz.app (fun c hc t q e => ?_)
          rcases List.mem_append.mp hc with hc | hc
          · rw [List.mem_singleton.mp hc] at e; cases e; exact trivial
          · rw [List.eq_of_mem_replicate hc] at e
            split at e
            · cases e; exact rfl
            · cases e; exact rfl
      · cases hs
theorem kx_sound {W : List Nat} {a : List (String × List Value)} {b : List (List Int32)} {n0 : Nat} {f0 : Nat → Int32} {tb : List jm_M} (m0 : Nat) (f1 : Nat → Int32) : ∀ {n d : Nat} {M : jm_M} {pc : Nat} {L : jm_L} {st : List Value} {h : jm_H} {r : jm_O × jm_H}, kx_run W (a, b, n0, f0) tb n d M pc L st h = some r → kx_Z W h.1 → jm_run (a, b, m0, f1) tb n d M pc L st h = some r ∧ kx_Z W r.2.1 := by
  intro n
  induction n with
  | zero => intro d M pc L st h r hr; cases hr
  | succ n ih =>
    intro d M pc L0 st h r hr hz
    rw [kx_run, kx_at_e] at hr
    rw [jm_run]
    split at hr
    next => cases hr
    next e he =>
    rw [he]
    rw [kx_m_e, kf_N_e] at hr
    (try dsimp only)
    generalize (if e.2.2.2.2.2.2.2.2 = [] then L0 else jm_mask e.2.2.2.2.2.2.2.2 L0) = L at hr ⊢
    unfold kx_nx at hr
    split at hr
    next ho =>
      unfold kx_af at hr
      split at hr
      next => cases hr
      next q hq =>
        obtain ⟨hk, hok, hst⟩ := kx_S_ok ho hq
        rw [kf_N_e, kf_L_e, kf_S_e, kx_F_e] at hr
        rw [hk]
        (try dsimp only)
        rw [kx_stp (n' := n0) (f' := f0) hok, hst]
        exact ih hr (kx_zs hok hz hst)
    next ho =>
      unfold kx_cr at hr
      split at hr
      next hc =>
        rw [kx_call hc]
        (try dsimp only)
        unfold kx_cl at hr
        rw [kz_x_e] at hr
        split at hr
        next d' M' hM' =>
          rw [hM']
          (try dsimp only)
          split at hr
          next hc =>
            obtain ⟨c1, c2, c3, c4⟩ := hc
            rw [if_pos ⟨c1, c2, c3, c4⟩]
            rw [kf_L_e] at hr
            split at hr
            next v h1 hrun =>
              obtain ⟨g1, g2⟩ := ih hrun hz
              rw [g1]
              rw [kf_S_e] at hr
              exact ih hr g2
            next => cases hr
          next => cases hr
        next => cases hr
      next hc =>
        split at hr
        next h53 =>
          obtain ⟨v, h1, h2⟩ := Option.map_eq_some_iff.mp hr
          cases h2
          rcases kx_retn (Or.inl h53) with ⟨-, hk⟩ | ⟨h54, -⟩
          · rw [hk]
            refine ⟨?_, hz⟩
            show (jm_ret (jm_rz M.2.2.2.1) 1 st).map (fun v => ((.inl v : jm_O), h)) = some (.inl v, h)
            rw [h1]; rfl
          · have e1 := Nat.eq_of_beq_eq_true h53
            have e2 := Nat.eq_of_beq_eq_true h54
            omega
        next h53 =>
          split at hr
          next h54 =>
            obtain ⟨v, h1, h2⟩ := Option.map_eq_some_iff.mp hr
            cases h2
            rcases kx_retn (Or.inr h54) with ⟨h53', -⟩ | ⟨-, hk⟩
            · have e1 := Nat.eq_of_beq_eq_true h53'
              have e2 := Nat.eq_of_beq_eq_true h54
              omega
            · rw [hk]
              refine ⟨?_, hz⟩
              show (jm_ret (jm_rz M.2.2.2.1) 2 st).map (fun v => ((.inl v : jm_O), h)) = some (.inl v, h)
              rw [h1]; rfl
          next => cases hr
/-- .. up to a place in the first method -/
noncomputable def kx_to (W : List Nat) (G : jm_G) (tb : List jm_M) (tgt : Nat) : Nat → Nat → jm_M → Nat → jm_L → List Value → jm_H → Option (jm_L × List Value × jm_H)
  | 0, _, _, _, _, _, _ => none
  | n + 1, d, M, pc, L0, st, h => if pc = tgt then some (L0, st, h) else match kx_at M.2.2.2.2.2.2 pc with
    | none => none
    | some e => kx_m e.2.2.2.2.2.2.2.2 L0 fun L => kf_N (kx_op e) fun op => match Nat.ble op 49 with
      | true => match kx_S W G op e L st h with
        | none => none
        | some q => kf_N q.1 fun pc' => kf_L q.2.1 fun L' => kf_S q.2.2.1 fun st' => kx_F op q.2.2.2 fun h' => kx_to W G tb tgt n d M pc' L' st' h'
      | false => match Nat.beq op 50 || Nat.beq op 51 with
        | true => match d, tb[e.2.2.2.1]? with
          | d' + 1, some M' => if M'.2.2.2.2.2.1 ≤ st.length ∧ jm_rcv G h e.2.1 e.2.2.2.2.2.1 (st.take M'.2.2.2.2.2.1).reverse = true ∧ jm_lt (st.drop M'.2.2.2.2.2.1) = true ∧ (jm_lay (st.take M'.2.2.2.2.2.1).reverse).length ≤ M'.2.2.1 then
              match kf_L (jm_ent (st.take M'.2.2.2.2.2.1).reverse M'.2.2.1) fun L' => kx_run W G tb n d' M' 0 L' [] h with
              | some (.inl v, h') => kf_S (v.toList ++ st.drop M'.2.2.2.2.2.1) fun st' => kx_to W G tb tgt n (d' + 1) M e.2.2.1 L st' h'
              | _ => none
            else none
          | _, _ => none
        | false => none
theorem kx_to_sound {W : List Nat} {a : List (String × List Value)} {b : List (List Int32)} {n0 : Nat} {f0 : Nat → Int32} {tb : List jm_M} {tgt : Nat} (m0 : Nat) (f1 : Nat → Int32) : ∀ {n d : Nat} {M : jm_M} {pc : Nat} {L : jm_L} {st : List Value} {h : jm_H} {L' : jm_L} {st' : List Value} {h' : jm_H}, kx_to W (a, b, n0, f0) tb tgt n d M pc L st h = some (L', st', h') → kx_Z W h.1 → kx_Z W h'.1 ∧ ∀ (m : Nat) (r : jm_O × jm_H), jm_run (a, b, m0, f1) tb m d M tgt L' st' h' = some r → ∃ N, jm_run (a, b, m0, f1) tb N d M pc L st h = some r := by
  intro n
  induction n with
  | zero => intro d M pc L st h L' st' h' hr; cases hr
  | succ n ih =>
    intro d M pc L0 st h L' st' h' hr hz
    rw [kx_to] at hr
    split at hr
    next hp =>
      cases hr
      subst hp
      exact ⟨hz, fun m r h1 => ⟨m, h1⟩⟩
    next hp =>
    rw [kx_at_e] at hr
    split at hr
    next => cases hr
    next e he =>
    rw [kx_m_e, kf_N_e] at hr
    (try dsimp only at hr)
    generalize hLe : (if e.2.2.2.2.2.2.2.2 = [] then L0 else jm_mask e.2.2.2.2.2.2.2.2 L0) = L at hr
    split at hr
    next ho =>
      split at hr
      next => cases hr
      next q hq =>
        obtain ⟨hk, hok, hst⟩ := kx_S_ok ho hq
        rw [kf_N_e, kf_L_e, kf_S_e, kx_F_e] at hr
        obtain ⟨g1, g2⟩ := ih hr (kx_zs hok hz hst)
        refine ⟨g1, fun m r h1 => ?_⟩
        obtain ⟨N, hN⟩ := g2 m r h1
        refine ⟨N + 1, ?_⟩
        rw [jm_run, he]
        (try dsimp only)
        rw [hLe, hk]
        (try dsimp only)
        rw [kx_stp (n' := n0) (f' := f0) hok, hst]
        exact hN
    next ho =>
      split at hr
      next hc =>
        have hk := kx_call hc
        split at hr
        next d' M' hM' =>
          split at hr
          next hc =>
            rw [kf_L_e] at hr
            split at hr
            next v h1 hrun =>
              obtain ⟨k1, k2⟩ := kx_sound m0 f1 hrun hz
              rw [kf_S_e] at hr
              obtain ⟨g1, g2⟩ := ih hr k2
              refine ⟨g1, fun m r h2 => ?_⟩
              obtain ⟨N, hN⟩ := g2 m r h2
              refine ⟨max n N + 1, ?_⟩
              obtain ⟨c1, c2, c3, c4⟩ := hc
              rw [jm_run, he]
              (try dsimp only)
              rw [hLe, hk, hM']
              (try dsimp only)
              rw [if_pos ⟨c1, c2, c3, c4⟩, jm_monoF' (Nat.le_max_left n N) k1]
              exact jm_monoF' (Nat.le_max_right n N) hN
            next => cases hr
          next => cases hr
        next => cases hr
      next => cases hr
