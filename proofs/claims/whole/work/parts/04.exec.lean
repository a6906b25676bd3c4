/-! THE MACHINE OF THIS CLAIM, ABSTRACTLY: a function that runs the methods' instructions over a list of cells whose places are the references.
 Values are the library's own, a reference being a place; '.retAddr i' is the String constant number i ('.retAddr (i + 1000)' its bytes), '.float 0' the law's script, '.float 1' some reference or null that nothing looks into (a caught exception). -/
/-- a cell: an object of class number c, or an array (its elements' type, length, elements) -/
abbrev jm_C : Type := (Nat × List Value) ⊕ (FieldType × vp_A)
/-- the cells; how many cells and slots were made -/
abbrev jm_H : Type := List jm_C × Nat × Nat
abbrev jm_L : Type := List (Option Value)
/-- pc, instruction, next pc, three numbers, place of its word, a value, which locals live on -/
abbrev jm_I : Type := Nat × Instr × Nat × Nat × Nat × Nat × Nat × Value × List Bool
/-- a method: name, bytes, maxLocals, what it returns, handlers (from, to, handler, exception), items it takes, instructions -/
abbrev jm_M : Type := MethodName × ByteArray × Nat × Option FieldType × List (Nat × Nat × Nat × Nat) × Nat × List jm_I
/-- returned, or threw exception number k -/
abbrev jm_O : Type := Option Value ⊕ Nat
abbrev jm_S : Type := Nat × jm_L × List Value × jm_H
def jm_in (i : Int32) (n : Nat) : Bool := !(decide (i < 0)) && decide (i.toNatClampNeg < n)
/-- a field -/
def jm_get (h : jm_H) (a ci j : Nat) : Option Value := match h.1[a]? with
  | some (.inl (c, fs)) => if c = ci then fs[j]? else none
  | _ => none
def jm_getI (h : jm_H) (a ci j : Nat) : Option Int32 := match jm_get h a ci j with
  | some (.int x) => some x
  | _ => none
def jm_getL (h : jm_H) (a ci j : Nat) : Option Int64 := match jm_get h a ci j with
  | some (.long x) => some x
  | _ => none
def jm_getR (h : jm_H) (a ci j : Nat) : Option Nat := match jm_get h a ci j with
  | some (.ref x) => some x
  | _ => none
def jm_put (h : jm_H) (a ci j : Nat) (v : Value) : Option jm_H := match h.1[a]? with
  | some (.inl (c, fs)) => if c = ci ∧ j < fs.length then some (h.1.set a (.inl (c, fs.set j v)), h.2) else none
  | _ => none
/-- array elements -/
def jm_aldI (h : jm_H) (t : FieldType) (a : Nat) (i : Int32) : Option Int32 := match h.1[a]? with
  | some (.inr (t', (n, .inl f))) => if t' = t ∧ jm_in i n = true then some (f i.toNatClampNeg) else none
  | _ => none
def jm_aldL (h : jm_H) (a : Nat) (i : Int32) : Option Int64 := match h.1[a]? with
  | some (.inr (t', (n, .inr (.inl f)))) => if t' = .long ∧ jm_in i n = true then some (f i.toNatClampNeg) else none
  | _ => none
def jm_aldR (h : jm_H) (a : Nat) (i : Int32) : Option (Option Nat) := match h.1[a]? with
  | some (.inr (t', (n, .inr (.inr (.inr (.inr f)))))) => if t'.isReference = true ∧ jm_in i n = true then some (f i.toNatClampNeg) else none
  | _ => none
def jm_astI (h : jm_H) (t : FieldType) (a : Nat) (i x : Int32) : Option jm_H := match h.1[a]? with
  | some (.inr (t', (n, .inl f))) => if t' = t ∧ jm_in i n = true then some (h.1.set a (.inr (t', (n, .inl (upd f i.toNatClampNeg x)))), h.2) else none
  | _ => none
def jm_astL (h : jm_H) (a : Nat) (i : Int32) (x : Int64) : Option jm_H := match h.1[a]? with
  | some (.inr (t', (n, .inr (.inl f)))) => if t' = .long ∧ jm_in i n = true then some (h.1.set a (.inr (t', (n, .inr (.inl (vp_updL f i.toNatClampNeg x))))), h.2) else none
  | _ => none
/-- an object of class number ci into an array of such -/
def jm_astR (h : jm_H) (cn : String) (ci a : Nat) (i : Int32) (v : Nat) : Option jm_H := match h.1[a]?, h.1[v]? with
  | some (.inr (t', (n, .inr (.inr (.inr (.inr f)))))), some (.inl (c, _)) => if t' = .object cn ∧ c = ci ∧ jm_in i n = true then some (h.1.set a (.inr (t', (n, .inr (.inr (.inr (.inr (va_up f i.toNatClampNeg (some v)))))))), h.2) else none
  | _, _ => none
def jm_len (h : jm_H) (a : Nat) : Option Int32 := match h.1[a]? with
  | some (.inr (_, (n, _))) => some (Int32.ofNat n)
  | _ => none
def jm_add (h : jm_H) (c : jm_C) (n : Nat) : jm_H := (h.1 ++ [c], h.2.1 + 1, h.2.2 + n)
/-- stack shapes -/
def jm_i1 (f : Int32 → Value) : List Value → Option (List Value)
  | .int x :: r => some (f x :: r)
  | _ => none
def jm_i2 (f : Int32 → Int32 → Value) : List Value → Option (List Value)
  | .int y :: .int x :: r => some (f x y :: r)
  | _ => none
def jm_l2 (f : Int64 → Int64 → Value) : List Value → Option (List Value)
  | .long y :: .long x :: r => some (f x y :: r)
  | _ => none
def jm_c1 : Value → Bool
  | .long _ => false
  | _ => true
def jm_w : Value → Nat
  | .long _ => 2
  | _ => 1
/-- what waits on the stack below a call is short -/
def jm_lt (r : List Value) : Bool := decide ((r.map jm_w).sum ≤ 8)
def jm_isA : Value → Bool
  | .ref _ => true
  | .null => true
  | .retAddr _ => true
  | .float _ => true
  | _ => false
/-- locals -/
def jm_ldI (L : jm_L) (i : Nat) : Option Value := match L[i]? with
  | some (some (.int x)) => some (.int x)
  | _ => none
def jm_ldL (L : jm_L) (i : Nat) : Option Value := match L[i]? with
  | some (some (.long x)) => some (.long x)
  | _ => none
def jm_ldA (L : jm_L) (i : Nat) : Option Value := match L[i]? with
  | some (some v) => if jm_isA v = true then some v else none
  | _ => none
/-- a pair's first half that a store hits goes -/
def jm_kill (L : jm_L) : Nat → jm_L
  | 0 => L
  | k + 1 => match L[k]? with
    | some (some (.long _)) => L.set k none
    | _ => L
def jm_st1 (L : jm_L) (i : Nat) (v : Value) : Option jm_L := if i < L.length then some ((jm_kill L i).set i (some v)) else none
def jm_st2 (L : jm_L) (i : Nat) (v : Value) : Option jm_L := if i + 1 < L.length then some (((jm_kill L i).set i (some v)).set (i + 1) none) else none
def jm_stI (L : jm_L) (i : Nat) (np : Nat) (h : jm_H) : List Value → Option jm_S
  | .int x :: r => (jm_st1 L i (.int x)).map fun L' => (np, L', r, h)
  | _ => none
def jm_stL (L : jm_L) (i : Nat) (np : Nat) (h : jm_H) : List Value → Option jm_S
  | .long x :: r => (jm_st2 L i (.long x)).map fun L' => (np, L', r, h)
  | _ => none
def jm_stA (L : jm_L) (i : Nat) (np : Nat) (h : jm_H) : List Value → Option jm_S
  | v :: r => if jm_isA v = true then (jm_st1 L i v).map fun L' => (np, L', r, h) else none
  | _ => none
def jm_if1 (b : Int32 → Prop) [∀ x, Decidable (b x)] (L : jm_L) (t np : Nat) (h : jm_H) : List Value → Option jm_S
  | .int x :: r => if b x then some (t, L, r, h) else some (np, L, r, h)
  | _ => none
def jm_if2 (b : Int32 → Int32 → Prop) [∀ x y, Decidable (b x y)] (L : jm_L) (t np : Nat) (h : jm_H) : List Value → Option jm_S
  | .int y :: .int x :: r => if b x y then some (t, L, r, h) else some (np, L, r, h)
  | _ => none
def jm_to (pc : Nat) (off : Int) (L : jm_L) (r : List Value) (h : jm_H) : Option jm_S := if 0 ≤ (pc : Int) + off then some (((pc : Int) + off).toNat, L, r, h) else none
def jm_mask : List Bool → jm_L → jm_L
  | b :: bs, v :: vs => (if b = true then v else none) :: jm_mask bs vs
  | _, _ => []
/-- what the claim's classes are called, and what a new object of each holds; the String constants' bytes; the script -/
abbrev jm_G : Type := List (String × List Value) × List (List Int32) × Nat × (Nat → Int32)
def jm_fld (G : jm_G) (ci : Nat) : List Value := match G.1[ci]? with
  | some q => q.2
  | none => []
def jm_nam (G : jm_G) (ci : Nat) : String := match G.1[ci]? with
  | some q => q.1
  | none => ""
/-- one instruction that is neither a call of the claim's own methods nor a return -/
def jm_stp (G : jm_G) (e : jm_I) (L : jm_L) (st : List Value) (h : jm_H) : Option jm_S := match e with
  | (pc, i, np, x, y, z, _, v, _) => match i with
    | .iconst _ => some (np, L, v :: st, h)
    | .lconst _ => some (np, L, v :: st, h)
    | .bipush _ => some (np, L, v :: st, h)
    | .sipush _ => some (np, L, v :: st, h)
    | .ldc _ => some (np, L, v :: st, h)
    | .ldc_w _ => some (np, L, v :: st, h)
    | .ldc2_w _ => some (np, L, v :: st, h)
    | .iload k => (jm_ldI L k).map fun v => (np, L, v :: st, h)
    | .iload_n k => (jm_ldI L k.val).map fun v => (np, L, v :: st, h)
    | .lload k => (jm_ldL L k).map fun v => (np, L, v :: st, h)
    | .lload_n k => (jm_ldL L k.val).map fun v => (np, L, v :: st, h)
    | .aload k => (jm_ldA L k).map fun v => (np, L, v :: st, h)
    | .aload_n k => (jm_ldA L k.val).map fun v => (np, L, v :: st, h)
    | .istore k => jm_stI L k np h st
    | .istore_n k => jm_stI L k.val np h st
    | .lstore k => jm_stL L k np h st
    | .lstore_n k => jm_stL L k.val np h st
    | .astore k => jm_stA L k np h st
    | .astore_n k => jm_stA L k.val np h st
    | .iinc k n => match jm_ldI L k with
      | some (.int x) => (jm_st1 L k (.int (x + Int32.ofInt n))).map fun L' => (np, L', st, h)
      | _ => none
    | .iadd => (jm_i2 (fun x y => .int (x + y)) st).map fun r => (np, L, r, h)
    | .isub => (jm_i2 (fun x y => .int (x - y)) st).map fun r => (np, L, r, h)
    | .imul => (jm_i2 (fun x y => .int (x * y)) st).map fun r => (np, L, r, h)
    | .iand => (jm_i2 (fun x y => .int (x &&& y)) st).map fun r => (np, L, r, h)
    | .ior => (jm_i2 (fun x y => .int (x ||| y)) st).map fun r => (np, L, r, h)
    | .ishl => (jm_i2 (fun x y => .int (x <<< (y &&& 31))) st).map fun r => (np, L, r, h)
    | .ishr => (jm_i2 (fun x y => .int (x >>> (y &&& 31))) st).map fun r => (np, L, r, h)
    | .iushr => (jm_i2 (fun x y => .int ((x.toUInt32 >>> (y.toUInt32 &&& Int32.toUInt32 31)).toInt32)) st).map fun r => (np, L, r, h)
    | .idiv => match st with
      | .int y :: .int x :: r => if y = 0 then none else some (np, L, .int (x / y) :: r, h)
      | _ => none
    | .irem => match st with
      | .int y :: .int x :: r => if y = 0 then none else some (np, L, .int (x - x / y * y) :: r, h)
      | _ => none
    | .ladd => (jm_l2 (fun x y => .long (x + y)) st).map fun r => (np, L, r, h)
    | .lsub => (jm_l2 (fun x y => .long (x - y)) st).map fun r => (np, L, r, h)
    | .lmul => (jm_l2 (fun x y => .long (x * y)) st).map fun r => (np, L, r, h)
    | .lcmp => (jm_l2 (fun x y => .int (lg_cmp x y)) st).map fun r => (np, L, r, h)
    | .ldiv => match st with
      | .long y :: .long x :: r => if y = 0 then none else some (np, L, .long (x / y) :: r, h)
      | _ => none
    | .lrem => match st with
      | .long y :: .long x :: r => if y = 0 then none else some (np, L, .long (x - x / y * y) :: r, h)
      | _ => none
    | .i2l => (jm_i1 (fun x => .long x.toInt64) st).map fun r => (np, L, r, h)
    | .i2c => (jm_i1 (fun x => .int (x.toUInt32 % 65536).toInt32) st).map fun r => (np, L, r, h)
    | .i2b => (jm_i1 (fun x => .int x.toInt8.toInt32) st).map fun r => (np, L, r, h)
    | .dup => match st with
      | v :: r => if jm_c1 v = true then some (np, L, v :: v :: r, h) else none
      | _ => none
    | .pop => match st with
      | v :: r => if jm_c1 v = true then some (np, L, r, h) else none
      | _ => none
    | .dup2 => match st with
      | .long v :: r => some (np, L, .long v :: .long v :: r, h)
      | v :: w :: r => if jm_c1 v = true ∧ jm_c1 w = true then some (np, L, v :: w :: v :: w :: r, h) else none
      | _ => none
    | .goto _ => some (x, L, st, h)
    | .ifCond .eq _ => jm_if1 (fun a => a = 0) L x np h st
    | .ifCond .ne _ => jm_if1 (fun a => a ≠ 0) L x np h st
    | .ifCond .lt _ => jm_if1 (fun a => a < 0) L x np h st
    | .ifCond .ge _ => jm_if1 (fun a => 0 ≤ a) L x np h st
    | .ifCond .gt _ => jm_if1 (fun a => 0 < a) L x np h st
    | .ifCond .le _ => jm_if1 (fun a => a ≤ 0) L x np h st
    | .if_icmp .eq _ => jm_if2 (fun a b => a = b) L x np h st
    | .if_icmp .ne _ => jm_if2 (fun a b => a ≠ b) L x np h st
    | .if_icmp .lt _ => jm_if2 (fun a b => a < b) L x np h st
    | .if_icmp .ge _ => jm_if2 (fun a b => b ≤ a) L x np h st
    | .if_icmp .gt _ => jm_if2 (fun a b => b < a) L x np h st
    | .if_icmp .le _ => jm_if2 (fun a b => a ≤ b) L x np h st
    | .ifnonnull _ => match st with
      | .ref _ :: r => some (x, L, r, h)
      | .null :: r => some (np, L, r, h)
      | _ => none
    | .ifnull _ => match st with
      | .ref _ :: r => some (np, L, r, h)
      | .null :: r => some (x, L, r, h)
      | _ => none
    | .tableswitch dflt lo hi offs => match st with
      | .int a :: r => if a.toInt < lo ∨ hi < a.toInt then jm_to pc dflt L r h else match offs[(a.toInt - lo).toNat]? with
        | some off => jm_to pc off L r h
        | none => none
      | _ => none
    | .lookupswitch dflt ps => match st with
      | .int a :: r => jm_to pc (Op.lookupswitch.offset ps.toList dflt a.toInt) L r h
      | _ => none
    | .getfield _ => match st with
      | .ref a :: r => if z = 0 then (jm_getI h a x y).map (fun v => (np, L, .int v :: r, h)) else if z = 1 then (jm_getL h a x y).map (fun v => (np, L, .long v :: r, h)) else (jm_getR h a x y).map (fun v => (np, L, .ref v :: r, h))
      | .retAddr k :: r => if x = 50 ∧ k < G.2.1.length then (if y = 0 then some (np, L, .retAddr (k + 1000) :: r, h) else some (np, L, .int 0 :: r, h)) else none
      | _ => none
    | .getstatic _ => if x = 0 then some (np, L, .int 1 :: st, h) else some (np, L, .float 1 :: st, h)
    | .putfield _ => match st with
      | .int v :: .ref a :: r => if z = 0 ∨ (z = 3 ∧ (v = 0 ∨ v = 1)) then (jm_put h a x y (.int v)).map (fun h' => (np, L, r, h')) else none
      | .long v :: .ref a :: r => if z = 1 then (jm_put h a x y (.long v)).map (fun h' => (np, L, r, h')) else none
      | .ref v :: .ref a :: r => if z = 2 then (jm_put h a x y (.ref v)).map (fun h' => (np, L, r, h')) else none
      | _ => none
    | .iaload => match st with
      | .int k :: .ref a :: r => (jm_aldI h .int a k).map (fun v => (np, L, .int v :: r, h))
      | .int k :: .float u :: r => if u = 0 ∧ jm_in k G.2.2.1 = true then some (np, L, .int (G.2.2.2 k.toNatClampNeg) :: r, h) else none
      | _ => none
    | .baload => match st with
      | .int k :: .ref a :: r => (jm_aldI h .byte a k).map (fun v => (np, L, .int v :: r, h))
      | .int j :: .retAddr k :: r => if k < 1000 then none else match G.2.1[k - 1000]? with
        | some s => if jm_in j s.length = true then some (np, L, .int (s.getD j.toNatClampNeg 0) :: r, h) else none
        | none => none
      | _ => none
    | .laload => match st with
      | .int k :: .ref a :: r => (jm_aldL h a k).map (fun v => (np, L, .long v :: r, h))
      | _ => none
    | .aaload => match st with
      | .int k :: .ref a :: r => match jm_aldR h a k with
        | some (some v) => some (np, L, .ref v :: r, h)
        | some none => some (np, L, .null :: r, h)
        | none => none
      | _ => none
    | .iastore => match st with
      | .int v :: .int k :: .ref a :: r => (jm_astI h .int a k v).map (fun h' => (np, L, r, h'))
      | _ => none
    | .bastore => match st with
      | .int v :: .int k :: .ref a :: r => (jm_astI h .byte a k (vp_nar .byte v)).map (fun h' => (np, L, r, h'))
      | _ => none
    | .lastore => match st with
      | .long v :: .int k :: .ref a :: r => (jm_astL h a k v).map (fun h' => (np, L, r, h'))
      | _ => none
    | .aastore => match st with
      | .ref v :: .int k :: .ref a :: r => (jm_astR h (jm_nam G x) x a k v).map (fun h' => (np, L, r, h'))
      | _ => none
    | .arraylength => match st with
      | .ref a :: r => (jm_len h a).map (fun v => (np, L, .int v :: r, h))
      | .float u :: r => if u = 0 then some (np, L, .int (Int32.ofNat G.2.2.1) :: r, h) else none
      | .retAddr k :: r => if k < 1000 then none else (G.2.1[k - 1000]?).map (fun s => (np, L, .int (Int32.ofNat s.length) :: r, h))
      | _ => none
    | .new _ => some (np, L, .ref h.1.length :: st, jm_add h (.inl (x, jm_fld G x)) (jm_fld G x).length)
    | .newarray .int => match st with
      | .int n :: r => if n < 0 ∨ 65536 < n.toNatClampNeg then none else some (np, L, .ref h.1.length :: r, jm_add h (.inr (.int, (n.toNatClampNeg, .inl fun _ => 0))) n.toNatClampNeg)
      | _ => none
    | .newarray .byte => match st with
      | .int n :: r => if n < 0 ∨ 65536 < n.toNatClampNeg then none else some (np, L, .ref h.1.length :: r, jm_add h (.inr (.byte, (n.toNatClampNeg, .inl fun _ => 0))) n.toNatClampNeg)
      | _ => none
    | .newarray .long => match st with
      | .int n :: r => if n < 0 ∨ 65536 < n.toNatClampNeg then none else some (np, L, .ref h.1.length :: r, jm_add h (.inr (.long, (n.toNatClampNeg, .inr (.inl fun _ => 0)))) n.toNatClampNeg)
      | _ => none
    | .anewarray _ => match st with
      | .int n :: r => if n < 0 ∨ 65536 < n.toNatClampNeg then none else some (np, L, .ref h.1.length :: r, jm_add h (.inr (.object (jm_nam G x), (n.toNatClampNeg, .inr (.inr (.inr (.inr fun _ => none)))))) n.toNatClampNeg)
      | _ => none
    | .multianewarray _ _ => match st with
      | .int k :: .int n :: r => if n < 0 ∨ k < 0 ∨ 65536 < n.toNatClampNeg ∨ 65536 < k.toNatClampNeg then none else
        some (np, L, .ref h.1.length :: r, (h.1 ++ [.inr (.array (if z = 0 then .int else .long), (n.toNatClampNeg, .inr (.inr (.inr (.inr fun i => if i < n.toNatClampNeg then some (h.1.length + 1 + i) else none)))))] ++ List.replicate n.toNatClampNeg (if z = 0 then .inr (.int, (k.toNatClampNeg, .inl fun _ => 0)) else .inr (.long, (k.toNatClampNeg, .inr (.inl fun _ => 0)))), h.2.1 + 1 + n.toNatClampNeg, h.2.2 + n.toNatClampNeg + n.toNatClampNeg * k.toNatClampNeg))
      | _ => none
    | .invokespecial _ => match st with
      | .ref _ :: r => if x = 1000 ∧ jm_lt r = true then some (np, L, r, h) else none
      | _ => none
    | .invokestatic _ => match st with
      | .int b :: .int a :: r => if x = 1003 ∧ jm_lt r = true then some (np, L, .int (if a < b then b else a) :: r, h) else if x = 1004 ∧ jm_lt r = true then some (np, L, .int (if b < a then b else a) :: r, h) else none
      | .long b :: .long a :: r => if x = 1005 ∧ jm_lt r = true then some (np, L, .long (if b < a then a else b) :: r, h) else if x = 1006 ∧ jm_lt r = true then some (np, L, .long (if b < a then b else a) :: r, h) else none
      | _ => none
    | _ => none
def jm_at : List jm_I → Nat → Option jm_I
  | [], _ => none
  | e :: r, pc => if e.1 = pc then some e else jm_at r pc
/-- how a method's locals begin -/
def jm_lay : List Value → List (Option Value)
  | [] => []
  | .long x :: r => some (.long x) :: none :: jm_lay r
  | v :: r => some v :: jm_lay r
def jm_ent (vs : List Value) (n : Nat) : jm_L := jm_lay vs ++ List.replicate (n - (jm_lay vs).length) none
def jm_hnd : List (Nat × Nat × Nat × Nat) → Nat → Nat → Option Nat
  | [], _, _ => none
  | (f, t, hp, k) :: r, pc, E => if f ≤ pc ∧ pc < t ∧ k = E then some hp else jm_hnd r pc E
/-- what an instruction is to the run: 0 an ordinary one, 1 a return of nothing, 2 of an int, 3 of a long, 4 of a reference, 5 a call of a method of the claim's, 6 a throw -/
def jm_kind (e : jm_I) : Nat := match e.2.1 with
  | .return_ => 1
  | .ireturn => 2
  | .lreturn => 3
  | .areturn => 4
  | .invokevirtual _ => if e.2.2.2.1 < 1000 then 5 else 0
  | .invokestatic _ => if e.2.2.2.1 < 1000 then 5 else 0
  | .invokespecial _ => if e.2.2.2.1 < 1000 then 5 else 0
  | .new _ => if 2000 ≤ e.2.2.2.1 then 6 else 0
  | _ => 0
def jm_ret (z : Nat) (k : Nat) (st : List Value) : Option (Option Value) := match k, st with
  | 1, [] => some none
  | 2, [.int x] => if z = 0 ∨ (z = 1 ∧ (x = 0 ∨ x = 1)) ∨ (z = 2 ∧ x = 0) ∨ (z = 3 ∧ narrow .char (.int x) = .int x) then some (some (.int x)) else none
  | 3, [.long x] => some (some (.long x))
  | 4, [.ref x] => some (some (.ref x))
  | _, _ => none
/-- a return's kind: 0 an int, 1 a boolean, 2 a byte, 3 a char -/
def jm_rz : Option FieldType → Nat
  | some .int => 0
  | some .boolean => 1
  | some .byte => 2
  | some .char => 3
  | _ => 4
/-- the receiver is an object of the method's class -/
def jm_rcv (G : jm_G) (h : jm_H) (i : Instr) (ci : Nat) (vs : List Value) : Bool := match i with
  | .invokestatic _ => true
  | .invokespecial _ => match vs with
    | .ref _ :: _ => true
    | _ => false
  | _ => match vs with
    | .ref a :: _ => match h.1[a]? with
      | some (.inl (c, _)) => decide (c = ci)
      | _ => false
    | .retAddr k :: _ => decide (ci = 50 ∧ k < G.2.1.length)
    | _ => false
/-- constructors throw nothing -/
def jm_sp : Instr → Bool
  | .invokespecial _ => true
  | _ => false
/-- the run: fuel, depth of calls, the method, where it stands -/
def jm_run (G : jm_G) (tb : List jm_M) : Nat → Nat → jm_M → Nat → jm_L → List Value → jm_H → Option (jm_O × jm_H)
  | 0, _, _, _, _, _, _ => none
  | n + 1, d, M, pc, L0, st, h => match jm_at M.2.2.2.2.2.2 pc with
    | none => none
    | some e => match (if e.2.2.2.2.2.2.2.2 = [] then L0 else jm_mask e.2.2.2.2.2.2.2.2 L0) with
      | L => match jm_kind e with
        | 0 => (jm_stp G e L st h).bind fun q => jm_run G tb n d M q.1 q.2.1 q.2.2.1 q.2.2.2
        | 5 => match d, tb[e.2.2.2.1]? with
          | d' + 1, some M' => if M'.2.2.2.2.2.1 ≤ st.length ∧ jm_rcv G h e.2.1 e.2.2.2.2.2.1 (st.take M'.2.2.2.2.2.1).reverse = true ∧ jm_lt (st.drop M'.2.2.2.2.2.1) = true ∧ (jm_lay (st.take M'.2.2.2.2.2.1).reverse).length ≤ M'.2.2.1 then
              match jm_run G tb n d' M' 0 (jm_ent (st.take M'.2.2.2.2.2.1).reverse M'.2.2.1) [] h with
              | some (.inl v, h') => jm_run G tb n (d' + 1) M e.2.2.1 L (v.toList ++ st.drop M'.2.2.2.2.2.1) h'
              | some (.inr E, h') => if jm_sp e.2.1 = true then none else match jm_hnd M.2.2.2.2.1 pc E with
                | some hp => jm_run G tb n (d' + 1) M hp L [.float 1] h'
                | none => if M.2.2.2.2.1 = [] then some (.inr E, h') else none
              | none => none
            else none
          | _, _ => none
        | 6 => if M.2.2.2.2.1 = [] ∧ st = [] then some (.inr (e.2.2.2.1 - 2000), (h.1, h.2.1 + 1, h.2.2 + 6)) else none
        | k => (jm_ret (jm_rz M.2.2.2.1) k st).map fun v => (.inl v, h)
