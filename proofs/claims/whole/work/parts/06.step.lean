/-! one instruction of the abstract machine is one of the real one's -/
/-- the classes of which arrays are made -/
def jr_AO : List String := ["CardCups$Diary", "CardCups$Habit"]
/-- what a printed row of code must say (decided row by row) -/
def jm_il : Instr → Nat → Nat
  | .bipush _, _ => 2
  | .ldc _, _ => 2
  | .iload _, _ => 2
  | .lload _, _ => 2
  | .aload _, _ => 2
  | .istore _, _ => 2
  | .lstore _, _ => 2
  | .astore _, _ => 2
  | .newarray _, _ => 2
  | .sipush _, _ => 3
  | .ldc_w _, _ => 3
  | .ldc2_w _, _ => 3
  | .iinc _ _, _ => 3
  | .goto _, _ => 3
  | .ifCond _ _, _ => 3
  | .if_icmp _ _, _ => 3
  | .ifnonnull _, _ => 3
  | .ifnull _, _ => 3
  | .getfield _, _ => 3
  | .getstatic _, _ => 3
  | .putfield _, _ => 3
  | .new _, _ => 3
  | .anewarray _, _ => 3
  | .invokevirtual _, _ => 3
  | .invokestatic _, _ => 3
  | .invokespecial _, _ => 3
  | .multianewarray _ _, _ => 4
  | .tableswitch _ _ _ _, l => l
  | .lookupswitch _ _, l => l
  | _, _ => 1
def jm_zt : Nat → FieldType → Bool
  | 0, .int => true
  | 1, .long => true
  | 2, .object _ => true
  | 2, .array _ => true
  | 3, .boolean => true
  | _, _ => false
/-- how many parameters the descriptor names -/
def jm_pn (M : jm_M) : Option Nat := (parseMethodDescriptor M.1.desc).map (fun d => d.parameters.length)
def jm_okb (cl : List vw_C) (tx : List String) (tb : List jm_M) (W : List Cond) (own nm : String) (cc : ByteArray) (nL : Nat) (e : jm_I) : Bool := match e with
  | (pc, i, np, x, y, z, w, v, bs) => decide (decode cc pc = .ok (i, np - pc)) && (decide (np = pc + jm_il i (np - pc)) && (decide (bs = [] ∨ bs.length = nL) && (match i with
    | .iconst n => decide (v = .int (Int32.ofInt n))
    | .lconst n => decide (v = .long (Int64.ofNat (n : Nat)))
    | .bipush n => decide (v = .int (Int8.ofInt n).toInt32)
    | .sipush n => decide (v = .int (Int16.ofInt n).toInt32)
    | .ldc idx => match v with
      | .int k => decide (W[w]? = some (.constant own idx k))
      | .retAddr j => match tx[j]? with
        | some t => decide (W[w]? = some (.stringRef own idx t))
        | none => false
      | _ => false
    | .ldc_w idx => match v with
      | .int k => decide (W[w]? = some (.constant own idx k))
      | .retAddr j => match tx[j]? with
        | some t => decide (W[w]? = some (.stringRef own idx t))
        | none => false
      | _ => false
    | .ldc2_w idx => match v with
      | .long k => decide (W[w]? = some (.constantLong own idx k))
      | _ => false
    | .goto off => decide ((pc : Int) + off = (x : Int))
    | .ifCond _ off => decide ((pc : Int) + off = (x : Int))
    | .if_icmp _ off => decide ((pc : Int) + off = (x : Int))
    | .ifnonnull off => decide ((pc : Int) + off = (x : Int))
    | .ifnull off => decide ((pc : Int) + off = (x : Int))
    | .lookupswitch _ ps => (ps.toList.zip (ps.toList.drop 1)).all (fun (a, next) => a.1 < next.1)
    | .getfield idx => if x = 50 then decide (W[w]? = some (if y = 0 then .fieldLink own idx "java/lang/String" "value" "[B" else .fieldLink own idx "java/lang/String" "coder" "B")) else match cl[x]? with
      | some q => decide (y < q.2.2) && decide (W[w]? = some (.fieldLink own idx (q.2.1 y).1 (q.2.1 y).2.1 (q.2.1 y).2.2.1))
      | none => false
    | .getstatic idx => decide (W[w]? = some (if x = 0 then .fieldLink own idx "java/lang/String" "COMPACT_STRINGS" "Z" else .fieldLink own idx "jdk/internal/util/Preconditions" "SIOOBE_FORMATTER" "Ljava/util/function/BiFunction;"))
    | .putfield idx => match cl[x]? with
      | some q => decide (y < q.2.2) && (decide (W[w]? = some (.fieldLink own idx (q.2.1 y).1 (q.2.1 y).2.1 (q.2.1 y).2.2.1)) && ((match parseFieldDescriptor (q.2.1 y).2.2.1 with
        | some ty => jm_zt z ty
        | none => false) && (if (q.2.1 y).2.2.2 = true then decide (nm = "<init>") && decide ((q.2.1 y).1 = own) else true)))
      | none => false
    | .aastore => decide (x < cl.length)
    | .new idx => match cl[x]? with
      | some q => decide (W[w]? = some (.classLink own idx q.1))
      | none => decide (2000 ≤ x)
    | .newarray _ => true
    | .anewarray idx => match cl[x]? with
      | some q => decide (W[w]? = some (.classLink own idx q.1)) && decide (q.1 ∈ jr_AO)
      | none => false
    | .multianewarray idx n => decide (n = 2) && (if z = 0 then decide (W[w]? = some (.classLink own idx "[[I")) else decide (W[w]? = some (.classLink own idx "[[J")))
    | .invokespecial idx => if x = 1000 then decide (W[w]? = some (.methodLink own idx objectInit)) else match tb[x]? with
      | some M => decide (W[w]? = some (.methodLink own idx M.1)) && (decide (M.1.name = "<init>") && (decide (M.2.2.2.2.1 = []) && decide ((jm_pn M).map (· + 1) = some M.2.2.2.2.2.1)))
      | none => decide (x = 1999)
    | .invokevirtual idx => match tb[x]? with
      | some M => decide (W[w]? = some (.methodLink own idx M.1)) && (decide (if z = 50 then M.1.cls = "java/lang/String" else (cl[z]?).map (fun q => q.1) = some M.1.cls) && (decide (M.1.name ≠ "<init>") && (decide (M.2.2.2.2.1 = []) && decide ((jm_pn M).map (· + 1) = some M.2.2.2.2.2.1))))
      | none => false
    | .invokestatic idx => if x = 1003 then decide (W[w]? = some (.methodLink own idx Lib.Math.max.name)) else if x = 1004 then decide (W[w]? = some (.methodLink own idx Lib.Math.min.name)) else if x = 1005 then decide (W[w]? = some (.methodLink own idx Lib.MathLoose.max_long.x)) else if x = 1006 then decide (W[w]? = some (.methodLink own idx Lib.MathLoose.min_long.x)) else match tb[x]? with
      | some M => decide (W[w]? = some (.methodLink own idx M.1)) && decide (jm_pn M = some M.2.2.2.2.2.1)
      | none => false
    | _ => true)))
theorem jm_i1_inv {f : Int32 → Value} {st r : List Value} (h : jm_i1 f st = some r) : ∃ (x : Int32) (r0 : List Value), st = .int x :: r0 ∧ r = f x :: r0 := by
  unfold jm_i1 at h
  split at h <;> cases h
  exact ⟨_, _, rfl, rfl⟩
theorem jm_i2_inv {f : Int32 → Int32 → Value} {st r : List Value} (h : jm_i2 f st = some r) : ∃ (x y : Int32) (r0 : List Value), st = .int y :: .int x :: r0 ∧ r = f x y :: r0 := by
  unfold jm_i2 at h
  split at h <;> cases h
  exact ⟨_, _, _, rfl, rfl⟩
theorem jm_l2_inv {f : Int64 → Int64 → Value} {st r : List Value} (h : jm_l2 f st = some r) : ∃ (x y : Int64) (r0 : List Value), st = .long y :: .long x :: r0 ∧ r = f x y :: r0 := by
  unfold jm_l2 at h
  split at h <;> cases h
  exact ⟨_, _, _, rfl, rfl⟩
theorem jr_S_c {b : Nat} {sa : Nat → Nat} {ws : va_W} {v : Value} {r S : List Value} (h : jr_S b sa ws (v :: r) S) : ∃ (V : Value) (R : List Value), S = V :: R ∧ jr_V b sa ws v V ∧ jr_S b sa ws r R := by
  cases S with
  | nil => exact h.elim
  | cons V R => exact ⟨V, R, rfl, h.1, h.2⟩
theorem jr_S_i {b : Nat} {sa : Nat → Nat} {ws : va_W} {x : Int32} {r S : List Value} (h : jr_S b sa ws (.int x :: r) S) : ∃ R : List Value, S = .int x :: R ∧ jr_S b sa ws r R := by
  obtain ⟨V, R, rfl, h1, h2⟩ := jr_S_c h
  cases (show V = _ from h1)
  exact ⟨R, rfl, h2⟩
theorem jr_S_l {b : Nat} {sa : Nat → Nat} {ws : va_W} {x : Int64} {r S : List Value} (h : jr_S b sa ws (.long x :: r) S) : ∃ R : List Value, S = .long x :: R ∧ jr_S b sa ws r R := by
  obtain ⟨V, R, rfl, h1, h2⟩ := jr_S_c h
  cases (show V = _ from h1)
  exact ⟨R, rfl, h2⟩
theorem jr_S_r {b : Nat} {sa : Nat → Nat} {ws : va_W} {k : Nat} {r S : List Value} (h : jr_S b sa ws (.ref k :: r) S) : ∃ (w : Nat × va_E) (R : List Value), ws[k]? = some w ∧ S = .ref w.1 :: R ∧ jr_S b sa ws r R := by
  obtain ⟨V, R, rfl, ⟨w, h1, rfl⟩, h2⟩ := jr_S_c h
  exact ⟨w, R, h1, rfl, h2⟩
theorem jr_S_w {b : Nat} {sa : Nat → Nat} {ws : va_W} : ∀ {st S : List Value}, jr_S b sa ws st S → (S.map fun v => v.category).sum = (st.map jm_w).sum
  | [], [], _ => rfl
  | _ :: _, _ :: _, ⟨h1, h2⟩ => by simp [jr_w h1, jr_S_w h2]
  | [], _ :: _, h => h.elim
  | _ :: _, [], h => h.elim
theorem jr_S_len {b : Nat} {sa : Nat → Nat} {ws : va_W} : ∀ {st S : List Value}, jr_S b sa ws st S → S.length = st.length
  | [], [], _ => rfl
  | _ :: _, _ :: _, ⟨h1, h2⟩ => by simp [jr_S_len h2]
  | [], _ :: _, h => h.elim
  | _ :: _, [], h => h.elim
theorem jm_ldI_inv {L : jm_L} {i : Nat} {v : Value} (h : jm_ldI L i = some v) : ∃ x : Int32, v = .int x ∧ L[i]? = some (some (.int x)) := by
  unfold jm_ldI at h
  split at h
  next x e => cases h; exact ⟨x, rfl, e⟩
  next => cases h
theorem jm_ldL_inv {L : jm_L} {i : Nat} {v : Value} (h : jm_ldL L i = some v) : ∃ x : Int64, v = .long x ∧ L[i]? = some (some (.long x)) := by
  unfold jm_ldL at h
  split at h
  next x e => cases h; exact ⟨x, rfl, e⟩
  next => cases h
theorem jm_ldA_inv {L : jm_L} {i : Nat} {v : Value} (h : jm_ldA L i = some v) : jm_isA v = true ∧ L[i]? = some (some v) := by
  unfold jm_ldA at h
  split at h
  next u e =>
    split at h
    next g => cases h; exact ⟨g, e⟩
    next => cases h
  next => cases h
theorem jm_in_of {i : Int32} {n : Nat} (h : jm_in i n = true) : vp_in i n := by
  unfold jm_in at h
  simp at h
  rintro (q | q)
  · exact absurd q (by simpa using h.1)
  · omega
/-- the words that a callee may take from its caller -/
def jr_T : List Cond := lw_tbl.filter goodWord
theorem jr_g {w : Cond} (h : w ∈ lw_tbl) (g : goodWord w = true) : w ∈ jr_T := List.mem_filter.mpr ⟨h, g⟩
/-- an object of class E may stand where T is wanted -/
def jr_Ca (E T : String) (U : State) : Prop := ∃ c t : ClassId, U.vm.findClass E = some c ∧ U.vm.findClass T = some t ∧ U.vm.assignable c t = true
/-- what is known of the class number ci -/
def jr_cls (cl : List vw_C) (G : jm_G) : Prop := ∀ (ci : Nat) (q : vw_C), cl[ci]? = some q → (∀ w ∈ u_ws q.1 q.2.1 q.2.2, w ∈ jr_T) ∧ (∃ ty : Nat → FieldType, (∀ k, k < q.2.2 → parseFieldDescriptor (q.2.1 k).2.2.1 = some (ty k)) ∧ ∀ j, j < q.2.2 → defaultValue (ty j) = vp_V (jm_fld G ci) j) ∧ (∀ a, a < q.2.2 → ∀ b, b < q.2.2 → a ≠ b → (q.2.1 a).2.1 ≠ (q.2.1 b).2.1) ∧ Cond.instantiable q.1 q.2.2 ∈ jr_T ∧ Cond.initialized q.1 ∈ jr_T ∧ jm_nam G ci = q.1 ∧ (jm_fld G ci).length = q.2.2 ∧ ∀ v ∈ jm_fld G ci, v = .int 0 ∨ v = .long 0 ∨ v = .null
def jr_NSE : String := "java/util/NoSuchElementException"
def jr_IAE : String := "java/lang/IllegalArgumentException"
/-- what a method's start knows of the script, the texts, and the cells that may be written -/
def jr_K (tx : List String) (lits : List (List Int32)) (b L : Nat) (xs : Nat → Int32) (sa : Nat → Nat) (A : Nat → Prop) (s : State) : Prop :=
  (∀ q, s.heap.size ≤ q → A q) ∧ (va_X b L xs s s.heap ∧ b < s.heap.size ∧ ¬ A b) ∧ (∀ (own : String) (idx : Nat) (t : String) (j : Nat), Cond.stringRef own idx t ∈ lw_tbl → tx[j]? = some t → vk_R own idx t (sa j) s) ∧
  vk_S lits.length (lits.map List.length) lits sa (fun i => sa (i + 1000)) A s s.heap ∧
  (va_Z "java/lang/String" "COMPACT_STRINGS" "Z" (.int 1) A s s.heap ∧ va_Zq "jdk/internal/util/Preconditions" "SIOOBE_FORMATTER" "Ljava/util/function/BiFunction;" A s s.heap) ∧
  (vx_Zq Bundle.tN "UNASSIGNED_STACK" Bundle.steD A s s.heap ∧ vx_Zq Bundle.tN "SUPPRESSED_SENTINEL" Bundle.listD A s s.heap) ∧
  ((∀ C ∈ jr_AO, va_AO C s) ∧ va_AOA .int s ∧ va_AOA .long s) ∧ (jr_Ca jr_NSE jr_NSE s ∧ jr_Ca jr_IAE jr_IAE s ∧ va_Nc jr_IAE jr_NSE s)
def jr_I (D : va_G) (cl : List vw_C) (A : Nat → Prop) (b : Nat) (sa : Nat → Nat) (s : State) (h : jm_H) (H : Heap) (locs : List Loc) (ws : va_W) (tys : List (ClassId × FieldType)) : Prop :=
  va_K D cl tys s ∧ va_P D cl ws H ∧ va_D A ws ∧ va_S A s.heap H locs ∧ jr_H b sa ws tys h
/-- the frame that walks -/
def jr_E (p : Program) (c : Code) (cc : ByteArray) (nL : Nat) (s : State) (args : Array Value) (own nm : String) (m : MethodId) (meth : Method) (R : Room) : Prop :=
  p.tables.exec = Jvm.exec ∧ c.code = cc ∧ c.maxLocals = nL ∧ (∀ w ∈ jr_T, w.before args s = true) ∧ s.vm.findClass own = some m.cls ∧ meth.name = nm ∧ 10 ≤ R.frames ∧ 300 ≤ R.locals
section JR
variable {p : Program} {l : Launch} {e : Env} {R : Room} {s : State} {m : MethodId} {args : Array Value} {below : List Frame} {meth : Method} {c : Code} {H : Heap} {locs : List Loc} {cells slots : Nat} {Q : State → Prop}
variable {cc : ByteArray} {pc : Nat} {ls : Array Slot} {D : va_G} {cl : List vw_C} {A : Nat → Prop} {tys : List (ClassId × FieldType)} {ws : va_W}
variable {G : jm_G} {tx : List String} {tb : List jm_M} {Wd : List Cond} {own nm : String} {nL b Ln : Nat} {xs : Nat → Int32} {sa : Nat → Nat} {L : jm_L} {st S : List Value} {h : jm_H}
/-- what goes on behind an instruction -/
def jr_go (p : Program) (l : Launch) (e : Env) (R : Room) (s : State) (m : MethodId) (args : Array Value) (below : List Frame) (meth : Method) (c : Code) (D : va_G) (cl : List vw_C) (A : Nat → Prop) (nL b : Nat) (sa : Nat → Nat) (ws : va_W) (tys : List (ClassId × FieldType)) (h : jm_H) (cells slots : Nat) (Q : State → Prop) (q : jm_S) : Prop :=
  ∀ (ws' : va_W) (tys' : List (ClassId × FieldType)) (H' : Heap) (locs' : List Loc) (ls' : Array Slot) (S' : List Value) (cells' slots' : Nat), jr_le ws ws' → (∀ t ∈ tys, t ∈ tys') → jr_I D cl A b sa s q.2.2.2 H' locs' ws' tys' → jr_L b sa ws' q.2.1 ls' nL → jr_S b sa ws' q.2.2.1 S' → cells' + h.2.1 = cells + q.2.2.2.2.1 → slots' + h.2.2 = slots + q.2.2.2.2.2 → W p l e R s m args below meth c H' locs' cells' slots' Q (F0 m q.1 ls' S')
/-- .. where no cell was touched -/
theorem jr_go.k0 {q : jm_S} (k : jr_go p l e R s m args below meth c D cl A nL b sa ws tys h cells slots Q q) (hI : jr_I D cl A b sa s h H locs ws tys) (hq : q.2.2.2 = h) {ls' : Array Slot} {S' : List Value} (h1 : jr_L b sa ws q.2.1 ls' nL) (h2 : jr_S b sa ws q.2.2.1 S') : W p l e R s m args below meth c H locs cells slots Q (F0 m q.1 ls' S') :=
  k ws tys H locs ls' S' cells slots jr_le.rf (fun _ h => h) (by rw [hq]; exact hI) h1 h2 (by rw [hq]) (by rw [hq])
set_option maxHeartbeats 4000000 in
theorem jr_iconst {n : Int} {np x y z w : Nat} {v : Value} {bs : List Bool} {q : jm_S} (hE : jr_E p c cc nL s args own nm m meth R) (hK : jr_K tx G.2.1 b G.2.2.1 G.2.2.2 sa A s) (hC : jr_cls cl G) (hW : ∀ w ∈ Wd, w ∈ lw_tbl) (he : jm_okb cl tx tb Wd own nm cc nL (pc, .iconst n, np, x, y, z, w, v, bs) = true) (hst : jm_stp G (pc, .iconst n, np, x, y, z, w, v, bs) L st h = some q)
    (hI : jr_I D cl A b sa s h H locs ws tys) (hL : jr_L b sa ws L ls nL) (hS : jr_S b sa ws st S) (hroom : cells + q.2.2.2.2.1 ≤ R.cells + h.2.1 ∧ slots + q.2.2.2.2.2 ≤ R.slots + h.2.2) (k : jr_go p l e R s m args below meth c D cl A nL b sa ws tys h cells slots Q q) : W p l e R s m args below meth c H locs cells slots Q (F0 m pc ls S) := by
  obtain ⟨hx, hb, hml, hts, hown, hnm, hRf, hRl⟩ := hE
  simp only [jm_okb, Bool.and_eq_true, decide_eq_true_eq] at he
  obtain ⟨hd0, hnp, hmk, ho⟩ := he
  simp only [jm_il] at hnp
  simp only [jm_stp] at hst
  have hd : decode cc pc = .ok (.iconst n, 1) := by rw [show np - pc = 1 by omega] at hd0; exact hd0
  cases hst; subst hnp; subst ho
  exact lv_iconst hx hb hd rfl (k.k0 hI rfl hL ⟨rfl, hS⟩)
set_option maxHeartbeats 4000000 in
theorem jr_lconst {n : Fin 2} {np x y z w : Nat} {v : Value} {bs : List Bool} {q : jm_S} (hE : jr_E p c cc nL s args own nm m meth R) (hK : jr_K tx G.2.1 b G.2.2.1 G.2.2.2 sa A s) (hC : jr_cls cl G) (hW : ∀ w ∈ Wd, w ∈ lw_tbl) (he : jm_okb cl tx tb Wd own nm cc nL (pc, .lconst n, np, x, y, z, w, v, bs) = true) (hst : jm_stp G (pc, .lconst n, np, x, y, z, w, v, bs) L st h = some q)
    (hI : jr_I D cl A b sa s h H locs ws tys) (hL : jr_L b sa ws L ls nL) (hS : jr_S b sa ws st S) (hroom : cells + q.2.2.2.2.1 ≤ R.cells + h.2.1 ∧ slots + q.2.2.2.2.2 ≤ R.slots + h.2.2) (k : jr_go p l e R s m args below meth c D cl A nL b sa ws tys h cells slots Q q) : W p l e R s m args below meth c H locs cells slots Q (F0 m pc ls S) := by
  obtain ⟨hx, hb, hml, hts, hown, hnm, hRf, hRl⟩ := hE
  simp only [jm_okb, Bool.and_eq_true, decide_eq_true_eq] at he
  obtain ⟨hd0, hnp, hmk, ho⟩ := he
  simp only [jm_il] at hnp
  simp only [jm_stp] at hst
  have hd : decode cc pc = .ok (.lconst n, 1) := by rw [show np - pc = 1 by omega] at hd0; exact hd0
  cases hst; subst hnp; subst ho
  exact lv_lconst hx hb hd rfl (k.k0 hI rfl hL ⟨rfl, hS⟩)
set_option maxHeartbeats 4000000 in
theorem jr_bipush {n : Int} {np x y z w : Nat} {v : Value} {bs : List Bool} {q : jm_S} (hE : jr_E p c cc nL s args own nm m meth R) (hK : jr_K tx G.2.1 b G.2.2.1 G.2.2.2 sa A s) (hC : jr_cls cl G) (hW : ∀ w ∈ Wd, w ∈ lw_tbl) (he : jm_okb cl tx tb Wd own nm cc nL (pc, .bipush n, np, x, y, z, w, v, bs) = true) (hst : jm_stp G (pc, .bipush n, np, x, y, z, w, v, bs) L st h = some q)
    (hI : jr_I D cl A b sa s h H locs ws tys) (hL : jr_L b sa ws L ls nL) (hS : jr_S b sa ws st S) (hroom : cells + q.2.2.2.2.1 ≤ R.cells + h.2.1 ∧ slots + q.2.2.2.2.2 ≤ R.slots + h.2.2) (k : jr_go p l e R s m args below meth c D cl A nL b sa ws tys h cells slots Q q) : W p l e R s m args below meth c H locs cells slots Q (F0 m pc ls S) := by
  obtain ⟨hx, hb, hml, hts, hown, hnm, hRf, hRl⟩ := hE
  simp only [jm_okb, Bool.and_eq_true, decide_eq_true_eq] at he
  obtain ⟨hd0, hnp, hmk, ho⟩ := he
  simp only [jm_il] at hnp
  simp only [jm_stp] at hst
  have hd : decode cc pc = .ok (.bipush n, 2) := by rw [show np - pc = 2 by omega] at hd0; exact hd0
  cases hst; subst hnp; subst ho
  exact lv_bipush hx hb hd rfl (k.k0 hI rfl hL ⟨rfl, hS⟩)
set_option maxHeartbeats 4000000 in
theorem jr_sipush {n : Int} {np x y z w : Nat} {v : Value} {bs : List Bool} {q : jm_S} (hE : jr_E p c cc nL s args own nm m meth R) (hK : jr_K tx G.2.1 b G.2.2.1 G.2.2.2 sa A s) (hC : jr_cls cl G) (hW : ∀ w ∈ Wd, w ∈ lw_tbl) (he : jm_okb cl tx tb Wd own nm cc nL (pc, .sipush n, np, x, y, z, w, v, bs) = true) (hst : jm_stp G (pc, .sipush n, np, x, y, z, w, v, bs) L st h = some q)
    (hI : jr_I D cl A b sa s h H locs ws tys) (hL : jr_L b sa ws L ls nL) (hS : jr_S b sa ws st S) (hroom : cells + q.2.2.2.2.1 ≤ R.cells + h.2.1 ∧ slots + q.2.2.2.2.2 ≤ R.slots + h.2.2) (k : jr_go p l e R s m args below meth c D cl A nL b sa ws tys h cells slots Q q) : W p l e R s m args below meth c H locs cells slots Q (F0 m pc ls S) := by
  obtain ⟨hx, hb, hml, hts, hown, hnm, hRf, hRl⟩ := hE
  simp only [jm_okb, Bool.and_eq_true, decide_eq_true_eq] at he
  obtain ⟨hd0, hnp, hmk, ho⟩ := he
  simp only [jm_il] at hnp
  simp only [jm_stp] at hst
  have hd : decode cc pc = .ok (.sipush n, 3) := by rw [show np - pc = 3 by omega] at hd0; exact hd0
  cases hst; subst hnp; subst ho
  exact lv_sipush hx hb hd rfl (k.k0 hI rfl hL ⟨rfl, hS⟩)
set_option maxHeartbeats 4000000 in
theorem jr_ldc2_w {n : Nat} {np x y z w : Nat} {v : Value} {bs : List Bool} {q : jm_S} (hE : jr_E p c cc nL s args own nm m meth R) (hK : jr_K tx G.2.1 b G.2.2.1 G.2.2.2 sa A s) (hC : jr_cls cl G) (hW : ∀ w ∈ Wd, w ∈ lw_tbl) (he : jm_okb cl tx tb Wd own nm cc nL (pc, .ldc2_w n, np, x, y, z, w, v, bs) = true) (hst : jm_stp G (pc, .ldc2_w n, np, x, y, z, w, v, bs) L st h = some q)
    (hI : jr_I D cl A b sa s h H locs ws tys) (hL : jr_L b sa ws L ls nL) (hS : jr_S b sa ws st S) (hroom : cells + q.2.2.2.2.1 ≤ R.cells + h.2.1 ∧ slots + q.2.2.2.2.2 ≤ R.slots + h.2.2) (k : jr_go p l e R s m args below meth c D cl A nL b sa ws tys h cells slots Q q) : W p l e R s m args below meth c H locs cells slots Q (F0 m pc ls S) := by
  obtain ⟨hx, hb, hml, hts, hown, hnm, hRf, hRl⟩ := hE
  simp only [jm_okb, Bool.and_eq_true, decide_eq_true_eq] at he
  obtain ⟨hd0, hnp, hmk, ho⟩ := he
  simp only [jm_il] at hnp
  simp only [jm_stp] at hst
  have hd : decode cc pc = .ok (.ldc2_w n, 3) := by rw [show np - pc = 3 by omega] at hd0; exact hd0
  cases hst; subst hnp
  split at ho
  next kk =>
    have ho := of_decide_eq_true ho
    exact lv_ldc2 hx hb hown (hts _ (jr_g (hW _ (List.mem_of_getElem? ho)) rfl)) hd (k.k0 hI rfl hL ⟨rfl, hS⟩)
  next => cases ho
set_option maxHeartbeats 4000000 in
theorem jr_iload {n : Nat} {np x y z w : Nat} {v : Value} {bs : List Bool} {q : jm_S} (hE : jr_E p c cc nL s args own nm m meth R) (hK : jr_K tx G.2.1 b G.2.2.1 G.2.2.2 sa A s) (hC : jr_cls cl G) (hW : ∀ w ∈ Wd, w ∈ lw_tbl) (he : jm_okb cl tx tb Wd own nm cc nL (pc, .iload n, np, x, y, z, w, v, bs) = true) (hst : jm_stp G (pc, .iload n, np, x, y, z, w, v, bs) L st h = some q)
    (hI : jr_I D cl A b sa s h H locs ws tys) (hL : jr_L b sa ws L ls nL) (hS : jr_S b sa ws st S) (hroom : cells + q.2.2.2.2.1 ≤ R.cells + h.2.1 ∧ slots + q.2.2.2.2.2 ≤ R.slots + h.2.2) (k : jr_go p l e R s m args below meth c D cl A nL b sa ws tys h cells slots Q q) : W p l e R s m args below meth c H locs cells slots Q (F0 m pc ls S) := by
  obtain ⟨hx, hb, hml, hts, hown, hnm, hRf, hRl⟩ := hE
  simp only [jm_okb, Bool.and_eq_true, decide_eq_true_eq] at he
  obtain ⟨hd0, hnp, hmk, ho⟩ := he
  simp only [jm_il] at hnp
  simp only [jm_stp] at hst
  have hd : decode cc pc = .ok (.iload n, 2) := by rw [show np - pc = 2 by omega] at hd0; exact hd0
  obtain ⟨u, h1, rfl⟩ := Option.map_eq_some_iff.mp hst
  obtain ⟨u', rfl, h2⟩ := jm_ldI_inv h1
  obtain ⟨V, h3, h4⟩ := hL.load h2
  cases (show V = _ from h3)
  subst hnp
  exact lv_iload hx hb hd h4 (k.k0 hI rfl hL ⟨rfl, hS⟩)
set_option maxHeartbeats 4000000 in
theorem jr_iload_n {n : Fin 4} {np x y z w : Nat} {v : Value} {bs : List Bool} {q : jm_S} (hE : jr_E p c cc nL s args own nm m meth R) (hK : jr_K tx G.2.1 b G.2.2.1 G.2.2.2 sa A s) (hC : jr_cls cl G) (hW : ∀ w ∈ Wd, w ∈ lw_tbl) (he : jm_okb cl tx tb Wd own nm cc nL (pc, .iload_n n, np, x, y, z, w, v, bs) = true) (hst : jm_stp G (pc, .iload_n n, np, x, y, z, w, v, bs) L st h = some q)
    (hI : jr_I D cl A b sa s h H locs ws tys) (hL : jr_L b sa ws L ls nL) (hS : jr_S b sa ws st S) (hroom : cells + q.2.2.2.2.1 ≤ R.cells + h.2.1 ∧ slots + q.2.2.2.2.2 ≤ R.slots + h.2.2) (k : jr_go p l e R s m args below meth c D cl A nL b sa ws tys h cells slots Q q) : W p l e R s m args below meth c H locs cells slots Q (F0 m pc ls S) := by
  obtain ⟨hx, hb, hml, hts, hown, hnm, hRf, hRl⟩ := hE
  simp only [jm_okb, Bool.and_eq_true, decide_eq_true_eq] at he
  obtain ⟨hd0, hnp, hmk, ho⟩ := he
  simp only [jm_il] at hnp
  simp only [jm_stp] at hst
  have hd : decode cc pc = .ok (.iload_n n, 1) := by rw [show np - pc = 1 by omega] at hd0; exact hd0
  obtain ⟨u, h1, rfl⟩ := Option.map_eq_some_iff.mp hst
  obtain ⟨u', rfl, h2⟩ := jm_ldI_inv h1
  obtain ⟨V, h3, h4⟩ := hL.load h2
  cases (show V = _ from h3)
  subst hnp
  exact lv_iload_n hx hb hd rfl h4 (k.k0 hI rfl hL ⟨rfl, hS⟩)
set_option maxHeartbeats 4000000 in
theorem jr_lload {n : Nat} {np x y z w : Nat} {v : Value} {bs : List Bool} {q : jm_S} (hE : jr_E p c cc nL s args own nm m meth R) (hK : jr_K tx G.2.1 b G.2.2.1 G.2.2.2 sa A s) (hC : jr_cls cl G) (hW : ∀ w ∈ Wd, w ∈ lw_tbl) (he : jm_okb cl tx tb Wd own nm cc nL (pc, .lload n, np, x, y, z, w, v, bs) = true) (hst : jm_stp G (pc, .lload n, np, x, y, z, w, v, bs) L st h = some q)
    (hI : jr_I D cl A b sa s h H locs ws tys) (hL : jr_L b sa ws L ls nL) (hS : jr_S b sa ws st S) (hroom : cells + q.2.2.2.2.1 ≤ R.cells + h.2.1 ∧ slots + q.2.2.2.2.2 ≤ R.slots + h.2.2) (k : jr_go p l e R s m args below meth c D cl A nL b sa ws tys h cells slots Q q) : W p l e R s m args below meth c H locs cells slots Q (F0 m pc ls S) := by
  obtain ⟨hx, hb, hml, hts, hown, hnm, hRf, hRl⟩ := hE
  simp only [jm_okb, Bool.and_eq_true, decide_eq_true_eq] at he
  obtain ⟨hd0, hnp, hmk, ho⟩ := he
  simp only [jm_il] at hnp
  simp only [jm_stp] at hst
  have hd : decode cc pc = .ok (.lload n, 2) := by rw [show np - pc = 2 by omega] at hd0; exact hd0
  obtain ⟨u, h1, rfl⟩ := Option.map_eq_some_iff.mp hst
  obtain ⟨u', rfl, h2⟩ := jm_ldL_inv h1
  obtain ⟨V, h3, h4⟩ := hL.load h2
  cases (show V = _ from h3)
  subst hnp
  exact lv_lload hx hb hd h4 (k.k0 hI rfl hL ⟨rfl, hS⟩)
set_option maxHeartbeats 4000000 in
theorem jr_lload_n {n : Fin 4} {np x y z w : Nat} {v : Value} {bs : List Bool} {q : jm_S} (hE : jr_E p c cc nL s args own nm m meth R) (hK : jr_K tx G.2.1 b G.2.2.1 G.2.2.2 sa A s) (hC : jr_cls cl G) (hW : ∀ w ∈ Wd, w ∈ lw_tbl) (he : jm_okb cl tx tb Wd own nm cc nL (pc, .lload_n n, np, x, y, z, w, v, bs) = true) (hst : jm_stp G (pc, .lload_n n, np, x, y, z, w, v, bs) L st h = some q)
    (hI : jr_I D cl A b sa s h H locs ws tys) (hL : jr_L b sa ws L ls nL) (hS : jr_S b sa ws st S) (hroom : cells + q.2.2.2.2.1 ≤ R.cells + h.2.1 ∧ slots + q.2.2.2.2.2 ≤ R.slots + h.2.2) (k : jr_go p l e R s m args below meth c D cl A nL b sa ws tys h cells slots Q q) : W p l e R s m args below meth c H locs cells slots Q (F0 m pc ls S) := by
  obtain ⟨hx, hb, hml, hts, hown, hnm, hRf, hRl⟩ := hE
  simp only [jm_okb, Bool.and_eq_true, decide_eq_true_eq] at he
  obtain ⟨hd0, hnp, hmk, ho⟩ := he
  simp only [jm_il] at hnp
  simp only [jm_stp] at hst
  have hd : decode cc pc = .ok (.lload_n n, 1) := by rw [show np - pc = 1 by omega] at hd0; exact hd0
  obtain ⟨u, h1, rfl⟩ := Option.map_eq_some_iff.mp hst
  obtain ⟨u', rfl, h2⟩ := jm_ldL_inv h1
  obtain ⟨V, h3, h4⟩ := hL.load h2
  cases (show V = _ from h3)
  subst hnp
  exact lv_lload_n hx hb hd rfl h4 (k.k0 hI rfl hL ⟨rfl, hS⟩)
set_option maxHeartbeats 4000000 in
theorem jr_aload {n : Nat} {np x y z w : Nat} {v : Value} {bs : List Bool} {q : jm_S} (hE : jr_E p c cc nL s args own nm m meth R) (hK : jr_K tx G.2.1 b G.2.2.1 G.2.2.2 sa A s) (hC : jr_cls cl G) (hW : ∀ w ∈ Wd, w ∈ lw_tbl) (he : jm_okb cl tx tb Wd own nm cc nL (pc, .aload n, np, x, y, z, w, v, bs) = true) (hst : jm_stp G (pc, .aload n, np, x, y, z, w, v, bs) L st h = some q)
    (hI : jr_I D cl A b sa s h H locs ws tys) (hL : jr_L b sa ws L ls nL) (hS : jr_S b sa ws st S) (hroom : cells + q.2.2.2.2.1 ≤ R.cells + h.2.1 ∧ slots + q.2.2.2.2.2 ≤ R.slots + h.2.2) (k : jr_go p l e R s m args below meth c D cl A nL b sa ws tys h cells slots Q q) : W p l e R s m args below meth c H locs cells slots Q (F0 m pc ls S) := by
  obtain ⟨hx, hb, hml, hts, hown, hnm, hRf, hRl⟩ := hE
  simp only [jm_okb, Bool.and_eq_true, decide_eq_true_eq] at he
  obtain ⟨hd0, hnp, hmk, ho⟩ := he
  simp only [jm_il] at hnp
  simp only [jm_stp] at hst
  have hd : decode cc pc = .ok (.aload n, 2) := by rw [show np - pc = 2 by omega] at hd0; exact hd0
  obtain ⟨u, h1, rfl⟩ := Option.map_eq_some_iff.mp hst
  obtain ⟨h0, h2⟩ := jm_ldA_inv h1
  obtain ⟨V, h3, h4⟩ := hL.load h2
  subst hnp
  rcases jr_ref h3 h0 with rfl | ⟨a, rfl⟩
  · exact lv_aloadN hx hb hd h4 (k.k0 hI rfl hL ⟨h3, hS⟩)
  · exact lv_aload hx hb hd h4 (k.k0 hI rfl hL ⟨h3, hS⟩)
set_option maxHeartbeats 4000000 in
theorem jr_aload_n {n : Fin 4} {np x y z w : Nat} {v : Value} {bs : List Bool} {q : jm_S} (hE : jr_E p c cc nL s args own nm m meth R) (hK : jr_K tx G.2.1 b G.2.2.1 G.2.2.2 sa A s) (hC : jr_cls cl G) (hW : ∀ w ∈ Wd, w ∈ lw_tbl) (he : jm_okb cl tx tb Wd own nm cc nL (pc, .aload_n n, np, x, y, z, w, v, bs) = true) (hst : jm_stp G (pc, .aload_n n, np, x, y, z, w, v, bs) L st h = some q)
    (hI : jr_I D cl A b sa s h H locs ws tys) (hL : jr_L b sa ws L ls nL) (hS : jr_S b sa ws st S) (hroom : cells + q.2.2.2.2.1 ≤ R.cells + h.2.1 ∧ slots + q.2.2.2.2.2 ≤ R.slots + h.2.2) (k : jr_go p l e R s m args below meth c D cl A nL b sa ws tys h cells slots Q q) : W p l e R s m args below meth c H locs cells slots Q (F0 m pc ls S) := by
  obtain ⟨hx, hb, hml, hts, hown, hnm, hRf, hRl⟩ := hE
  simp only [jm_okb, Bool.and_eq_true, decide_eq_true_eq] at he
  obtain ⟨hd0, hnp, hmk, ho⟩ := he
  simp only [jm_il] at hnp
  simp only [jm_stp] at hst
  have hd : decode cc pc = .ok (.aload_n n, 1) := by rw [show np - pc = 1 by omega] at hd0; exact hd0
  obtain ⟨u, h1, rfl⟩ := Option.map_eq_some_iff.mp hst
  obtain ⟨h0, h2⟩ := jm_ldA_inv h1
  obtain ⟨V, h3, h4⟩ := hL.load h2
  subst hnp
  rcases jr_ref h3 h0 with rfl | ⟨a, rfl⟩
  · exact lv_aload_nN hx hb hd rfl h4 (k.k0 hI rfl hL ⟨h3, hS⟩)
  · exact lv_aload_n hx hb hd rfl h4 (k.k0 hI rfl hL ⟨h3, hS⟩)
set_option maxHeartbeats 4000000 in
theorem jr_istore {n : Nat} {np x y z w : Nat} {v : Value} {bs : List Bool} {q : jm_S} (hE : jr_E p c cc nL s args own nm m meth R) (hK : jr_K tx G.2.1 b G.2.2.1 G.2.2.2 sa A s) (hC : jr_cls cl G) (hW : ∀ w ∈ Wd, w ∈ lw_tbl) (he : jm_okb cl tx tb Wd own nm cc nL (pc, .istore n, np, x, y, z, w, v, bs) = true) (hst : jm_stp G (pc, .istore n, np, x, y, z, w, v, bs) L st h = some q)
    (hI : jr_I D cl A b sa s h H locs ws tys) (hL : jr_L b sa ws L ls nL) (hS : jr_S b sa ws st S) (hroom : cells + q.2.2.2.2.1 ≤ R.cells + h.2.1 ∧ slots + q.2.2.2.2.2 ≤ R.slots + h.2.2) (k : jr_go p l e R s m args below meth c D cl A nL b sa ws tys h cells slots Q q) : W p l e R s m args below meth c H locs cells slots Q (F0 m pc ls S) := by
  obtain ⟨hx, hb, hml, hts, hown, hnm, hRf, hRl⟩ := hE
  simp only [jm_okb, Bool.and_eq_true, decide_eq_true_eq] at he
  obtain ⟨hd0, hnp, hmk, ho⟩ := he
  simp only [jm_il] at hnp
  simp only [jm_stp] at hst
  have hd : decode cc pc = .ok (.istore n, 2) := by rw [show np - pc = 2 by omega] at hd0; exact hd0
  unfold jm_stI at hst
  split at hst
  case h_2 => cases hst
  case h_1 x0 r =>
    obtain ⟨L', h1, rfl⟩ := Option.map_eq_some_iff.mp hst
    obtain ⟨R0, rfl, hS0⟩ := jr_S_i hS
    have hi : n < nL := by
      unfold jm_st1 at h1
      split at h1
      next g => rw [hL.1] at g; exact g
      next => cases h1
    subst hnp
    exact lv_istore hx hb hd (jr_lv_has hL.2.1 hL.2.2.1) hi rfl (fun ls' hl' => k.k0 hI rfl (jr_st1 hL h1 rfl hl') hS0)
set_option maxHeartbeats 4000000 in
theorem jr_lstore {n : Nat} {np x y z w : Nat} {v : Value} {bs : List Bool} {q : jm_S} (hE : jr_E p c cc nL s args own nm m meth R) (hK : jr_K tx G.2.1 b G.2.2.1 G.2.2.2 sa A s) (hC : jr_cls cl G) (hW : ∀ w ∈ Wd, w ∈ lw_tbl) (he : jm_okb cl tx tb Wd own nm cc nL (pc, .lstore n, np, x, y, z, w, v, bs) = true) (hst : jm_stp G (pc, .lstore n, np, x, y, z, w, v, bs) L st h = some q)
    (hI : jr_I D cl A b sa s h H locs ws tys) (hL : jr_L b sa ws L ls nL) (hS : jr_S b sa ws st S) (hroom : cells + q.2.2.2.2.1 ≤ R.cells + h.2.1 ∧ slots + q.2.2.2.2.2 ≤ R.slots + h.2.2) (k : jr_go p l e R s m args below meth c D cl A nL b sa ws tys h cells slots Q q) : W p l e R s m args below meth c H locs cells slots Q (F0 m pc ls S) := by
  obtain ⟨hx, hb, hml, hts, hown, hnm, hRf, hRl⟩ := hE
  simp only [jm_okb, Bool.and_eq_true, decide_eq_true_eq] at he
  obtain ⟨hd0, hnp, hmk, ho⟩ := he
  simp only [jm_il] at hnp
  simp only [jm_stp] at hst
  have hd : decode cc pc = .ok (.lstore n, 2) := by rw [show np - pc = 2 by omega] at hd0; exact hd0
  unfold jm_stL at hst
  split at hst
  case h_2 => cases hst
  case h_1 x0 r =>
    obtain ⟨L', h1, rfl⟩ := Option.map_eq_some_iff.mp hst
    obtain ⟨R0, rfl, hS0⟩ := jr_S_l hS
    have hi : n + 1 < nL := by
      unfold jm_st2 at h1
      split at h1
      next g => rw [hL.1] at g; exact g
      next => cases h1
    subst hnp
    exact lv_lstore hx hb hd (jr_lv_has hL.2.1 hL.2.2.1) hi rfl (fun ls' hl' => k.k0 hI rfl (jr_st2 hL h1 rfl hl') hS0)
set_option maxHeartbeats 4000000 in
theorem jr_astore {n : Nat} {np x y z w : Nat} {v : Value} {bs : List Bool} {q : jm_S} (hE : jr_E p c cc nL s args own nm m meth R) (hK : jr_K tx G.2.1 b G.2.2.1 G.2.2.2 sa A s) (hC : jr_cls cl G) (hW : ∀ w ∈ Wd, w ∈ lw_tbl) (he : jm_okb cl tx tb Wd own nm cc nL (pc, .astore n, np, x, y, z, w, v, bs) = true) (hst : jm_stp G (pc, .astore n, np, x, y, z, w, v, bs) L st h = some q)
    (hI : jr_I D cl A b sa s h H locs ws tys) (hL : jr_L b sa ws L ls nL) (hS : jr_S b sa ws st S) (hroom : cells + q.2.2.2.2.1 ≤ R.cells + h.2.1 ∧ slots + q.2.2.2.2.2 ≤ R.slots + h.2.2) (k : jr_go p l e R s m args below meth c D cl A nL b sa ws tys h cells slots Q q) : W p l e R s m args below meth c H locs cells slots Q (F0 m pc ls S) := by
  obtain ⟨hx, hb, hml, hts, hown, hnm, hRf, hRl⟩ := hE
  simp only [jm_okb, Bool.and_eq_true, decide_eq_true_eq] at he
  obtain ⟨hd0, hnp, hmk, ho⟩ := he
  simp only [jm_il] at hnp
  simp only [jm_stp] at hst
  have hd : decode cc pc = .ok (.astore n, 2) := by rw [show np - pc = 2 by omega] at hd0; exact hd0
  unfold jm_stA at hst
  split at hst
  case h_2 => cases hst
  case h_1 v0 r =>
    split at hst
    case isFalse => cases hst
    case isTrue g0 =>
    obtain ⟨L', h1, rfl⟩ := Option.map_eq_some_iff.mp hst
    obtain ⟨V, R0, rfl, hV, hS0⟩ := jr_S_c hS
    have hi : n < nL := by
      unfold jm_st1 at h1
      split at h1
      next g => rw [hL.1] at g; exact g
      next => cases h1
    subst hnp
    rcases jr_ref hV g0 with rfl | ⟨a, rfl⟩
    · exact lv_astoreN hx hb hd (jr_lv_has hL.2.1 hL.2.2.1) hi rfl (fun ls' hl' => k.k0 hI rfl (jr_st1 hL h1 hV hl') hS0)
    · exact lv_astore hx hb hd (jr_lv_has hL.2.1 hL.2.2.1) hi rfl (fun ls' hl' => k.k0 hI rfl (jr_st1 hL h1 hV hl') hS0)
set_option maxHeartbeats 4000000 in
theorem jr_istore_n {n : Fin 4} {np x y z w : Nat} {v : Value} {bs : List Bool} {q : jm_S} (hE : jr_E p c cc nL s args own nm m meth R) (hK : jr_K tx G.2.1 b G.2.2.1 G.2.2.2 sa A s) (hC : jr_cls cl G) (hW : ∀ w ∈ Wd, w ∈ lw_tbl) (he : jm_okb cl tx tb Wd own nm cc nL (pc, .istore_n n, np, x, y, z, w, v, bs) = true) (hst : jm_stp G (pc, .istore_n n, np, x, y, z, w, v, bs) L st h = some q)
    (hI : jr_I D cl A b sa s h H locs ws tys) (hL : jr_L b sa ws L ls nL) (hS : jr_S b sa ws st S) (hroom : cells + q.2.2.2.2.1 ≤ R.cells + h.2.1 ∧ slots + q.2.2.2.2.2 ≤ R.slots + h.2.2) (k : jr_go p l e R s m args below meth c D cl A nL b sa ws tys h cells slots Q q) : W p l e R s m args below meth c H locs cells slots Q (F0 m pc ls S) := by
  obtain ⟨hx, hb, hml, hts, hown, hnm, hRf, hRl⟩ := hE
  simp only [jm_okb, Bool.and_eq_true, decide_eq_true_eq] at he
  obtain ⟨hd0, hnp, hmk, ho⟩ := he
  simp only [jm_il] at hnp
  simp only [jm_stp] at hst
  have hd : decode cc pc = .ok (.istore_n n, 1) := by rw [show np - pc = 1 by omega] at hd0; exact hd0
  unfold jm_stI at hst
  split at hst
  case h_2 => cases hst
  case h_1 x0 r =>
    obtain ⟨L', h1, rfl⟩ := Option.map_eq_some_iff.mp hst
    obtain ⟨R0, rfl, hS0⟩ := jr_S_i hS
    have hi : n.val < nL := by
      unfold jm_st1 at h1
      split at h1
      next g => rw [hL.1] at g; exact g
      next => cases h1
    subst hnp
    exact lv_istore_n hx hb hd rfl (jr_lv_has hL.2.1 hL.2.2.1) hi rfl (fun ls' hl' => k.k0 hI rfl (jr_st1 hL h1 rfl hl') hS0)
set_option maxHeartbeats 4000000 in
theorem jr_lstore_n {n : Fin 4} {np x y z w : Nat} {v : Value} {bs : List Bool} {q : jm_S} (hE : jr_E p c cc nL s args own nm m meth R) (hK : jr_K tx G.2.1 b G.2.2.1 G.2.2.2 sa A s) (hC : jr_cls cl G) (hW : ∀ w ∈ Wd, w ∈ lw_tbl) (he : jm_okb cl tx tb Wd own nm cc nL (pc, .lstore_n n, np, x, y, z, w, v, bs) = true) (hst : jm_stp G (pc, .lstore_n n, np, x, y, z, w, v, bs) L st h = some q)
    (hI : jr_I D cl A b sa s h H locs ws tys) (hL : jr_L b sa ws L ls nL) (hS : jr_S b sa ws st S) (hroom : cells + q.2.2.2.2.1 ≤ R.cells + h.2.1 ∧ slots + q.2.2.2.2.2 ≤ R.slots + h.2.2) (k : jr_go p l e R s m args below meth c D cl A nL b sa ws tys h cells slots Q q) : W p l e R s m args below meth c H locs cells slots Q (F0 m pc ls S) := by
  obtain ⟨hx, hb, hml, hts, hown, hnm, hRf, hRl⟩ := hE
  simp only [jm_okb, Bool.and_eq_true, decide_eq_true_eq] at he
  obtain ⟨hd0, hnp, hmk, ho⟩ := he
  simp only [jm_il] at hnp
  simp only [jm_stp] at hst
  have hd : decode cc pc = .ok (.lstore_n n, 1) := by rw [show np - pc = 1 by omega] at hd0; exact hd0
  unfold jm_stL at hst
  split at hst
  case h_2 => cases hst
  case h_1 x0 r =>
    obtain ⟨L', h1, rfl⟩ := Option.map_eq_some_iff.mp hst
    obtain ⟨R0, rfl, hS0⟩ := jr_S_l hS
    have hi : n.val + 1 < nL := by
      unfold jm_st2 at h1
      split at h1
      next g => rw [hL.1] at g; exact g
      next => cases h1
    subst hnp
    exact lv_lstore_n hx hb hd rfl (jr_lv_has hL.2.1 hL.2.2.1) hi rfl (fun ls' hl' => k.k0 hI rfl (jr_st2 hL h1 rfl hl') hS0)
set_option maxHeartbeats 4000000 in
theorem jr_astore_n {n : Fin 4} {np x y z w : Nat} {v : Value} {bs : List Bool} {q : jm_S} (hE : jr_E p c cc nL s args own nm m meth R) (hK : jr_K tx G.2.1 b G.2.2.1 G.2.2.2 sa A s) (hC : jr_cls cl G) (hW : ∀ w ∈ Wd, w ∈ lw_tbl) (he : jm_okb cl tx tb Wd own nm cc nL (pc, .astore_n n, np, x, y, z, w, v, bs) = true) (hst : jm_stp G (pc, .astore_n n, np, x, y, z, w, v, bs) L st h = some q)
    (hI : jr_I D cl A b sa s h H locs ws tys) (hL : jr_L b sa ws L ls nL) (hS : jr_S b sa ws st S) (hroom : cells + q.2.2.2.2.1 ≤ R.cells + h.2.1 ∧ slots + q.2.2.2.2.2 ≤ R.slots + h.2.2) (k : jr_go p l e R s m args below meth c D cl A nL b sa ws tys h cells slots Q q) : W p l e R s m args below meth c H locs cells slots Q (F0 m pc ls S) := by
  obtain ⟨hx, hb, hml, hts, hown, hnm, hRf, hRl⟩ := hE
  simp only [jm_okb, Bool.and_eq_true, decide_eq_true_eq] at he
  obtain ⟨hd0, hnp, hmk, ho⟩ := he
  simp only [jm_il] at hnp
  simp only [jm_stp] at hst
  have hd : decode cc pc = .ok (.astore_n n, 1) := by rw [show np - pc = 1 by omega] at hd0; exact hd0
  unfold jm_stA at hst
  split at hst
  case h_2 => cases hst
  case h_1 v0 r =>
    split at hst
    case isFalse => cases hst
    case isTrue g0 =>
    obtain ⟨L', h1, rfl⟩ := Option.map_eq_some_iff.mp hst
    obtain ⟨V, R0, rfl, hV, hS0⟩ := jr_S_c hS
    have hi : n.val < nL := by
      unfold jm_st1 at h1
      split at h1
      next g => rw [hL.1] at g; exact g
      next => cases h1
    subst hnp
    rcases jr_ref hV g0 with rfl | ⟨a, rfl⟩
    · exact lv_astore_nN hx hb hd rfl (jr_lv_has hL.2.1 hL.2.2.1) hi rfl (fun ls' hl' => k.k0 hI rfl (jr_st1 hL h1 hV hl') hS0)
    · exact lv_astore_n hx hb hd rfl (jr_lv_has hL.2.1 hL.2.2.1) hi rfl (fun ls' hl' => k.k0 hI rfl (jr_st1 hL h1 hV hl') hS0)
set_option maxHeartbeats 4000000 in
theorem jr_iinc {n : Nat} {i0 : Int} {np x y z w : Nat} {v : Value} {bs : List Bool} {q : jm_S} (hE : jr_E p c cc nL s args own nm m meth R) (hK : jr_K tx G.2.1 b G.2.2.1 G.2.2.2 sa A s) (hC : jr_cls cl G) (hW : ∀ w ∈ Wd, w ∈ lw_tbl) (he : jm_okb cl tx tb Wd own nm cc nL (pc, .iinc n i0, np, x, y, z, w, v, bs) = true) (hst : jm_stp G (pc, .iinc n i0, np, x, y, z, w, v, bs) L st h = some q)
    (hI : jr_I D cl A b sa s h H locs ws tys) (hL : jr_L b sa ws L ls nL) (hS : jr_S b sa ws st S) (hroom : cells + q.2.2.2.2.1 ≤ R.cells + h.2.1 ∧ slots + q.2.2.2.2.2 ≤ R.slots + h.2.2) (k : jr_go p l e R s m args below meth c D cl A nL b sa ws tys h cells slots Q q) : W p l e R s m args below meth c H locs cells slots Q (F0 m pc ls S) := by
  obtain ⟨hx, hb, hml, hts, hown, hnm, hRf, hRl⟩ := hE
  simp only [jm_okb, Bool.and_eq_true, decide_eq_true_eq] at he
  obtain ⟨hd0, hnp, hmk, ho⟩ := he
  simp only [jm_il] at hnp
  simp only [jm_stp] at hst
  have hd : decode cc pc = .ok (.iinc n i0, 3) := by rw [show np - pc = 3 by omega] at hd0; exact hd0
  split at hst
  case h_2 => cases hst
  case h_1 x0 h0 =>
    obtain ⟨L', h1, rfl⟩ := Option.map_eq_some_iff.mp hst
    obtain ⟨u', h2, h3⟩ := jm_ldI_inv h0
    cases h2
    obtain ⟨V, h4, h5⟩ := hL.load h3
    cases (show V = _ from h4)
    have hi : n < nL := by
      unfold jm_st1 at h1
      split at h1
      next g => rw [hL.1] at g; exact g
      next => cases h1
    obtain ⟨kk, hkk⟩ := List.getElem?_of_mem ((jr_lv_mem (b := 0) nL n _).mpr ⟨hi, h5⟩)
    subst hnp
    exact lv_iinc hx hb hd (jr_lv_has hL.2.1 hL.2.2.1) hkk rfl hi rfl (fun ls' hl' => k.k0 hI rfl (jr_st1 hL h1 rfl hl') hS)
set_option maxHeartbeats 4000000 in
theorem jr_iadd {np x y z w : Nat} {v : Value} {bs : List Bool} {q : jm_S} (hE : jr_E p c cc nL s args own nm m meth R) (hK : jr_K tx G.2.1 b G.2.2.1 G.2.2.2 sa A s) (hC : jr_cls cl G) (hW : ∀ w ∈ Wd, w ∈ lw_tbl) (he : jm_okb cl tx tb Wd own nm cc nL (pc, .iadd, np, x, y, z, w, v, bs) = true) (hst : jm_stp G (pc, .iadd, np, x, y, z, w, v, bs) L st h = some q)
    (hI : jr_I D cl A b sa s h H locs ws tys) (hL : jr_L b sa ws L ls nL) (hS : jr_S b sa ws st S) (hroom : cells + q.2.2.2.2.1 ≤ R.cells + h.2.1 ∧ slots + q.2.2.2.2.2 ≤ R.slots + h.2.2) (k : jr_go p l e R s m args below meth c D cl A nL b sa ws tys h cells slots Q q) : W p l e R s m args below meth c H locs cells slots Q (F0 m pc ls S) := by
  obtain ⟨hx, hb, hml, hts, hown, hnm, hRf, hRl⟩ := hE
  simp only [jm_okb, Bool.and_eq_true, decide_eq_true_eq] at he
  obtain ⟨hd0, hnp, hmk, ho⟩ := he
  simp only [jm_il] at hnp
  simp only [jm_stp] at hst
  have hd : decode cc pc = .ok (.iadd, 1) := by rw [show np - pc = 1 by omega] at hd0; exact hd0
  obtain ⟨u, h1, rfl⟩ := Option.map_eq_some_iff.mp hst
  obtain ⟨a0, b0, r0, rfl, rfl⟩ := jm_i2_inv h1
  obtain ⟨R0, rfl, hS0⟩ := jr_S_i hS
  obtain ⟨R1, rfl, hS1⟩ := jr_S_i hS0
  subst hnp
  exact lv_iadd hx hb hd (k.k0 hI rfl hL ⟨rfl, hS1⟩)
set_option maxHeartbeats 4000000 in
theorem jr_isub {np x y z w : Nat} {v : Value} {bs : List Bool} {q : jm_S} (hE : jr_E p c cc nL s args own nm m meth R) (hK : jr_K tx G.2.1 b G.2.2.1 G.2.2.2 sa A s) (hC : jr_cls cl G) (hW : ∀ w ∈ Wd, w ∈ lw_tbl) (he : jm_okb cl tx tb Wd own nm cc nL (pc, .isub, np, x, y, z, w, v, bs) = true) (hst : jm_stp G (pc, .isub, np, x, y, z, w, v, bs) L st h = some q)
    (hI : jr_I D cl A b sa s h H locs ws tys) (hL : jr_L b sa ws L ls nL) (hS : jr_S b sa ws st S) (hroom : cells + q.2.2.2.2.1 ≤ R.cells + h.2.1 ∧ slots + q.2.2.2.2.2 ≤ R.slots + h.2.2) (k : jr_go p l e R s m args below meth c D cl A nL b sa ws tys h cells slots Q q) : W p l e R s m args below meth c H locs cells slots Q (F0 m pc ls S) := by
  obtain ⟨hx, hb, hml, hts, hown, hnm, hRf, hRl⟩ := hE
  simp only [jm_okb, Bool.and_eq_true, decide_eq_true_eq] at he
  obtain ⟨hd0, hnp, hmk, ho⟩ := he
  simp only [jm_il] at hnp
  simp only [jm_stp] at hst
  have hd : decode cc pc = .ok (.isub, 1) := by rw [show np - pc = 1 by omega] at hd0; exact hd0
  obtain ⟨u, h1, rfl⟩ := Option.map_eq_some_iff.mp hst
  obtain ⟨a0, b0, r0, rfl, rfl⟩ := jm_i2_inv h1
  obtain ⟨R0, rfl, hS0⟩ := jr_S_i hS
  obtain ⟨R1, rfl, hS1⟩ := jr_S_i hS0
  subst hnp
  exact lv_isub hx hb hd (k.k0 hI rfl hL ⟨rfl, hS1⟩)
set_option maxHeartbeats 4000000 in
theorem jr_imul {np x y z w : Nat} {v : Value} {bs : List Bool} {q : jm_S} (hE : jr_E p c cc nL s args own nm m meth R) (hK : jr_K tx G.2.1 b G.2.2.1 G.2.2.2 sa A s) (hC : jr_cls cl G) (hW : ∀ w ∈ Wd, w ∈ lw_tbl) (he : jm_okb cl tx tb Wd own nm cc nL (pc, .imul, np, x, y, z, w, v, bs) = true) (hst : jm_stp G (pc, .imul, np, x, y, z, w, v, bs) L st h = some q)
    (hI : jr_I D cl A b sa s h H locs ws tys) (hL : jr_L b sa ws L ls nL) (hS : jr_S b sa ws st S) (hroom : cells + q.2.2.2.2.1 ≤ R.cells + h.2.1 ∧ slots + q.2.2.2.2.2 ≤ R.slots + h.2.2) (k : jr_go p l e R s m args below meth c D cl A nL b sa ws tys h cells slots Q q) : W p l e R s m args below meth c H locs cells slots Q (F0 m pc ls S) := by
  obtain ⟨hx, hb, hml, hts, hown, hnm, hRf, hRl⟩ := hE
  simp only [jm_okb, Bool.and_eq_true, decide_eq_true_eq] at he
  obtain ⟨hd0, hnp, hmk, ho⟩ := he
  simp only [jm_il] at hnp
  simp only [jm_stp] at hst
  have hd : decode cc pc = .ok (.imul, 1) := by rw [show np - pc = 1 by omega] at hd0; exact hd0
  obtain ⟨u, h1, rfl⟩ := Option.map_eq_some_iff.mp hst
  obtain ⟨a0, b0, r0, rfl, rfl⟩ := jm_i2_inv h1
  obtain ⟨R0, rfl, hS0⟩ := jr_S_i hS
  obtain ⟨R1, rfl, hS1⟩ := jr_S_i hS0
  subst hnp
  exact lv_imul hx hb hd (k.k0 hI rfl hL ⟨rfl, hS1⟩)
set_option maxHeartbeats 4000000 in
theorem jr_iand {np x y z w : Nat} {v : Value} {bs : List Bool} {q : jm_S} (hE : jr_E p c cc nL s args own nm m meth R) (hK : jr_K tx G.2.1 b G.2.2.1 G.2.2.2 sa A s) (hC : jr_cls cl G) (hW : ∀ w ∈ Wd, w ∈ lw_tbl) (he : jm_okb cl tx tb Wd own nm cc nL (pc, .iand, np, x, y, z, w, v, bs) = true) (hst : jm_stp G (pc, .iand, np, x, y, z, w, v, bs) L st h = some q)
    (hI : jr_I D cl A b sa s h H locs ws tys) (hL : jr_L b sa ws L ls nL) (hS : jr_S b sa ws st S) (hroom : cells + q.2.2.2.2.1 ≤ R.cells + h.2.1 ∧ slots + q.2.2.2.2.2 ≤ R.slots + h.2.2) (k : jr_go p l e R s m args below meth c D cl A nL b sa ws tys h cells slots Q q) : W p l e R s m args below meth c H locs cells slots Q (F0 m pc ls S) := by
  obtain ⟨hx, hb, hml, hts, hown, hnm, hRf, hRl⟩ := hE
  simp only [jm_okb, Bool.and_eq_true, decide_eq_true_eq] at he
  obtain ⟨hd0, hnp, hmk, ho⟩ := he
  simp only [jm_il] at hnp
  simp only [jm_stp] at hst
  have hd : decode cc pc = .ok (.iand, 1) := by rw [show np - pc = 1 by omega] at hd0; exact hd0
  obtain ⟨u, h1, rfl⟩ := Option.map_eq_some_iff.mp hst
  obtain ⟨a0, b0, r0, rfl, rfl⟩ := jm_i2_inv h1
  obtain ⟨R0, rfl, hS0⟩ := jr_S_i hS
  obtain ⟨R1, rfl, hS1⟩ := jr_S_i hS0
  subst hnp
  exact lv_iand hx hb hd (k.k0 hI rfl hL ⟨rfl, hS1⟩)
set_option maxHeartbeats 4000000 in
theorem jr_ior {np x y z w : Nat} {v : Value} {bs : List Bool} {q : jm_S} (hE : jr_E p c cc nL s args own nm m meth R) (hK : jr_K tx G.2.1 b G.2.2.1 G.2.2.2 sa A s) (hC : jr_cls cl G) (hW : ∀ w ∈ Wd, w ∈ lw_tbl) (he : jm_okb cl tx tb Wd own nm cc nL (pc, .ior, np, x, y, z, w, v, bs) = true) (hst : jm_stp G (pc, .ior, np, x, y, z, w, v, bs) L st h = some q)
    (hI : jr_I D cl A b sa s h H locs ws tys) (hL : jr_L b sa ws L ls nL) (hS : jr_S b sa ws st S) (hroom : cells + q.2.2.2.2.1 ≤ R.cells + h.2.1 ∧ slots + q.2.2.2.2.2 ≤ R.slots + h.2.2) (k : jr_go p l e R s m args below meth c D cl A nL b sa ws tys h cells slots Q q) : W p l e R s m args below meth c H locs cells slots Q (F0 m pc ls S) := by
  obtain ⟨hx, hb, hml, hts, hown, hnm, hRf, hRl⟩ := hE
  simp only [jm_okb, Bool.and_eq_true, decide_eq_true_eq] at he
  obtain ⟨hd0, hnp, hmk, ho⟩ := he
  simp only [jm_il] at hnp
  simp only [jm_stp] at hst
  have hd : decode cc pc = .ok (.ior, 1) := by rw [show np - pc = 1 by omega] at hd0; exact hd0
  obtain ⟨u, h1, rfl⟩ := Option.map_eq_some_iff.mp hst
  obtain ⟨a0, b0, r0, rfl, rfl⟩ := jm_i2_inv h1
  obtain ⟨R0, rfl, hS0⟩ := jr_S_i hS
  obtain ⟨R1, rfl, hS1⟩ := jr_S_i hS0
  subst hnp
  exact lv_ior hx hb hd (k.k0 hI rfl hL ⟨rfl, hS1⟩)
set_option maxHeartbeats 4000000 in
theorem jr_ishl {np x y z w : Nat} {v : Value} {bs : List Bool} {q : jm_S} (hE : jr_E p c cc nL s args own nm m meth R) (hK : jr_K tx G.2.1 b G.2.2.1 G.2.2.2 sa A s) (hC : jr_cls cl G) (hW : ∀ w ∈ Wd, w ∈ lw_tbl) (he : jm_okb cl tx tb Wd own nm cc nL (pc, .ishl, np, x, y, z, w, v, bs) = true) (hst : jm_stp G (pc, .ishl, np, x, y, z, w, v, bs) L st h = some q)
    (hI : jr_I D cl A b sa s h H locs ws tys) (hL : jr_L b sa ws L ls nL) (hS : jr_S b sa ws st S) (hroom : cells + q.2.2.2.2.1 ≤ R.cells + h.2.1 ∧ slots + q.2.2.2.2.2 ≤ R.slots + h.2.2) (k : jr_go p l e R s m args below meth c D cl A nL b sa ws tys h cells slots Q q) : W p l e R s m args below meth c H locs cells slots Q (F0 m pc ls S) := by
  obtain ⟨hx, hb, hml, hts, hown, hnm, hRf, hRl⟩ := hE
  simp only [jm_okb, Bool.and_eq_true, decide_eq_true_eq] at he
  obtain ⟨hd0, hnp, hmk, ho⟩ := he
  simp only [jm_il] at hnp
  simp only [jm_stp] at hst
  have hd : decode cc pc = .ok (.ishl, 1) := by rw [show np - pc = 1 by omega] at hd0; exact hd0
  obtain ⟨u, h1, rfl⟩ := Option.map_eq_some_iff.mp hst
  obtain ⟨a0, b0, r0, rfl, rfl⟩ := jm_i2_inv h1
  obtain ⟨R0, rfl, hS0⟩ := jr_S_i hS
  obtain ⟨R1, rfl, hS1⟩ := jr_S_i hS0
  subst hnp
  exact lv_ishl hx hb hd (k.k0 hI rfl hL ⟨rfl, hS1⟩)
set_option maxHeartbeats 4000000 in
theorem jr_ishr {np x y z w : Nat} {v : Value} {bs : List Bool} {q : jm_S} (hE : jr_E p c cc nL s args own nm m meth R) (hK : jr_K tx G.2.1 b G.2.2.1 G.2.2.2 sa A s) (hC : jr_cls cl G) (hW : ∀ w ∈ Wd, w ∈ lw_tbl) (he : jm_okb cl tx tb Wd own nm cc nL (pc, .ishr, np, x, y, z, w, v, bs) = true) (hst : jm_stp G (pc, .ishr, np, x, y, z, w, v, bs) L st h = some q)
    (hI : jr_I D cl A b sa s h H locs ws tys) (hL : jr_L b sa ws L ls nL) (hS : jr_S b sa ws st S) (hroom : cells + q.2.2.2.2.1 ≤ R.cells + h.2.1 ∧ slots + q.2.2.2.2.2 ≤ R.slots + h.2.2) (k : jr_go p l e R s m args below meth c D cl A nL b sa ws tys h cells slots Q q) : W p l e R s m args below meth c H locs cells slots Q (F0 m pc ls S) := by
  obtain ⟨hx, hb, hml, hts, hown, hnm, hRf, hRl⟩ := hE
  simp only [jm_okb, Bool.and_eq_true, decide_eq_true_eq] at he
  obtain ⟨hd0, hnp, hmk, ho⟩ := he
  simp only [jm_il] at hnp
  simp only [jm_stp] at hst
  have hd : decode cc pc = .ok (.ishr, 1) := by rw [show np - pc = 1 by omega] at hd0; exact hd0
  obtain ⟨u, h1, rfl⟩ := Option.map_eq_some_iff.mp hst
  obtain ⟨a0, b0, r0, rfl, rfl⟩ := jm_i2_inv h1
  obtain ⟨R0, rfl, hS0⟩ := jr_S_i hS
  obtain ⟨R1, rfl, hS1⟩ := jr_S_i hS0
  subst hnp
  exact lv_ishr hx hb hd (k.k0 hI rfl hL ⟨rfl, hS1⟩)
set_option maxHeartbeats 4000000 in
theorem jr_iushr {np x y z w : Nat} {v : Value} {bs : List Bool} {q : jm_S} (hE : jr_E p c cc nL s args own nm m meth R) (hK : jr_K tx G.2.1 b G.2.2.1 G.2.2.2 sa A s) (hC : jr_cls cl G) (hW : ∀ w ∈ Wd, w ∈ lw_tbl) (he : jm_okb cl tx tb Wd own nm cc nL (pc, .iushr, np, x, y, z, w, v, bs) = true) (hst : jm_stp G (pc, .iushr, np, x, y, z, w, v, bs) L st h = some q)
    (hI : jr_I D cl A b sa s h H locs ws tys) (hL : jr_L b sa ws L ls nL) (hS : jr_S b sa ws st S) (hroom : cells + q.2.2.2.2.1 ≤ R.cells + h.2.1 ∧ slots + q.2.2.2.2.2 ≤ R.slots + h.2.2) (k : jr_go p l e R s m args below meth c D cl A nL b sa ws tys h cells slots Q q) : W p l e R s m args below meth c H locs cells slots Q (F0 m pc ls S) := by
  obtain ⟨hx, hb, hml, hts, hown, hnm, hRf, hRl⟩ := hE
  simp only [jm_okb, Bool.and_eq_true, decide_eq_true_eq] at he
  obtain ⟨hd0, hnp, hmk, ho⟩ := he
  simp only [jm_il] at hnp
  simp only [jm_stp] at hst
  have hd : decode cc pc = .ok (.iushr, 1) := by rw [show np - pc = 1 by omega] at hd0; exact hd0
  obtain ⟨u, h1, rfl⟩ := Option.map_eq_some_iff.mp hst
  obtain ⟨a0, b0, r0, rfl, rfl⟩ := jm_i2_inv h1
  obtain ⟨R0, rfl, hS0⟩ := jr_S_i hS
  obtain ⟨R1, rfl, hS1⟩ := jr_S_i hS0
  subst hnp
  exact lv_iushr hx hb hd rfl (k.k0 hI rfl hL ⟨rfl, hS1⟩)
set_option maxHeartbeats 4000000 in
theorem jr_ladd {np x y z w : Nat} {v : Value} {bs : List Bool} {q : jm_S} (hE : jr_E p c cc nL s args own nm m meth R) (hK : jr_K tx G.2.1 b G.2.2.1 G.2.2.2 sa A s) (hC : jr_cls cl G) (hW : ∀ w ∈ Wd, w ∈ lw_tbl) (he : jm_okb cl tx tb Wd own nm cc nL (pc, .ladd, np, x, y, z, w, v, bs) = true) (hst : jm_stp G (pc, .ladd, np, x, y, z, w, v, bs) L st h = some q)
    (hI : jr_I D cl A b sa s h H locs ws tys) (hL : jr_L b sa ws L ls nL) (hS : jr_S b sa ws st S) (hroom : cells + q.2.2.2.2.1 ≤ R.cells + h.2.1 ∧ slots + q.2.2.2.2.2 ≤ R.slots + h.2.2) (k : jr_go p l e R s m args below meth c D cl A nL b sa ws tys h cells slots Q q) : W p l e R s m args below meth c H locs cells slots Q (F0 m pc ls S) := by
  obtain ⟨hx, hb, hml, hts, hown, hnm, hRf, hRl⟩ := hE
  simp only [jm_okb, Bool.and_eq_true, decide_eq_true_eq] at he
  obtain ⟨hd0, hnp, hmk, ho⟩ := he
  simp only [jm_il] at hnp
  simp only [jm_stp] at hst
  have hd : decode cc pc = .ok (.ladd, 1) := by rw [show np - pc = 1 by omega] at hd0; exact hd0
  obtain ⟨u, h1, rfl⟩ := Option.map_eq_some_iff.mp hst
  obtain ⟨a0, b0, r0, rfl, rfl⟩ := jm_l2_inv h1
  obtain ⟨R0, rfl, hS0⟩ := jr_S_l hS
  obtain ⟨R1, rfl, hS1⟩ := jr_S_l hS0
  subst hnp
  exact lv_ladd hx hb hd (k.k0 hI rfl hL ⟨rfl, hS1⟩)
set_option maxHeartbeats 4000000 in
theorem jr_lsub {np x y z w : Nat} {v : Value} {bs : List Bool} {q : jm_S} (hE : jr_E p c cc nL s args own nm m meth R) (hK : jr_K tx G.2.1 b G.2.2.1 G.2.2.2 sa A s) (hC : jr_cls cl G) (hW : ∀ w ∈ Wd, w ∈ lw_tbl) (he : jm_okb cl tx tb Wd own nm cc nL (pc, .lsub, np, x, y, z, w, v, bs) = true) (hst : jm_stp G (pc, .lsub, np, x, y, z, w, v, bs) L st h = some q)
    (hI : jr_I D cl A b sa s h H locs ws tys) (hL : jr_L b sa ws L ls nL) (hS : jr_S b sa ws st S) (hroom : cells + q.2.2.2.2.1 ≤ R.cells + h.2.1 ∧ slots + q.2.2.2.2.2 ≤ R.slots + h.2.2) (k : jr_go p l e R s m args below meth c D cl A nL b sa ws tys h cells slots Q q) : W p l e R s m args below meth c H locs cells slots Q (F0 m pc ls S) := by
  obtain ⟨hx, hb, hml, hts, hown, hnm, hRf, hRl⟩ := hE
  simp only [jm_okb, Bool.and_eq_true, decide_eq_true_eq] at he
  obtain ⟨hd0, hnp, hmk, ho⟩ := he
  simp only [jm_il] at hnp
  simp only [jm_stp] at hst
  have hd : decode cc pc = .ok (.lsub, 1) := by rw [show np - pc = 1 by omega] at hd0; exact hd0
  obtain ⟨u, h1, rfl⟩ := Option.map_eq_some_iff.mp hst
  obtain ⟨a0, b0, r0, rfl, rfl⟩ := jm_l2_inv h1
  obtain ⟨R0, rfl, hS0⟩ := jr_S_l hS
  obtain ⟨R1, rfl, hS1⟩ := jr_S_l hS0
  subst hnp
  exact lv_lsub hx hb hd (k.k0 hI rfl hL ⟨rfl, hS1⟩)
set_option maxHeartbeats 4000000 in
theorem jr_lmul {np x y z w : Nat} {v : Value} {bs : List Bool} {q : jm_S} (hE : jr_E p c cc nL s args own nm m meth R) (hK : jr_K tx G.2.1 b G.2.2.1 G.2.2.2 sa A s) (hC : jr_cls cl G) (hW : ∀ w ∈ Wd, w ∈ lw_tbl) (he : jm_okb cl tx tb Wd own nm cc nL (pc, .lmul, np, x, y, z, w, v, bs) = true) (hst : jm_stp G (pc, .lmul, np, x, y, z, w, v, bs) L st h = some q)
    (hI : jr_I D cl A b sa s h H locs ws tys) (hL : jr_L b sa ws L ls nL) (hS : jr_S b sa ws st S) (hroom : cells + q.2.2.2.2.1 ≤ R.cells + h.2.1 ∧ slots + q.2.2.2.2.2 ≤ R.slots + h.2.2) (k : jr_go p l e R s m args below meth c D cl A nL b sa ws tys h cells slots Q q) : W p l e R s m args below meth c H locs cells slots Q (F0 m pc ls S) := by
  obtain ⟨hx, hb, hml, hts, hown, hnm, hRf, hRl⟩ := hE
  simp only [jm_okb, Bool.and_eq_true, decide_eq_true_eq] at he
  obtain ⟨hd0, hnp, hmk, ho⟩ := he
  simp only [jm_il] at hnp
  simp only [jm_stp] at hst
  have hd : decode cc pc = .ok (.lmul, 1) := by rw [show np - pc = 1 by omega] at hd0; exact hd0
  obtain ⟨u, h1, rfl⟩ := Option.map_eq_some_iff.mp hst
  obtain ⟨a0, b0, r0, rfl, rfl⟩ := jm_l2_inv h1
  obtain ⟨R0, rfl, hS0⟩ := jr_S_l hS
  obtain ⟨R1, rfl, hS1⟩ := jr_S_l hS0
  subst hnp
  exact lv_lmul hx hb hd (k.k0 hI rfl hL ⟨rfl, hS1⟩)
set_option maxHeartbeats 4000000 in
theorem jr_lcmp {np x y z w : Nat} {v : Value} {bs : List Bool} {q : jm_S} (hE : jr_E p c cc nL s args own nm m meth R) (hK : jr_K tx G.2.1 b G.2.2.1 G.2.2.2 sa A s) (hC : jr_cls cl G) (hW : ∀ w ∈ Wd, w ∈ lw_tbl) (he : jm_okb cl tx tb Wd own nm cc nL (pc, .lcmp, np, x, y, z, w, v, bs) = true) (hst : jm_stp G (pc, .lcmp, np, x, y, z, w, v, bs) L st h = some q)
    (hI : jr_I D cl A b sa s h H locs ws tys) (hL : jr_L b sa ws L ls nL) (hS : jr_S b sa ws st S) (hroom : cells + q.2.2.2.2.1 ≤ R.cells + h.2.1 ∧ slots + q.2.2.2.2.2 ≤ R.slots + h.2.2) (k : jr_go p l e R s m args below meth c D cl A nL b sa ws tys h cells slots Q q) : W p l e R s m args below meth c H locs cells slots Q (F0 m pc ls S) := by
  obtain ⟨hx, hb, hml, hts, hown, hnm, hRf, hRl⟩ := hE
  simp only [jm_okb, Bool.and_eq_true, decide_eq_true_eq] at he
  obtain ⟨hd0, hnp, hmk, ho⟩ := he
  simp only [jm_il] at hnp
  simp only [jm_stp] at hst
  have hd : decode cc pc = .ok (.lcmp, 1) := by rw [show np - pc = 1 by omega] at hd0; exact hd0
  obtain ⟨u, h1, rfl⟩ := Option.map_eq_some_iff.mp hst
  obtain ⟨a0, b0, r0, rfl, rfl⟩ := jm_l2_inv h1
  obtain ⟨R0, rfl, hS0⟩ := jr_S_l hS
  obtain ⟨R1, rfl, hS1⟩ := jr_S_l hS0
  subst hnp
  exact W.lcmp hx hb hd (k.k0 hI rfl hL ⟨rfl, hS1⟩)
set_option maxHeartbeats 4000000 in
theorem jr_idiv {np x y z w : Nat} {v : Value} {bs : List Bool} {q : jm_S} (hE : jr_E p c cc nL s args own nm m meth R) (hK : jr_K tx G.2.1 b G.2.2.1 G.2.2.2 sa A s) (hC : jr_cls cl G) (hW : ∀ w ∈ Wd, w ∈ lw_tbl) (he : jm_okb cl tx tb Wd own nm cc nL (pc, .idiv, np, x, y, z, w, v, bs) = true) (hst : jm_stp G (pc, .idiv, np, x, y, z, w, v, bs) L st h = some q)
    (hI : jr_I D cl A b sa s h H locs ws tys) (hL : jr_L b sa ws L ls nL) (hS : jr_S b sa ws st S) (hroom : cells + q.2.2.2.2.1 ≤ R.cells + h.2.1 ∧ slots + q.2.2.2.2.2 ≤ R.slots + h.2.2) (k : jr_go p l e R s m args below meth c D cl A nL b sa ws tys h cells slots Q q) : W p l e R s m args below meth c H locs cells slots Q (F0 m pc ls S) := by
  obtain ⟨hx, hb, hml, hts, hown, hnm, hRf, hRl⟩ := hE
  simp only [jm_okb, Bool.and_eq_true, decide_eq_true_eq] at he
  obtain ⟨hd0, hnp, hmk, ho⟩ := he
  simp only [jm_il] at hnp
  simp only [jm_stp] at hst
  have hd : decode cc pc = .ok (.idiv, 1) := by rw [show np - pc = 1 by omega] at hd0; exact hd0
  split at hst
  case h_2 => cases hst
  case h_1 b0 a0 r0 =>
    split at hst
    case isTrue => cases hst
    case isFalse hne =>
    cases hst
    obtain ⟨R0, rfl, hS0⟩ := jr_S_i hS
    obtain ⟨R1, rfl, hS1⟩ := jr_S_i hS0
    subst hnp
    exact lv_idiv hx hb hd hne (k.k0 hI rfl hL ⟨rfl, hS1⟩)
set_option maxHeartbeats 4000000 in
theorem jr_irem {np x y z w : Nat} {v : Value} {bs : List Bool} {q : jm_S} (hE : jr_E p c cc nL s args own nm m meth R) (hK : jr_K tx G.2.1 b G.2.2.1 G.2.2.2 sa A s) (hC : jr_cls cl G) (hW : ∀ w ∈ Wd, w ∈ lw_tbl) (he : jm_okb cl tx tb Wd own nm cc nL (pc, .irem, np, x, y, z, w, v, bs) = true) (hst : jm_stp G (pc, .irem, np, x, y, z, w, v, bs) L st h = some q)
    (hI : jr_I D cl A b sa s h H locs ws tys) (hL : jr_L b sa ws L ls nL) (hS : jr_S b sa ws st S) (hroom : cells + q.2.2.2.2.1 ≤ R.cells + h.2.1 ∧ slots + q.2.2.2.2.2 ≤ R.slots + h.2.2) (k : jr_go p l e R s m args below meth c D cl A nL b sa ws tys h cells slots Q q) : W p l e R s m args below meth c H locs cells slots Q (F0 m pc ls S) := by
  obtain ⟨hx, hb, hml, hts, hown, hnm, hRf, hRl⟩ := hE
  simp only [jm_okb, Bool.and_eq_true, decide_eq_true_eq] at he
  obtain ⟨hd0, hnp, hmk, ho⟩ := he
  simp only [jm_il] at hnp
  simp only [jm_stp] at hst
  have hd : decode cc pc = .ok (.irem, 1) := by rw [show np - pc = 1 by omega] at hd0; exact hd0
  split at hst
  case h_2 => cases hst
  case h_1 b0 a0 r0 =>
    split at hst
    case isTrue => cases hst
    case isFalse hne =>
    cases hst
    obtain ⟨R0, rfl, hS0⟩ := jr_S_i hS
    obtain ⟨R1, rfl, hS1⟩ := jr_S_i hS0
    subst hnp
    exact lv_irem hx hb hd hne (k.k0 hI rfl hL ⟨rfl, hS1⟩)
set_option maxHeartbeats 4000000 in
theorem jr_ldiv {np x y z w : Nat} {v : Value} {bs : List Bool} {q : jm_S} (hE : jr_E p c cc nL s args own nm m meth R) (hK : jr_K tx G.2.1 b G.2.2.1 G.2.2.2 sa A s) (hC : jr_cls cl G) (hW : ∀ w ∈ Wd, w ∈ lw_tbl) (he : jm_okb cl tx tb Wd own nm cc nL (pc, .ldiv, np, x, y, z, w, v, bs) = true) (hst : jm_stp G (pc, .ldiv, np, x, y, z, w, v, bs) L st h = some q)
    (hI : jr_I D cl A b sa s h H locs ws tys) (hL : jr_L b sa ws L ls nL) (hS : jr_S b sa ws st S) (hroom : cells + q.2.2.2.2.1 ≤ R.cells + h.2.1 ∧ slots + q.2.2.2.2.2 ≤ R.slots + h.2.2) (k : jr_go p l e R s m args below meth c D cl A nL b sa ws tys h cells slots Q q) : W p l e R s m args below meth c H locs cells slots Q (F0 m pc ls S) := by
  obtain ⟨hx, hb, hml, hts, hown, hnm, hRf, hRl⟩ := hE
  simp only [jm_okb, Bool.and_eq_true, decide_eq_true_eq] at he
  obtain ⟨hd0, hnp, hmk, ho⟩ := he
  simp only [jm_il] at hnp
  simp only [jm_stp] at hst
  have hd : decode cc pc = .ok (.ldiv, 1) := by rw [show np - pc = 1 by omega] at hd0; exact hd0
  split at hst
  case h_2 => cases hst
  case h_1 b0 a0 r0 =>
    split at hst
    case isTrue => cases hst
    case isFalse hne =>
    cases hst
    obtain ⟨R0, rfl, hS0⟩ := jr_S_l hS
    obtain ⟨R1, rfl, hS1⟩ := jr_S_l hS0
    subst hnp
    exact lv_ldiv hx hb hd hne (k.k0 hI rfl hL ⟨rfl, hS1⟩)
set_option maxHeartbeats 4000000 in
theorem jr_lrem {np x y z w : Nat} {v : Value} {bs : List Bool} {q : jm_S} (hE : jr_E p c cc nL s args own nm m meth R) (hK : jr_K tx G.2.1 b G.2.2.1 G.2.2.2 sa A s) (hC : jr_cls cl G) (hW : ∀ w ∈ Wd, w ∈ lw_tbl) (he : jm_okb cl tx tb Wd own nm cc nL (pc, .lrem, np, x, y, z, w, v, bs) = true) (hst : jm_stp G (pc, .lrem, np, x, y, z, w, v, bs) L st h = some q)
    (hI : jr_I D cl A b sa s h H locs ws tys) (hL : jr_L b sa ws L ls nL) (hS : jr_S b sa ws st S) (hroom : cells + q.2.2.2.2.1 ≤ R.cells + h.2.1 ∧ slots + q.2.2.2.2.2 ≤ R.slots + h.2.2) (k : jr_go p l e R s m args below meth c D cl A nL b sa ws tys h cells slots Q q) : W p l e R s m args below meth c H locs cells slots Q (F0 m pc ls S) := by
  obtain ⟨hx, hb, hml, hts, hown, hnm, hRf, hRl⟩ := hE
  simp only [jm_okb, Bool.and_eq_true, decide_eq_true_eq] at he
  obtain ⟨hd0, hnp, hmk, ho⟩ := he
  simp only [jm_il] at hnp
  simp only [jm_stp] at hst
  have hd : decode cc pc = .ok (.lrem, 1) := by rw [show np - pc = 1 by omega] at hd0; exact hd0
  split at hst
  case h_2 => cases hst
  case h_1 b0 a0 r0 =>
    split at hst
    case isTrue => cases hst
    case isFalse hne =>
    cases hst
    obtain ⟨R0, rfl, hS0⟩ := jr_S_l hS
    obtain ⟨R1, rfl, hS1⟩ := jr_S_l hS0
    subst hnp
    exact lv_lrem hx hb hd hne (k.k0 hI rfl hL ⟨rfl, hS1⟩)
set_option maxHeartbeats 4000000 in
theorem jr_i2l {np x y z w : Nat} {v : Value} {bs : List Bool} {q : jm_S} (hE : jr_E p c cc nL s args own nm m meth R) (hK : jr_K tx G.2.1 b G.2.2.1 G.2.2.2 sa A s) (hC : jr_cls cl G) (hW : ∀ w ∈ Wd, w ∈ lw_tbl) (he : jm_okb cl tx tb Wd own nm cc nL (pc, .i2l, np, x, y, z, w, v, bs) = true) (hst : jm_stp G (pc, .i2l, np, x, y, z, w, v, bs) L st h = some q)
    (hI : jr_I D cl A b sa s h H locs ws tys) (hL : jr_L b sa ws L ls nL) (hS : jr_S b sa ws st S) (hroom : cells + q.2.2.2.2.1 ≤ R.cells + h.2.1 ∧ slots + q.2.2.2.2.2 ≤ R.slots + h.2.2) (k : jr_go p l e R s m args below meth c D cl A nL b sa ws tys h cells slots Q q) : W p l e R s m args below meth c H locs cells slots Q (F0 m pc ls S) := by
  obtain ⟨hx, hb, hml, hts, hown, hnm, hRf, hRl⟩ := hE
  simp only [jm_okb, Bool.and_eq_true, decide_eq_true_eq] at he
  obtain ⟨hd0, hnp, hmk, ho⟩ := he
  simp only [jm_il] at hnp
  simp only [jm_stp] at hst
  have hd : decode cc pc = .ok (.i2l, 1) := by rw [show np - pc = 1 by omega] at hd0; exact hd0
  obtain ⟨u, h1, rfl⟩ := Option.map_eq_some_iff.mp hst
  obtain ⟨a0, r0, rfl, rfl⟩ := jm_i1_inv h1
  obtain ⟨R0, rfl, hS0⟩ := jr_S_i hS
  subst hnp
  exact lv_i2l hx hb hd rfl (k.k0 hI rfl hL ⟨rfl, hS0⟩)
set_option maxHeartbeats 4000000 in
theorem jr_i2b {np x y z w : Nat} {v : Value} {bs : List Bool} {q : jm_S} (hE : jr_E p c cc nL s args own nm m meth R) (hK : jr_K tx G.2.1 b G.2.2.1 G.2.2.2 sa A s) (hC : jr_cls cl G) (hW : ∀ w ∈ Wd, w ∈ lw_tbl) (he : jm_okb cl tx tb Wd own nm cc nL (pc, .i2b, np, x, y, z, w, v, bs) = true) (hst : jm_stp G (pc, .i2b, np, x, y, z, w, v, bs) L st h = some q)
    (hI : jr_I D cl A b sa s h H locs ws tys) (hL : jr_L b sa ws L ls nL) (hS : jr_S b sa ws st S) (hroom : cells + q.2.2.2.2.1 ≤ R.cells + h.2.1 ∧ slots + q.2.2.2.2.2 ≤ R.slots + h.2.2) (k : jr_go p l e R s m args below meth c D cl A nL b sa ws tys h cells slots Q q) : W p l e R s m args below meth c H locs cells slots Q (F0 m pc ls S) := by
  obtain ⟨hx, hb, hml, hts, hown, hnm, hRf, hRl⟩ := hE
  simp only [jm_okb, Bool.and_eq_true, decide_eq_true_eq] at he
  obtain ⟨hd0, hnp, hmk, ho⟩ := he
  simp only [jm_il] at hnp
  simp only [jm_stp] at hst
  have hd : decode cc pc = .ok (.i2b, 1) := by rw [show np - pc = 1 by omega] at hd0; exact hd0
  obtain ⟨u, h1, rfl⟩ := Option.map_eq_some_iff.mp hst
  obtain ⟨a0, r0, rfl, rfl⟩ := jm_i1_inv h1
  obtain ⟨R0, rfl, hS0⟩ := jr_S_i hS
  subst hnp
  exact lv_i2b hx hb hd rfl (k.k0 hI rfl hL ⟨rfl, hS0⟩)
set_option maxHeartbeats 4000000 in
theorem jr_i2c {np x y z w : Nat} {v : Value} {bs : List Bool} {q : jm_S} (hE : jr_E p c cc nL s args own nm m meth R) (hK : jr_K tx G.2.1 b G.2.2.1 G.2.2.2 sa A s) (hC : jr_cls cl G) (hW : ∀ w ∈ Wd, w ∈ lw_tbl) (he : jm_okb cl tx tb Wd own nm cc nL (pc, .i2c, np, x, y, z, w, v, bs) = true) (hst : jm_stp G (pc, .i2c, np, x, y, z, w, v, bs) L st h = some q)
    (hI : jr_I D cl A b sa s h H locs ws tys) (hL : jr_L b sa ws L ls nL) (hS : jr_S b sa ws st S) (hroom : cells + q.2.2.2.2.1 ≤ R.cells + h.2.1 ∧ slots + q.2.2.2.2.2 ≤ R.slots + h.2.2) (k : jr_go p l e R s m args below meth c D cl A nL b sa ws tys h cells slots Q q) : W p l e R s m args below meth c H locs cells slots Q (F0 m pc ls S) := by
  obtain ⟨hx, hb, hml, hts, hown, hnm, hRf, hRl⟩ := hE
  simp only [jm_okb, Bool.and_eq_true, decide_eq_true_eq] at he
  obtain ⟨hd0, hnp, hmk, ho⟩ := he
  simp only [jm_il] at hnp
  simp only [jm_stp] at hst
  have hd : decode cc pc = .ok (.i2c, 1) := by rw [show np - pc = 1 by omega] at hd0; exact hd0
  obtain ⟨u, h1, rfl⟩ := Option.map_eq_some_iff.mp hst
  obtain ⟨a0, r0, rfl, rfl⟩ := jm_i1_inv h1
  obtain ⟨R0, rfl, hS0⟩ := jr_S_i hS
  subst hnp
  exact lv_i2c hx hb hd rfl (k.k0 hI rfl hL ⟨rfl, hS0⟩)
set_option maxHeartbeats 4000000 in
theorem jr_dup {np x y z w : Nat} {v : Value} {bs : List Bool} {q : jm_S} (hE : jr_E p c cc nL s args own nm m meth R) (hK : jr_K tx G.2.1 b G.2.2.1 G.2.2.2 sa A s) (hC : jr_cls cl G) (hW : ∀ w ∈ Wd, w ∈ lw_tbl) (he : jm_okb cl tx tb Wd own nm cc nL (pc, .dup, np, x, y, z, w, v, bs) = true) (hst : jm_stp G (pc, .dup, np, x, y, z, w, v, bs) L st h = some q)
    (hI : jr_I D cl A b sa s h H locs ws tys) (hL : jr_L b sa ws L ls nL) (hS : jr_S b sa ws st S) (hroom : cells + q.2.2.2.2.1 ≤ R.cells + h.2.1 ∧ slots + q.2.2.2.2.2 ≤ R.slots + h.2.2) (k : jr_go p l e R s m args below meth c D cl A nL b sa ws tys h cells slots Q q) : W p l e R s m args below meth c H locs cells slots Q (F0 m pc ls S) := by
  obtain ⟨hx, hb, hml, hts, hown, hnm, hRf, hRl⟩ := hE
  simp only [jm_okb, Bool.and_eq_true, decide_eq_true_eq] at he
  obtain ⟨hd0, hnp, hmk, ho⟩ := he
  simp only [jm_il] at hnp
  simp only [jm_stp] at hst
  have hd : decode cc pc = .ok (.dup, 1) := by rw [show np - pc = 1 by omega] at hd0; exact hd0
  split at hst
  case h_2 => cases hst
  case h_1 v0 r0 =>
    split at hst
    case isFalse => cases hst
    case isTrue hc1 =>
    cases hst
    obtain ⟨V, R0, rfl, hV, hS0⟩ := jr_S_c hS
    subst hnp
    exact lv_dup hx hb hd (jr_cat1 hV hc1) (k.k0 hI rfl hL ⟨hV, hV, hS0⟩)
set_option maxHeartbeats 4000000 in
theorem jr_pop {np x y z w : Nat} {v : Value} {bs : List Bool} {q : jm_S} (hE : jr_E p c cc nL s args own nm m meth R) (hK : jr_K tx G.2.1 b G.2.2.1 G.2.2.2 sa A s) (hC : jr_cls cl G) (hW : ∀ w ∈ Wd, w ∈ lw_tbl) (he : jm_okb cl tx tb Wd own nm cc nL (pc, .pop, np, x, y, z, w, v, bs) = true) (hst : jm_stp G (pc, .pop, np, x, y, z, w, v, bs) L st h = some q)
    (hI : jr_I D cl A b sa s h H locs ws tys) (hL : jr_L b sa ws L ls nL) (hS : jr_S b sa ws st S) (hroom : cells + q.2.2.2.2.1 ≤ R.cells + h.2.1 ∧ slots + q.2.2.2.2.2 ≤ R.slots + h.2.2) (k : jr_go p l e R s m args below meth c D cl A nL b sa ws tys h cells slots Q q) : W p l e R s m args below meth c H locs cells slots Q (F0 m pc ls S) := by
  obtain ⟨hx, hb, hml, hts, hown, hnm, hRf, hRl⟩ := hE
  simp only [jm_okb, Bool.and_eq_true, decide_eq_true_eq] at he
  obtain ⟨hd0, hnp, hmk, ho⟩ := he
  simp only [jm_il] at hnp
  simp only [jm_stp] at hst
  have hd : decode cc pc = .ok (.pop, 1) := by rw [show np - pc = 1 by omega] at hd0; exact hd0
  split at hst
  case h_2 => cases hst
  case h_1 v0 r0 =>
    split at hst
    case isFalse => cases hst
    case isTrue hc1 =>
    cases hst
    obtain ⟨V, R0, rfl, hV, hS0⟩ := jr_S_c hS
    subst hnp
    exact lv_pop hx hb hd (jr_cat1 hV hc1) (k.k0 hI rfl hL hS0)
set_option maxHeartbeats 4000000 in
theorem jr_dup2 {np x y z w : Nat} {v : Value} {bs : List Bool} {q : jm_S} (hE : jr_E p c cc nL s args own nm m meth R) (hK : jr_K tx G.2.1 b G.2.2.1 G.2.2.2 sa A s) (hC : jr_cls cl G) (hW : ∀ w ∈ Wd, w ∈ lw_tbl) (he : jm_okb cl tx tb Wd own nm cc nL (pc, .dup2, np, x, y, z, w, v, bs) = true) (hst : jm_stp G (pc, .dup2, np, x, y, z, w, v, bs) L st h = some q)
    (hI : jr_I D cl A b sa s h H locs ws tys) (hL : jr_L b sa ws L ls nL) (hS : jr_S b sa ws st S) (hroom : cells + q.2.2.2.2.1 ≤ R.cells + h.2.1 ∧ slots + q.2.2.2.2.2 ≤ R.slots + h.2.2) (k : jr_go p l e R s m args below meth c D cl A nL b sa ws tys h cells slots Q q) : W p l e R s m args below meth c H locs cells slots Q (F0 m pc ls S) := by
  obtain ⟨hx, hb, hml, hts, hown, hnm, hRf, hRl⟩ := hE
  simp only [jm_okb, Bool.and_eq_true, decide_eq_true_eq] at he
  obtain ⟨hd0, hnp, hmk, ho⟩ := he
  simp only [jm_il] at hnp
  simp only [jm_stp] at hst
  have hd : decode cc pc = .ok (.dup2, 1) := by rw [show np - pc = 1 by omega] at hd0; exact hd0
  split at hst
  case h_1 v0 r0 =>
    cases hst
    obtain ⟨R0, rfl, hS0⟩ := jr_S_l hS
    subst hnp
    exact lv_dup2_2 hx hb hd rfl (k.k0 hI rfl hL ⟨rfl, rfl, hS0⟩)
  case h_2 v0 w0 r0 _ =>
    split at hst
    case isFalse => cases hst
    case isTrue hc1 =>
    cases hst
    obtain ⟨V, R0, rfl, hV, hS0⟩ := jr_S_c hS
    obtain ⟨V1, R1, rfl, hV1, hS1⟩ := jr_S_c hS0
    subst hnp
    exact lv_dup2_11 hx hb hd (jr_cat1 hV hc1.1) (jr_cat1 hV1 hc1.2) (k.k0 hI rfl hL ⟨hV, hV1, hV, hV1, hS1⟩)
  case h_3 => cases hst
set_option maxHeartbeats 4000000 in
theorem jr_goto {off : Int} {np x y z w : Nat} {v : Value} {bs : List Bool} {q : jm_S} (hE : jr_E p c cc nL s args own nm m meth R) (hK : jr_K tx G.2.1 b G.2.2.1 G.2.2.2 sa A s) (hC : jr_cls cl G) (hW : ∀ w ∈ Wd, w ∈ lw_tbl) (he : jm_okb cl tx tb Wd own nm cc nL (pc, .goto off, np, x, y, z, w, v, bs) = true) (hst : jm_stp G (pc, .goto off, np, x, y, z, w, v, bs) L st h = some q)
    (hI : jr_I D cl A b sa s h H locs ws tys) (hL : jr_L b sa ws L ls nL) (hS : jr_S b sa ws st S) (hroom : cells + q.2.2.2.2.1 ≤ R.cells + h.2.1 ∧ slots + q.2.2.2.2.2 ≤ R.slots + h.2.2) (k : jr_go p l e R s m args below meth c D cl A nL b sa ws tys h cells slots Q q) : W p l e R s m args below meth c H locs cells slots Q (F0 m pc ls S) := by
  obtain ⟨hx, hb, hml, hts, hown, hnm, hRf, hRl⟩ := hE
  simp only [jm_okb, Bool.and_eq_true, decide_eq_true_eq] at he
  obtain ⟨hd0, hnp, hmk, ho⟩ := he
  simp only [jm_il] at hnp
  simp only [jm_stp] at hst
  have hd : decode cc pc = .ok (.goto off, 3) := by rw [show np - pc = 3 by omega] at hd0; exact hd0
  cases hst
  exact lv_goto hx hb hd ho (k.k0 hI rfl hL hS)
set_option maxHeartbeats 4000000 in
theorem jr_if_eq {off : Int} {np x y z w : Nat} {v : Value} {bs : List Bool} {q : jm_S} (hE : jr_E p c cc nL s args own nm m meth R) (hK : jr_K tx G.2.1 b G.2.2.1 G.2.2.2 sa A s) (hC : jr_cls cl G) (hW : ∀ w ∈ Wd, w ∈ lw_tbl) (he : jm_okb cl tx tb Wd own nm cc nL (pc, .ifCond .eq off, np, x, y, z, w, v, bs) = true) (hst : jm_stp G (pc, .ifCond .eq off, np, x, y, z, w, v, bs) L st h = some q)
    (hI : jr_I D cl A b sa s h H locs ws tys) (hL : jr_L b sa ws L ls nL) (hS : jr_S b sa ws st S) (hroom : cells + q.2.2.2.2.1 ≤ R.cells + h.2.1 ∧ slots + q.2.2.2.2.2 ≤ R.slots + h.2.2) (k : jr_go p l e R s m args below meth c D cl A nL b sa ws tys h cells slots Q q) : W p l e R s m args below meth c H locs cells slots Q (F0 m pc ls S) := by
  obtain ⟨hx, hb, hml, hts, hown, hnm, hRf, hRl⟩ := hE
  simp only [jm_okb, Bool.and_eq_true, decide_eq_true_eq] at he
  obtain ⟨hd0, hnp, hmk, ho⟩ := he
  simp only [jm_il] at hnp
  simp only [jm_stp] at hst
  have hd : decode cc pc = .ok (.ifCond .eq off, 3) := by rw [show np - pc = 3 by omega] at hd0; exact hd0
  unfold jm_if1 at hst
  split at hst
  case h_2 => cases hst
  case h_1 a0 r0 =>
    obtain ⟨R0, rfl, hS0⟩ := jr_S_i hS
    subst hnp
    refine lv_if_eq hx hb hd ho (fun g => ?_) (fun g => ?_)
    · rw [if_pos g] at hst
      cases hst
      exact k.k0 hI rfl hL hS0
    · rw [if_neg g] at hst
      cases hst
      exact k.k0 hI rfl hL hS0
set_option maxHeartbeats 4000000 in
theorem jr_icmp_eq {off : Int} {np x y z w : Nat} {v : Value} {bs : List Bool} {q : jm_S} (hE : jr_E p c cc nL s args own nm m meth R) (hK : jr_K tx G.2.1 b G.2.2.1 G.2.2.2 sa A s) (hC : jr_cls cl G) (hW : ∀ w ∈ Wd, w ∈ lw_tbl) (he : jm_okb cl tx tb Wd own nm cc nL (pc, .if_icmp .eq off, np, x, y, z, w, v, bs) = true) (hst : jm_stp G (pc, .if_icmp .eq off, np, x, y, z, w, v, bs) L st h = some q)
    (hI : jr_I D cl A b sa s h H locs ws tys) (hL : jr_L b sa ws L ls nL) (hS : jr_S b sa ws st S) (hroom : cells + q.2.2.2.2.1 ≤ R.cells + h.2.1 ∧ slots + q.2.2.2.2.2 ≤ R.slots + h.2.2) (k : jr_go p l e R s m args below meth c D cl A nL b sa ws tys h cells slots Q q) : W p l e R s m args below meth c H locs cells slots Q (F0 m pc ls S) := by
  obtain ⟨hx, hb, hml, hts, hown, hnm, hRf, hRl⟩ := hE
  simp only [jm_okb, Bool.and_eq_true, decide_eq_true_eq] at he
  obtain ⟨hd0, hnp, hmk, ho⟩ := he
  simp only [jm_il] at hnp
  simp only [jm_stp] at hst
  have hd : decode cc pc = .ok (.if_icmp .eq off, 3) := by rw [show np - pc = 3 by omega] at hd0; exact hd0
  unfold jm_if2 at hst
  split at hst
  case h_2 => cases hst
  case h_1 b0 a0 r0 =>
    obtain ⟨R0, rfl, hS0⟩ := jr_S_i hS
    obtain ⟨R1, rfl, hS1⟩ := jr_S_i hS0
    subst hnp
    refine lv_icmp_eq hx hb hd ho (fun g => ?_) (fun g => ?_)
    · rw [if_pos g] at hst
      cases hst
      exact k.k0 hI rfl hL hS1
    · rw [if_neg g] at hst
      cases hst
      exact k.k0 hI rfl hL hS1
set_option maxHeartbeats 4000000 in
theorem jr_if_ne {off : Int} {np x y z w : Nat} {v : Value} {bs : List Bool} {q : jm_S} (hE : jr_E p c cc nL s args own nm m meth R) (hK : jr_K tx G.2.1 b G.2.2.1 G.2.2.2 sa A s) (hC : jr_cls cl G) (hW : ∀ w ∈ Wd, w ∈ lw_tbl) (he : jm_okb cl tx tb Wd own nm cc nL (pc, .ifCond .ne off, np, x, y, z, w, v, bs) = true) (hst : jm_stp G (pc, .ifCond .ne off, np, x, y, z, w, v, bs) L st h = some q)
    (hI : jr_I D cl A b sa s h H locs ws tys) (hL : jr_L b sa ws L ls nL) (hS : jr_S b sa ws st S) (hroom : cells + q.2.2.2.2.1 ≤ R.cells + h.2.1 ∧ slots + q.2.2.2.2.2 ≤ R.slots + h.2.2) (k : jr_go p l e R s m args below meth c D cl A nL b sa ws tys h cells slots Q q) : W p l e R s m args below meth c H locs cells slots Q (F0 m pc ls S) := by
  obtain ⟨hx, hb, hml, hts, hown, hnm, hRf, hRl⟩ := hE
  simp only [jm_okb, Bool.and_eq_true, decide_eq_true_eq] at he
  obtain ⟨hd0, hnp, hmk, ho⟩ := he
  simp only [jm_il] at hnp
  simp only [jm_stp] at hst
  have hd : decode cc pc = .ok (.ifCond .ne off, 3) := by rw [show np - pc = 3 by omega] at hd0; exact hd0
  unfold jm_if1 at hst
  split at hst
  case h_2 => cases hst
  case h_1 a0 r0 =>
    obtain ⟨R0, rfl, hS0⟩ := jr_S_i hS
    subst hnp
    refine lv_if_ne hx hb hd ho (fun g => ?_) (fun g => ?_)
    · rw [if_pos g] at hst
      cases hst
      exact k.k0 hI rfl hL hS0
    · rw [if_neg (fun q => q g)] at hst
      cases hst
      exact k.k0 hI rfl hL hS0
set_option maxHeartbeats 4000000 in
theorem jr_icmp_ne {off : Int} {np x y z w : Nat} {v : Value} {bs : List Bool} {q : jm_S} (hE : jr_E p c cc nL s args own nm m meth R) (hK : jr_K tx G.2.1 b G.2.2.1 G.2.2.2 sa A s) (hC : jr_cls cl G) (hW : ∀ w ∈ Wd, w ∈ lw_tbl) (he : jm_okb cl tx tb Wd own nm cc nL (pc, .if_icmp .ne off, np, x, y, z, w, v, bs) = true) (hst : jm_stp G (pc, .if_icmp .ne off, np, x, y, z, w, v, bs) L st h = some q)
    (hI : jr_I D cl A b sa s h H locs ws tys) (hL : jr_L b sa ws L ls nL) (hS : jr_S b sa ws st S) (hroom : cells + q.2.2.2.2.1 ≤ R.cells + h.2.1 ∧ slots + q.2.2.2.2.2 ≤ R.slots + h.2.2) (k : jr_go p l e R s m args below meth c D cl A nL b sa ws tys h cells slots Q q) : W p l e R s m args below meth c H locs cells slots Q (F0 m pc ls S) := by
  obtain ⟨hx, hb, hml, hts, hown, hnm, hRf, hRl⟩ := hE
  simp only [jm_okb, Bool.and_eq_true, decide_eq_true_eq] at he
  obtain ⟨hd0, hnp, hmk, ho⟩ := he
  simp only [jm_il] at hnp
  simp only [jm_stp] at hst
  have hd : decode cc pc = .ok (.if_icmp .ne off, 3) := by rw [show np - pc = 3 by omega] at hd0; exact hd0
  unfold jm_if2 at hst
  split at hst
  case h_2 => cases hst
  case h_1 b0 a0 r0 =>
    obtain ⟨R0, rfl, hS0⟩ := jr_S_i hS
    obtain ⟨R1, rfl, hS1⟩ := jr_S_i hS0
    subst hnp
    refine lv_icmp_ne hx hb hd ho (fun g => ?_) (fun g => ?_)
    · rw [if_pos g] at hst
      cases hst
      exact k.k0 hI rfl hL hS1
    · rw [if_neg (fun q => q g)] at hst
      cases hst
      exact k.k0 hI rfl hL hS1
set_option maxHeartbeats 4000000 in
theorem jr_if_lt {off : Int} {np x y z w : Nat} {v : Value} {bs : List Bool} {q : jm_S} (hE : jr_E p c cc nL s args own nm m meth R) (hK : jr_K tx G.2.1 b G.2.2.1 G.2.2.2 sa A s) (hC : jr_cls cl G) (hW : ∀ w ∈ Wd, w ∈ lw_tbl) (he : jm_okb cl tx tb Wd own nm cc nL (pc, .ifCond .lt off, np, x, y, z, w, v, bs) = true) (hst : jm_stp G (pc, .ifCond .lt off, np, x, y, z, w, v, bs) L st h = some q)
    (hI : jr_I D cl A b sa s h H locs ws tys) (hL : jr_L b sa ws L ls nL) (hS : jr_S b sa ws st S) (hroom : cells + q.2.2.2.2.1 ≤ R.cells + h.2.1 ∧ slots + q.2.2.2.2.2 ≤ R.slots + h.2.2) (k : jr_go p l e R s m args below meth c D cl A nL b sa ws tys h cells slots Q q) : W p l e R s m args below meth c H locs cells slots Q (F0 m pc ls S) := by
  obtain ⟨hx, hb, hml, hts, hown, hnm, hRf, hRl⟩ := hE
  simp only [jm_okb, Bool.and_eq_true, decide_eq_true_eq] at he
  obtain ⟨hd0, hnp, hmk, ho⟩ := he
  simp only [jm_il] at hnp
  simp only [jm_stp] at hst
  have hd : decode cc pc = .ok (.ifCond .lt off, 3) := by rw [show np - pc = 3 by omega] at hd0; exact hd0
  unfold jm_if1 at hst
  split at hst
  case h_2 => cases hst
  case h_1 a0 r0 =>
    obtain ⟨R0, rfl, hS0⟩ := jr_S_i hS
    subst hnp
    refine lv_if_lt hx hb hd ho (fun g => ?_) (fun g => ?_)
    · rw [if_pos g] at hst
      cases hst
      exact k.k0 hI rfl hL hS0
    · rw [if_neg g] at hst
      cases hst
      exact k.k0 hI rfl hL hS0
set_option maxHeartbeats 4000000 in
theorem jr_icmp_lt {off : Int} {np x y z w : Nat} {v : Value} {bs : List Bool} {q : jm_S} (hE : jr_E p c cc nL s args own nm m meth R) (hK : jr_K tx G.2.1 b G.2.2.1 G.2.2.2 sa A s) (hC : jr_cls cl G) (hW : ∀ w ∈ Wd, w ∈ lw_tbl) (he : jm_okb cl tx tb Wd own nm cc nL (pc, .if_icmp .lt off, np, x, y, z, w, v, bs) = true) (hst : jm_stp G (pc, .if_icmp .lt off, np, x, y, z, w, v, bs) L st h = some q)
    (hI : jr_I D cl A b sa s h H locs ws tys) (hL : jr_L b sa ws L ls nL) (hS : jr_S b sa ws st S) (hroom : cells + q.2.2.2.2.1 ≤ R.cells + h.2.1 ∧ slots + q.2.2.2.2.2 ≤ R.slots + h.2.2) (k : jr_go p l e R s m args below meth c D cl A nL b sa ws tys h cells slots Q q) : W p l e R s m args below meth c H locs cells slots Q (F0 m pc ls S) := by
  obtain ⟨hx, hb, hml, hts, hown, hnm, hRf, hRl⟩ := hE
  simp only [jm_okb, Bool.and_eq_true, decide_eq_true_eq] at he
  obtain ⟨hd0, hnp, hmk, ho⟩ := he
  simp only [jm_il] at hnp
  simp only [jm_stp] at hst
  have hd : decode cc pc = .ok (.if_icmp .lt off, 3) := by rw [show np - pc = 3 by omega] at hd0; exact hd0
  unfold jm_if2 at hst
  split at hst
  case h_2 => cases hst
  case h_1 b0 a0 r0 =>
    obtain ⟨R0, rfl, hS0⟩ := jr_S_i hS
    obtain ⟨R1, rfl, hS1⟩ := jr_S_i hS0
    subst hnp
    refine lv_icmp_lt hx hb hd ho (fun g => ?_) (fun g => ?_)
    · rw [if_pos g] at hst
      cases hst
      exact k.k0 hI rfl hL hS1
    · rw [if_neg g] at hst
      cases hst
      exact k.k0 hI rfl hL hS1
set_option maxHeartbeats 4000000 in
theorem jr_if_ge {off : Int} {np x y z w : Nat} {v : Value} {bs : List Bool} {q : jm_S} (hE : jr_E p c cc nL s args own nm m meth R) (hK : jr_K tx G.2.1 b G.2.2.1 G.2.2.2 sa A s) (hC : jr_cls cl G) (hW : ∀ w ∈ Wd, w ∈ lw_tbl) (he : jm_okb cl tx tb Wd own nm cc nL (pc, .ifCond .ge off, np, x, y, z, w, v, bs) = true) (hst : jm_stp G (pc, .ifCond .ge off, np, x, y, z, w, v, bs) L st h = some q)
    (hI : jr_I D cl A b sa s h H locs ws tys) (hL : jr_L b sa ws L ls nL) (hS : jr_S b sa ws st S) (hroom : cells + q.2.2.2.2.1 ≤ R.cells + h.2.1 ∧ slots + q.2.2.2.2.2 ≤ R.slots + h.2.2) (k : jr_go p l e R s m args below meth c D cl A nL b sa ws tys h cells slots Q q) : W p l e R s m args below meth c H locs cells slots Q (F0 m pc ls S) := by
  obtain ⟨hx, hb, hml, hts, hown, hnm, hRf, hRl⟩ := hE
  simp only [jm_okb, Bool.and_eq_true, decide_eq_true_eq] at he
  obtain ⟨hd0, hnp, hmk, ho⟩ := he
  simp only [jm_il] at hnp
  simp only [jm_stp] at hst
  have hd : decode cc pc = .ok (.ifCond .ge off, 3) := by rw [show np - pc = 3 by omega] at hd0; exact hd0
  unfold jm_if1 at hst
  split at hst
  case h_2 => cases hst
  case h_1 a0 r0 =>
    obtain ⟨R0, rfl, hS0⟩ := jr_S_i hS
    subst hnp
    refine lv_if_ge hx hb hd ho (fun g => ?_) (fun g => ?_)
    · rw [if_pos g] at hst
      cases hst
      exact k.k0 hI rfl hL hS0
    · rw [if_neg g] at hst
      cases hst
      exact k.k0 hI rfl hL hS0
set_option maxHeartbeats 4000000 in
theorem jr_icmp_ge {off : Int} {np x y z w : Nat} {v : Value} {bs : List Bool} {q : jm_S} (hE : jr_E p c cc nL s args own nm m meth R) (hK : jr_K tx G.2.1 b G.2.2.1 G.2.2.2 sa A s) (hC : jr_cls cl G) (hW : ∀ w ∈ Wd, w ∈ lw_tbl) (he : jm_okb cl tx tb Wd own nm cc nL (pc, .if_icmp .ge off, np, x, y, z, w, v, bs) = true) (hst : jm_stp G (pc, .if_icmp .ge off, np, x, y, z, w, v, bs) L st h = some q)
    (hI : jr_I D cl A b sa s h H locs ws tys) (hL : jr_L b sa ws L ls nL) (hS : jr_S b sa ws st S) (hroom : cells + q.2.2.2.2.1 ≤ R.cells + h.2.1 ∧ slots + q.2.2.2.2.2 ≤ R.slots + h.2.2) (k : jr_go p l e R s m args below meth c D cl A nL b sa ws tys h cells slots Q q) : W p l e R s m args below meth c H locs cells slots Q (F0 m pc ls S) := by
  obtain ⟨hx, hb, hml, hts, hown, hnm, hRf, hRl⟩ := hE
  simp only [jm_okb, Bool.and_eq_true, decide_eq_true_eq] at he
  obtain ⟨hd0, hnp, hmk, ho⟩ := he
  simp only [jm_il] at hnp
  simp only [jm_stp] at hst
  have hd : decode cc pc = .ok (.if_icmp .ge off, 3) := by rw [show np - pc = 3 by omega] at hd0; exact hd0
  unfold jm_if2 at hst
  split at hst
  case h_2 => cases hst
  case h_1 b0 a0 r0 =>
    obtain ⟨R0, rfl, hS0⟩ := jr_S_i hS
    obtain ⟨R1, rfl, hS1⟩ := jr_S_i hS0
    subst hnp
    refine lv_icmp_ge hx hb hd ho (fun g => ?_) (fun g => ?_)
    · rw [if_pos g] at hst
      cases hst
      exact k.k0 hI rfl hL hS1
    · rw [if_neg g] at hst
      cases hst
      exact k.k0 hI rfl hL hS1
set_option maxHeartbeats 4000000 in
theorem jr_if_gt {off : Int} {np x y z w : Nat} {v : Value} {bs : List Bool} {q : jm_S} (hE : jr_E p c cc nL s args own nm m meth R) (hK : jr_K tx G.2.1 b G.2.2.1 G.2.2.2 sa A s) (hC : jr_cls cl G) (hW : ∀ w ∈ Wd, w ∈ lw_tbl) (he : jm_okb cl tx tb Wd own nm cc nL (pc, .ifCond .gt off, np, x, y, z, w, v, bs) = true) (hst : jm_stp G (pc, .ifCond .gt off, np, x, y, z, w, v, bs) L st h = some q)
    (hI : jr_I D cl A b sa s h H locs ws tys) (hL : jr_L b sa ws L ls nL) (hS : jr_S b sa ws st S) (hroom : cells + q.2.2.2.2.1 ≤ R.cells + h.2.1 ∧ slots + q.2.2.2.2.2 ≤ R.slots + h.2.2) (k : jr_go p l e R s m args below meth c D cl A nL b sa ws tys h cells slots Q q) : W p l e R s m args below meth c H locs cells slots Q (F0 m pc ls S) := by
  obtain ⟨hx, hb, hml, hts, hown, hnm, hRf, hRl⟩ := hE
  simp only [jm_okb, Bool.and_eq_true, decide_eq_true_eq] at he
  obtain ⟨hd0, hnp, hmk, ho⟩ := he
  simp only [jm_il] at hnp
  simp only [jm_stp] at hst
  have hd : decode cc pc = .ok (.ifCond .gt off, 3) := by rw [show np - pc = 3 by omega] at hd0; exact hd0
  unfold jm_if1 at hst
  split at hst
  case h_2 => cases hst
  case h_1 a0 r0 =>
    obtain ⟨R0, rfl, hS0⟩ := jr_S_i hS
    subst hnp
    refine lv_if_gt hx hb hd ho (fun g => ?_) (fun g => ?_)
    · rw [if_pos g] at hst
      cases hst
      exact k.k0 hI rfl hL hS0
    · rw [if_neg g] at hst
      cases hst
      exact k.k0 hI rfl hL hS0
set_option maxHeartbeats 4000000 in
theorem jr_icmp_gt {off : Int} {np x y z w : Nat} {v : Value} {bs : List Bool} {q : jm_S} (hE : jr_E p c cc nL s args own nm m meth R) (hK : jr_K tx G.2.1 b G.2.2.1 G.2.2.2 sa A s) (hC : jr_cls cl G) (hW : ∀ w ∈ Wd, w ∈ lw_tbl) (he : jm_okb cl tx tb Wd own nm cc nL (pc, .if_icmp .gt off, np, x, y, z, w, v, bs) = true) (hst : jm_stp G (pc, .if_icmp .gt off, np, x, y, z, w, v, bs) L st h = some q)
    (hI : jr_I D cl A b sa s h H locs ws tys) (hL : jr_L b sa ws L ls nL) (hS : jr_S b sa ws st S) (hroom : cells + q.2.2.2.2.1 ≤ R.cells + h.2.1 ∧ slots + q.2.2.2.2.2 ≤ R.slots + h.2.2) (k : jr_go p l e R s m args below meth c D cl A nL b sa ws tys h cells slots Q q) : W p l e R s m args below meth c H locs cells slots Q (F0 m pc ls S) := by
  obtain ⟨hx, hb, hml, hts, hown, hnm, hRf, hRl⟩ := hE
  simp only [jm_okb, Bool.and_eq_true, decide_eq_true_eq] at he
  obtain ⟨hd0, hnp, hmk, ho⟩ := he
  simp only [jm_il] at hnp
  simp only [jm_stp] at hst
  have hd : decode cc pc = .ok (.if_icmp .gt off, 3) := by rw [show np - pc = 3 by omega] at hd0; exact hd0
  unfold jm_if2 at hst
  split at hst
  case h_2 => cases hst
  case h_1 b0 a0 r0 =>
    obtain ⟨R0, rfl, hS0⟩ := jr_S_i hS
    obtain ⟨R1, rfl, hS1⟩ := jr_S_i hS0
    subst hnp
    refine lv_icmp_gt hx hb hd ho (fun g => ?_) (fun g => ?_)
    · rw [if_pos g] at hst
      cases hst
      exact k.k0 hI rfl hL hS1
    · rw [if_neg g] at hst
      cases hst
      exact k.k0 hI rfl hL hS1
set_option maxHeartbeats 4000000 in
theorem jr_if_le {off : Int} {np x y z w : Nat} {v : Value} {bs : List Bool} {q : jm_S} (hE : jr_E p c cc nL s args own nm m meth R) (hK : jr_K tx G.2.1 b G.2.2.1 G.2.2.2 sa A s) (hC : jr_cls cl G) (hW : ∀ w ∈ Wd, w ∈ lw_tbl) (he : jm_okb cl tx tb Wd own nm cc nL (pc, .ifCond .le off, np, x, y, z, w, v, bs) = true) (hst : jm_stp G (pc, .ifCond .le off, np, x, y, z, w, v, bs) L st h = some q)
    (hI : jr_I D cl A b sa s h H locs ws tys) (hL : jr_L b sa ws L ls nL) (hS : jr_S b sa ws st S) (hroom : cells + q.2.2.2.2.1 ≤ R.cells + h.2.1 ∧ slots + q.2.2.2.2.2 ≤ R.slots + h.2.2) (k : jr_go p l e R s m args below meth c D cl A nL b sa ws tys h cells slots Q q) : W p l e R s m args below meth c H locs cells slots Q (F0 m pc ls S) := by
  obtain ⟨hx, hb, hml, hts, hown, hnm, hRf, hRl⟩ := hE
  simp only [jm_okb, Bool.and_eq_true, decide_eq_true_eq] at he
  obtain ⟨hd0, hnp, hmk, ho⟩ := he
  simp only [jm_il] at hnp
  simp only [jm_stp] at hst
  have hd : decode cc pc = .ok (.ifCond .le off, 3) := by rw [show np - pc = 3 by omega] at hd0; exact hd0
  unfold jm_if1 at hst
  split at hst
  case h_2 => cases hst
  case h_1 a0 r0 =>
    obtain ⟨R0, rfl, hS0⟩ := jr_S_i hS
    subst hnp
    refine lv_if_le hx hb hd ho (fun g => ?_) (fun g => ?_)
    · rw [if_pos g] at hst
      cases hst
      exact k.k0 hI rfl hL hS0
    · rw [if_neg g] at hst
      cases hst
      exact k.k0 hI rfl hL hS0
set_option maxHeartbeats 4000000 in
theorem jr_icmp_le {off : Int} {np x y z w : Nat} {v : Value} {bs : List Bool} {q : jm_S} (hE : jr_E p c cc nL s args own nm m meth R) (hK : jr_K tx G.2.1 b G.2.2.1 G.2.2.2 sa A s) (hC : jr_cls cl G) (hW : ∀ w ∈ Wd, w ∈ lw_tbl) (he : jm_okb cl tx tb Wd own nm cc nL (pc, .if_icmp .le off, np, x, y, z, w, v, bs) = true) (hst : jm_stp G (pc, .if_icmp .le off, np, x, y, z, w, v, bs) L st h = some q)
    (hI : jr_I D cl A b sa s h H locs ws tys) (hL : jr_L b sa ws L ls nL) (hS : jr_S b sa ws st S) (hroom : cells + q.2.2.2.2.1 ≤ R.cells + h.2.1 ∧ slots + q.2.2.2.2.2 ≤ R.slots + h.2.2) (k : jr_go p l e R s m args below meth c D cl A nL b sa ws tys h cells slots Q q) : W p l e R s m args below meth c H locs cells slots Q (F0 m pc ls S) := by
  obtain ⟨hx, hb, hml, hts, hown, hnm, hRf, hRl⟩ := hE
  simp only [jm_okb, Bool.and_eq_true, decide_eq_true_eq] at he
  obtain ⟨hd0, hnp, hmk, ho⟩ := he
  simp only [jm_il] at hnp
  simp only [jm_stp] at hst
  have hd : decode cc pc = .ok (.if_icmp .le off, 3) := by rw [show np - pc = 3 by omega] at hd0; exact hd0
  unfold jm_if2 at hst
  split at hst
  case h_2 => cases hst
  case h_1 b0 a0 r0 =>
    obtain ⟨R0, rfl, hS0⟩ := jr_S_i hS
    obtain ⟨R1, rfl, hS1⟩ := jr_S_i hS0
    subst hnp
    refine lv_icmp_le hx hb hd ho (fun g => ?_) (fun g => ?_)
    · rw [if_pos g] at hst
      cases hst
      exact k.k0 hI rfl hL hS1
    · rw [if_neg g] at hst
      cases hst
      exact k.k0 hI rfl hL hS1
set_option maxHeartbeats 4000000 in
theorem jr_ifnonnull {off : Int} {np x y z w : Nat} {v : Value} {bs : List Bool} {q : jm_S} (hE : jr_E p c cc nL s args own nm m meth R) (hK : jr_K tx G.2.1 b G.2.2.1 G.2.2.2 sa A s) (hC : jr_cls cl G) (hW : ∀ w ∈ Wd, w ∈ lw_tbl) (he : jm_okb cl tx tb Wd own nm cc nL (pc, .ifnonnull off, np, x, y, z, w, v, bs) = true) (hst : jm_stp G (pc, .ifnonnull off, np, x, y, z, w, v, bs) L st h = some q)
    (hI : jr_I D cl A b sa s h H locs ws tys) (hL : jr_L b sa ws L ls nL) (hS : jr_S b sa ws st S) (hroom : cells + q.2.2.2.2.1 ≤ R.cells + h.2.1 ∧ slots + q.2.2.2.2.2 ≤ R.slots + h.2.2) (k : jr_go p l e R s m args below meth c D cl A nL b sa ws tys h cells slots Q q) : W p l e R s m args below meth c H locs cells slots Q (F0 m pc ls S) := by
  obtain ⟨hx, hb, hml, hts, hown, hnm, hRf, hRl⟩ := hE
  simp only [jm_okb, Bool.and_eq_true, decide_eq_true_eq] at he
  obtain ⟨hd0, hnp, hmk, ho⟩ := he
  simp only [jm_il] at hnp
  simp only [jm_stp] at hst
  have hd : decode cc pc = .ok (.ifnonnull off, 3) := by rw [show np - pc = 3 by omega] at hd0; exact hd0
  split at hst
  case h_1 k0 r0 =>
    cases hst
    obtain ⟨w0, R0, -, rfl, hS0⟩ := jr_S_r hS
    exact lv_ifnonnull hx hb hd ho (k.k0 hI rfl hL hS0)
  case h_2 r0 =>
    cases hst
    obtain ⟨V, R0, rfl, hV, hS0⟩ := jr_S_c hS
    cases (show V = _ from hV)
    subst hnp
    exact lv_ifnonnullN hx hb hd (k.k0 hI rfl hL hS0)
  case h_3 => cases hst
set_option maxHeartbeats 4000000 in
theorem jr_ifnull {off : Int} {np x y z w : Nat} {v : Value} {bs : List Bool} {q : jm_S} (hE : jr_E p c cc nL s args own nm m meth R) (hK : jr_K tx G.2.1 b G.2.2.1 G.2.2.2 sa A s) (hC : jr_cls cl G) (hW : ∀ w ∈ Wd, w ∈ lw_tbl) (he : jm_okb cl tx tb Wd own nm cc nL (pc, .ifnull off, np, x, y, z, w, v, bs) = true) (hst : jm_stp G (pc, .ifnull off, np, x, y, z, w, v, bs) L st h = some q)
    (hI : jr_I D cl A b sa s h H locs ws tys) (hL : jr_L b sa ws L ls nL) (hS : jr_S b sa ws st S) (hroom : cells + q.2.2.2.2.1 ≤ R.cells + h.2.1 ∧ slots + q.2.2.2.2.2 ≤ R.slots + h.2.2) (k : jr_go p l e R s m args below meth c D cl A nL b sa ws tys h cells slots Q q) : W p l e R s m args below meth c H locs cells slots Q (F0 m pc ls S) := by
  obtain ⟨hx, hb, hml, hts, hown, hnm, hRf, hRl⟩ := hE
  simp only [jm_okb, Bool.and_eq_true, decide_eq_true_eq] at he
  obtain ⟨hd0, hnp, hmk, ho⟩ := he
  simp only [jm_il] at hnp
  simp only [jm_stp] at hst
  have hd : decode cc pc = .ok (.ifnull off, 3) := by rw [show np - pc = 3 by omega] at hd0; exact hd0
  split at hst
  case h_1 k0 r0 =>
    cases hst
    obtain ⟨w0, R0, -, rfl, hS0⟩ := jr_S_r hS
    subst hnp
    exact lv_ifnull hx hb hd (k.k0 hI rfl hL hS0)
  case h_2 r0 =>
    cases hst
    obtain ⟨V, R0, rfl, hV, hS0⟩ := jr_S_c hS
    cases (show V = _ from hV)
    exact lv_ifnullN hx hb hd ho (k.k0 hI rfl hL hS0)
  case h_3 => cases hst
end JR
