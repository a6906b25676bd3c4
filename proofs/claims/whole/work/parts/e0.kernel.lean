/-! A RUN THAT THE KERNEL CAN COMPUTE: the abstract machine's, but that numbers, locals, stack and the cells' row are brought to their last form at each step; arrays are written at the cells W alone, the script isn't read -/
theorem jm_monoF {G : jm_G} {tb : List jm_M} : ∀ {n d : Nat} {M : jm_M} {pc : Nat} {L : jm_L} {st : List Value} {s : jm_H} {r : jm_O × jm_H}, jm_run G tb n d M pc L st s = some r → jm_run G tb (n + 1) d M pc L st s = some r := by
  intro n
  induction n with
  | zero => intro d M pc L st s r hr; cases hr
  | succ n ih =>
    intro d M pc L0 st s r hr
    rw [jm_run] at hr
    rw [jm_run]
    split at hr
    next => cases hr
    next e he =>
    (try rw [he])
    (try dsimp only at hr ⊢)
    generalize (if e.2.2.2.2.2.2.2.2 = [] then L0 else jm_mask e.2.2.2.2.2.2.2.2 L0) = L at hr ⊢
    split at hr
    next hk =>
      (try rw [hk])
      obtain ⟨q, h1, h2⟩ := Option.bind_eq_some_iff.mp hr
      (try dsimp only)
      rw [h1]
      exact ih h2
    next hk =>
      (try rw [hk])
      (try dsimp only)
      split at hr
      next d' M' hM' =>
        (try rw [hM'])
        (try dsimp only)
        split at hr
        next hc =>
          (try rw [if_pos hc])
          split at hr
          next v s1 hrun => (try rw [ih hrun]); exact ih hr
          next E s1 hrun =>
            (try rw [ih hrun])
            (try dsimp only)
            split at hr
            next => cases hr
            next hsp =>
            (try rw [if_neg hsp])
            split at hr
            next hp hhp => (try rw [hhp]); exact ih hr
            next hhp => (try rw [hhp]); exact hr
          next => cases hr
        next => cases hr
      next => cases hr
    next hk => (try rw [hk]); exact hr
    next hk0 hk5 hk6 =>
      exact hr
theorem jm_monoF' {G : jm_G} {tb : List jm_M} {n m d : Nat} {M : jm_M} {pc : Nat} {L : jm_L} {st : List Value} {s : jm_H} {r : jm_O × jm_H} (hnm : n ≤ m) (hr : jm_run G tb n d M pc L st s = some r) : jm_run G tb m d M pc L st s = some r := by
  induction hnm with
  | refl => exact hr
  | step _ ih => exact jm_monoF ih
section KF
variable {β : Type}
def kf_N (n : Nat) (k : Nat → β) : β := match n with
  | 0 => k 0
  | m + 1 => k (m + 1)
def kf_I (x : Int32) (k : Int32 → β) : β := kf_N x.toUInt32.toNat fun n => k (Int32.ofUInt32 (UInt32.ofNat n))
def kf_J (x : Int64) (k : Int64 → β) : β := kf_N x.toUInt64.toNat fun n => k (Int64.ofUInt64 (UInt64.ofNat n))
def kf_V (v : Value) (k : Value → β) : β := match v with
  | .int x => kf_I x fun y => k (.int y)
  | .long x => kf_J x fun y => k (.long y)
  | .ref a => kf_N a fun b => k (.ref b)
  | v => k v
def kf_S : List Value → (List Value → β) → β
  | [], k => k []
  | v :: r, k => kf_V v fun v' => kf_S r fun r' => k (v' :: r')
def kf_L : jm_L → (jm_L → β) → β
  | [], k => k []
  | none :: r, k => kf_L r fun r' => k (none :: r')
  | some v :: r, k => kf_V v fun v' => kf_L r fun r' => k (some v' :: r')
def kf_H : List jm_C → (List jm_C → β) → β
  | [], k => k []
  | .inl o :: r, k => kf_H r fun r' => k (.inl o :: r')
  | .inr o :: r, k => kf_H r fun r' => k (.inr o :: r')
theorem kf_N_e (n : Nat) (k : Nat → β) : kf_N n k = k n := by cases n <;> rfl
theorem kf_I_e (x : Int32) (k : Int32 → β) : kf_I x k = k x := by
  unfold kf_I
  rw [kf_N_e, UInt32.ofNat_toNat]
theorem kf_J_e (x : Int64) (k : Int64 → β) : kf_J x k = k x := by
  unfold kf_J
  rw [kf_N_e, UInt64.ofNat_toNat]
theorem kf_V_e (v : Value) (k : Value → β) : kf_V v k = k v := by
  cases v <;> first | rfl | exact kf_I_e _ _ | exact kf_J_e _ _ | exact kf_N_e _ _
theorem kf_S_e : ∀ (l : List Value) (k : List Value → β), kf_S l k = k l
  | [], _ => rfl
  | v :: r, k => by rw [kf_S, kf_V_e, kf_S_e r]
theorem kf_L_e : ∀ (l : jm_L) (k : jm_L → β), kf_L l k = k l
  | [], _ => rfl
  | none :: r, k => by rw [kf_L, kf_L_e r]
  | some v :: r, k => by rw [kf_L, kf_V_e, kf_L_e r]
theorem kf_H_e : ∀ (l : List jm_C) (k : List jm_C → β), kf_H l k = k l
  | [], _ => rfl
  | .inl _ :: r, k => by rw [kf_H, kf_H_e r]
  | .inr _ :: r, k => by rw [kf_H, kf_H_e r]
end KF
/-- no look at the script; arrays are written at W alone -/
def kx_ok (W : List Nat) (e : jm_I) (st : List Value) : Bool := match e.2.1 with
  | .iaload => match st with
    | .int _ :: .ref _ :: _ => true
    | _ => false
  | .arraylength => match st with
    | .ref _ :: _ => true
    | _ => false
  | .iastore => match st with
    | _ :: _ :: .ref a :: _ => W.elem a
    | _ => false
  | .bastore => match st with
    | _ :: _ :: .ref a :: _ => W.elem a
    | _ => false
  | .lastore => match st with
    | _ :: _ :: .ref a :: _ => W.elem a
    | _ => false
  | .aastore => match st with
    | _ :: _ :: .ref a :: _ => W.elem a
    | _ => false
  | _ => true
/-- does it write cells -/
def kx_wr : Instr → Bool
  | .putfield _ => true
  | .iastore => true
  | .bastore => true
  | .lastore => true
  | .aastore => true
  | .new _ => true
  | .newarray _ => true
  | .anewarray _ => true
  | .multianewarray _ _ => true
  | _ => false
def kx_F {β : Type} (i : Instr) (h : jm_H) (k : jm_H → β) : β := if kx_wr i = true then kf_H h.1 fun l => kf_N h.2.1 fun a => kf_N h.2.2 fun b => k (l, a, b) else k h
theorem kx_F_e {β : Type} (i : Instr) (h : jm_H) (k : jm_H → β) : kx_F i h k = k h := by
  unfold kx_F
  split
  · rw [kf_H_e, kf_N_e, kf_N_e]
  · rfl
def kx_run (W : List Nat) (G : jm_G) (tb : List jm_M) : Nat → Nat → jm_M → Nat → jm_L → List Value → jm_H → Option (jm_O × jm_H)
  | 0, _, _, _, _, _, _ => none
  | n + 1, d, M, pc, L0, st, h => match jm_at M.2.2.2.2.2.2 pc with
    | none => none
    | some e => match (if e.2.2.2.2.2.2.2.2 = [] then L0 else jm_mask e.2.2.2.2.2.2.2.2 L0) with
      | L => match jm_kind e with
        | 0 => if kx_ok W e st = true then match jm_stp G e L st h with
            | none => none
            | some q => kf_N q.1 fun pc' => kf_L q.2.1 fun L' => kf_S q.2.2.1 fun st' => kx_F e.2.1 q.2.2.2 fun h' => kx_run W G tb n d M pc' L' st' h'
          else none
        | 5 => match d, tb[e.2.2.2.1]? with
          | d' + 1, some M' => if M'.2.2.2.2.2.1 ≤ st.length ∧ jm_rcv G h e.2.1 e.2.2.2.2.2.1 (st.take M'.2.2.2.2.2.1).reverse = true ∧ jm_lt (st.drop M'.2.2.2.2.2.1) = true ∧ (jm_lay (st.take M'.2.2.2.2.2.1).reverse).length ≤ M'.2.2.1 then
              match kf_L (jm_ent (st.take M'.2.2.2.2.2.1).reverse M'.2.2.1) fun L' => kx_run W G tb n d' M' 0 L' [] h with
              | some (.inl v, h') => kf_S (v.toList ++ st.drop M'.2.2.2.2.2.1) fun st' => kx_run W G tb n (d' + 1) M e.2.2.1 L st' h'
              | _ => none
            else none
          | _, _ => none
        | 6 => none
        | k => (jm_ret (jm_rz M.2.2.2.1) k st).map fun v => (.inl v, h)
theorem kx_stp {W : List Nat} {a : List (String × List Value)} {b : List (List Int32)} {n n' : Nat} {f f' : Nat → Int32} {e : jm_I} {L : jm_L} {st : List Value} {h : jm_H} (hk : kx_ok W e st = true) : jm_stp (a, b, n, f) e L st h = jm_stp (a, b, n', f') e L st h := by
  obtain ⟨pc, i, np, x, y, z, w, v, bs⟩ := e
  cases i
  case iaload =>
    simp only [kx_ok] at hk
    split at hk
    · rfl
    · cases hk
  case arraylength =>
    simp only [kx_ok] at hk
    split at hk
    · rfl
    · cases hk
  all_goals first
    | rfl
    | (rename_i c0 c1; cases c0 <;> rfl)
    | (rename_i c0; cases c0 <;> rfl)
/-- arrays that were never written hold zeros -/
def kx_z : vp_A → Prop
  | (_, .inl g) => g = fun _ => 0
  | (_, .inr (.inl g)) => g = fun _ => 0
  | _ => True
def kx_Z (W : List Nat) (h : List jm_C) : Prop := ∀ (k : Nat) (t : FieldType) (q : vp_A), k ∉ W → h[k]? = some (.inr (t, q)) → kx_z q
theorem kx_Z.app {W : List Nat} {h l : List jm_C} (g : kx_Z W h) (hl : ∀ c ∈ l, ∀ (t : FieldType) (q : vp_A), c = .inr (t, q) → kx_z q) : kx_Z W (h ++ l) := by
  intro k t q hk hq
  by_cases e : k < h.length
  · rw [List.getElem?_append_left e] at hq
    exact g k t q hk hq
  · rw [List.getElem?_append_right (Nat.le_of_not_lt e)] at hq
    exact hl _ (List.mem_of_getElem? hq) t q rfl
theorem kx_Z.seto {W : List Nat} {h : List jm_C} (g : kx_Z W h) {a : Nat} {o : Nat × List Value} : kx_Z W (h.set a (.inl o)) := by
  intro k t q hk hq
  rw [List.getElem?_set] at hq
  split at hq
  · split at hq
    · cases hq
    · cases hq
  · exact g k t q hk hq
theorem kx_Z.setw {W : List Nat} {h : List jm_C} (g : kx_Z W h) {a : Nat} {c : jm_C} (ha : W.elem a = true) : kx_Z W (h.set a c) := by
  intro k t q hk hq
  have hak : a ≠ k := fun e => hk (by rw [← e]; exact List.elem_iff.mp ha)
  rw [List.getElem?_set_ne hak] at hq
  exact g k t q hk hq
theorem kx_put {W : List Nat} {h h' : jm_H} {a x y : Nat} {v : Value} (hz : kx_Z W h.1) (hp : jm_put h a x y v = some h') : kx_Z W h'.1 := by
  unfold jm_put at hp
  split at hp
  next =>
    split at hp
    next => cases hp; exact hz.seto
    next => cases hp
  next => cases hp
set_option maxHeartbeats 4000000 in
theorem kx_zs {W : List Nat} {G : jm_G} {e : jm_I} {L : jm_L} {st : List Value} {h : jm_H} {q : jm_S} (hk : kx_ok W e st = true) (hz : kx_Z W h.1) (hs : jm_stp G e L st h = some q) : kx_Z W q.2.2.2.1 := by
  by_cases hb : fm_heapy e.2.1 = false
  · rw [jm_stp_blind h hb] at hs
    obtain ⟨q0, -, rfl⟩ := Option.map_eq_some_iff.mp hs
    exact hz
  · obtain ⟨pc, i, np, x, y, z, w, v, bs⟩ := e
    cases i <;> simp only [fm_heapy, not_true_eq_false] at hb
    case getfield =>
      simp only [jm_stp] at hs
      repeat' split at hs
      all_goals first
        | (obtain ⟨u, -, rfl⟩ := Option.map_eq_some_iff.mp hs; exact hz)
        | (cases hs; exact hz)
    case putfield =>
      simp only [jm_stp] at hs
      repeat' split at hs
      all_goals first
        | (obtain ⟨u, hu, rfl⟩ := Option.map_eq_some_iff.mp hs; exact kx_put hz hu)
        | (cases hs; done)
    case iaload =>
      simp only [jm_stp] at hs
      repeat' split at hs
      all_goals first
        | (obtain ⟨u, -, rfl⟩ := Option.map_eq_some_iff.mp hs; exact hz)
        | (cases hs; exact hz)
    case baload =>
      simp only [jm_stp] at hs
      repeat' split at hs
      all_goals first
        | (obtain ⟨u, -, rfl⟩ := Option.map_eq_some_iff.mp hs; exact hz)
        | (cases hs; exact hz)
    case laload =>
      simp only [jm_stp] at hs
      repeat' split at hs
      all_goals first
        | (obtain ⟨u, -, rfl⟩ := Option.map_eq_some_iff.mp hs; exact hz)
        | (cases hs; exact hz)
    case aaload =>
      simp only [jm_stp] at hs
      repeat' split at hs
      all_goals first
        | (obtain ⟨u, -, rfl⟩ := Option.map_eq_some_iff.mp hs; exact hz)
        | (cases hs; exact hz)
    case arraylength =>
      simp only [jm_stp] at hs
      repeat' split at hs
      all_goals first
        | (obtain ⟨u, -, rfl⟩ := Option.map_eq_some_iff.mp hs; exact hz)
        | (cases hs; exact hz)
    case iastore =>
      simp only [jm_stp] at hs
      split at hs
      · rename_i u k a r
        obtain ⟨h', hu, rfl⟩ := Option.map_eq_some_iff.mp hs
        have hW : W.elem a = true := hk
        unfold jm_astI at hu
        repeat' split at hu
        all_goals first
          | (cases hu; exact hz.setw hW)
          | (cases hu; done)
      · cases hs
    case bastore =>
      simp only [jm_stp] at hs
      split at hs
      · rename_i u k a r
        obtain ⟨h', hu, rfl⟩ := Option.map_eq_some_iff.mp hs
        have hW : W.elem a = true := hk
        unfold jm_astI at hu
        repeat' split at hu
        all_goals first
          | (cases hu; exact hz.setw hW)
          | (cases hu; done)
      · cases hs
    case lastore =>
      simp only [jm_stp] at hs
      split at hs
      · rename_i u k a r
        obtain ⟨h', hu, rfl⟩ := Option.map_eq_some_iff.mp hs
        have hW : W.elem a = true := hk
        unfold jm_astL at hu
        repeat' split at hu
        all_goals first
          | (cases hu; exact hz.setw hW)
          | (cases hu; done)
      · cases hs
    case aastore =>
      simp only [jm_stp] at hs
      split at hs
      · rename_i u k a r
        obtain ⟨h', hu, rfl⟩ := Option.map_eq_some_iff.mp hs
        have hW : W.elem a = true := hk
        unfold jm_astR at hu
        repeat' split at hu
        all_goals first
          | (cases hu; exact hz.setw hW)
          | (cases hu; done)
      · cases hs
    case new =>
      simp only [jm_stp] at hs
      cases hs
      exact hz.app (fun c hc t q e => by rw [List.mem_singleton.mp hc] at e; cases e)
    case newarray =>
      rename_i at0
      cases at0 <;> simp only [jm_stp] at hs
      all_goals first
        | (cases hs; done)
        | (repeat' split at hs
           all_goals first
             | (cases hs; exact hz.app (fun c hc t q e => by rw [List.mem_singleton.mp hc] at e; cases e; exact rfl))
             | (cases hs; done))
    case anewarray =>
      simp only [jm_stp] at hs
      repeat' split at hs
      all_goals first
        | (cases hs; exact hz.app (fun c hc t q e => by rw [List.mem_singleton.mp hc] at e; cases e; exact trivial))
        | (cases hs; done)
    case multianewarray =>
      simp only [jm_stp] at hs
      split at hs
      · split at hs
        · cases hs
        · cases hs
          rw [List.append_assoc]
          refine hz.app (fun c hc t q e => ?_)
          rcases List.mem_append.mp hc with hc | hc
          · rw [List.mem_singleton.mp hc] at e; cases e; exact trivial
          · rw [List.eq_of_mem_replicate hc] at e
            split at e
            · cases e; exact rfl
            · cases e; exact rfl
      · cases hs
theorem kx_sound {W : List Nat} {a : List (String × List Value)} {b : List (List Int32)} {n0 : Nat} {f0 : Nat → Int32} {tb : List jm_M} (m0 : Nat) (f1 : Nat → Int32) : ∀ {n d : Nat} {M : jm_M} {pc : Nat} {L : jm_L} {st : List Value} {h : jm_H} {r : jm_O × jm_H}, kx_run W (a, b, n0, f0) tb n d M pc L st h = some r → kx_Z W h.1 → jm_run (a, b, m0, f1) tb n d M pc L st h = some r ∧ kx_Z W r.2.1 := by
  intro n
  induction n with
  | zero => intro d M pc L st h r hr; cases hr
  | succ n ih =>
    intro d M pc L0 st h r hr hz
    rw [kx_run] at hr
    rw [jm_run]
    split at hr
    next => cases hr
    next e he =>
    rw [he]
    dsimp only at hr ⊢
    generalize (if e.2.2.2.2.2.2.2.2 = [] then L0 else jm_mask e.2.2.2.2.2.2.2.2 L0) = L at hr ⊢
    split at hr
    next hk =>
      rw [hk]
      dsimp only
      split at hr
      next hok =>
        split at hr
        next => cases hr
        next q hq =>
          rw [kf_N_e, kf_L_e, kf_S_e, kx_F_e] at hr
          rw [kx_stp (n' := n0) (f' := f0) hok, hq]
          exact ih hr (kx_zs hok hz hq)
      next => cases hr
    next hk =>
      rw [hk]
      dsimp only
      split at hr
      next d' M' hM' =>
        rw [hM']
        dsimp only
        split at hr
        next hc =>
          obtain ⟨c1, c2, c3, c4⟩ := hc
          rw [if_pos ⟨c1, c2, c3, c4⟩]
          rw [kf_L_e] at hr
          split at hr
          next v h1 hrun =>
            obtain ⟨g1, g2⟩ := ih hrun hz
            rw [g1]
            rw [kf_S_e] at hr
            exact ih hr g2
          next => cases hr
        next => cases hr
      next => cases hr
    next hk => cases hr
    next hk0 hk5 hk6 =>
      obtain ⟨v, h1, h2⟩ := Option.map_eq_some_iff.mp hr
      cases h2
      refine ⟨?_, hz⟩
      split
      next h9 => exact absurd h9 hk0
      next h9 => exact absurd h9 hk5
      next h9 => exact absurd h9 hk6
      next => rw [h1]; rfl
/-- .. up to a place in the first method -/
def kx_to (W : List Nat) (G : jm_G) (tb : List jm_M) (tgt : Nat) : Nat → Nat → jm_M → Nat → jm_L → List Value → jm_H → Option (jm_L × List Value × jm_H)
  | 0, _, _, _, _, _, _ => none
  | n + 1, d, M, pc, L0, st, h => if pc = tgt then some (L0, st, h) else match jm_at M.2.2.2.2.2.2 pc with
    | none => none
    | some e => match (if e.2.2.2.2.2.2.2.2 = [] then L0 else jm_mask e.2.2.2.2.2.2.2.2 L0) with
      | L => match jm_kind e with
        | 0 => if kx_ok W e st = true then match jm_stp G e L st h with
            | none => none
            | some q => kf_N q.1 fun pc' => kf_L q.2.1 fun L' => kf_S q.2.2.1 fun st' => kx_F e.2.1 q.2.2.2 fun h' => kx_to W G tb tgt n d M pc' L' st' h'
          else none
        | 5 => match d, tb[e.2.2.2.1]? with
          | d' + 1, some M' => if M'.2.2.2.2.2.1 ≤ st.length ∧ jm_rcv G h e.2.1 e.2.2.2.2.2.1 (st.take M'.2.2.2.2.2.1).reverse = true ∧ jm_lt (st.drop M'.2.2.2.2.2.1) = true ∧ (jm_lay (st.take M'.2.2.2.2.2.1).reverse).length ≤ M'.2.2.1 then
              match kf_L (jm_ent (st.take M'.2.2.2.2.2.1).reverse M'.2.2.1) fun L' => kx_run W G tb n d' M' 0 L' [] h with
              | some (.inl v, h') => kf_S (v.toList ++ st.drop M'.2.2.2.2.2.1) fun st' => kx_to W G tb tgt n (d' + 1) M e.2.2.1 L st' h'
              | _ => none
            else none
          | _, _ => none
        | _ => none
theorem kx_to_sound {W : List Nat} {a : List (String × List Value)} {b : List (List Int32)} {n0 : Nat} {f0 : Nat → Int32} {tb : List jm_M} {tgt : Nat} (m0 : Nat) (f1 : Nat → Int32) : ∀ {n d : Nat} {M : jm_M} {pc : Nat} {L : jm_L} {st : List Value} {h : jm_H} {L' : jm_L} {st' : List Value} {h' : jm_H}, kx_to W (a, b, n0, f0) tb tgt n d M pc L st h = some (L', st', h') → kx_Z W h.1 → kx_Z W h'.1 ∧ ∀ (m : Nat) (r : jm_O × jm_H), jm_run (a, b, m0, f1) tb m d M tgt L' st' h' = some r → ∃ N, jm_run (a, b, m0, f1) tb N d M pc L st h = some r := by
  intro n
  induction n with
  | zero => intro d M pc L st h L' st' h' hr; cases hr
  | succ n ih =>
    intro d M pc L0 st h L' st' h' hr hz
    rw [kx_to] at hr
    split at hr
    next hp =>
      cases hr
      subst hp
      exact ⟨hz, fun m r h1 => ⟨m, h1⟩⟩
    next hp =>
    split at hr
    next => cases hr
    next e he =>
    dsimp only at hr
    generalize hLe : (if e.2.2.2.2.2.2.2.2 = [] then L0 else jm_mask e.2.2.2.2.2.2.2.2 L0) = L at hr
    split at hr
    next hk =>
      split at hr
      next hok =>
        split at hr
        next => cases hr
        next q hq =>
          rw [kf_N_e, kf_L_e, kf_S_e, kx_F_e] at hr
          obtain ⟨g1, g2⟩ := ih hr (kx_zs hok hz hq)
          refine ⟨g1, fun m r h1 => ?_⟩
          obtain ⟨N, hN⟩ := g2 m r h1
          refine ⟨N + 1, ?_⟩
          rw [jm_run, he]
          dsimp only
          rw [hLe, hk]
          dsimp only
          rw [kx_stp (n' := n0) (f' := f0) hok, hq]
          exact hN
      next => cases hr
    next hk =>
      split at hr
      next d' M' hM' =>
        split at hr
        next hc =>
          rw [kf_L_e] at hr
          split at hr
          next v h1 hrun =>
            obtain ⟨k1, k2⟩ := kx_sound m0 f1 hrun hz
            rw [kf_S_e] at hr
            obtain ⟨g1, g2⟩ := ih hr k2
            refine ⟨g1, fun m r h2 => ?_⟩
            obtain ⟨N, hN⟩ := g2 m r h2
            refine ⟨max n N + 1, ?_⟩
            obtain ⟨c1, c2, c3, c4⟩ := hc
            rw [jm_run, he]
            dsimp only
            rw [hLe, hk, hM']
            dsimp only
            rw [if_pos ⟨c1, c2, c3, c4⟩, jm_monoF' (Nat.le_max_left n N) k1]
            exact jm_monoF' (Nat.le_max_right n N) hN
          next => cases hr
        next => cases hr
      next => cases hr
    next => cases hr
