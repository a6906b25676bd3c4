/-! the invariant holds where the law's loop begins -/
def kw : WD := (fun i => [8, 0, 0, 0, 0, 30, 12, 0].getD i 0, fun i => [9, 1, 1, 3, 2].getD i 0, 0, fun _ => 0, fun _ => 0, fun _ => (0, fun _ => 0, fun _ => 0, fun _ => 0, fun _ => 0, fun _ => 0, fun _ => 0, 0), 0, fun _ => (0, 0, 0))
def kG : GS := (fun _ => 0, 0, -1, 0, 0, (0, fun _ => (0, fun _ => 0, fun _ => 0)), 0, fun _ => (0, fun _ => (0, fun _ => 0, fun _ => 0)))
theorem k_z {a : Nat} (h : (kI.lookup a).isNone = true) (j : Nat) : gI S0 a j = Int32.ofNat 0 := kRI_none h j
theorem k_J (a j : Nat) : gJ S0 a j = Int64.ofNat 0 := rfl
theorem k_FX : FX S0 := by
  intro q hq
  have h : (fxL.all fun q => decide (kRR q.1 q.2.1 = q.2.2)) = true := by decide +kernel
  exact of_decide_eq_true (List.all_eq_true.mp h q hq)
theorem k_TB : TB S0 := by
  intro r hr
  have h : kc_n (fun r => decide (kRI 308 r = Int32.ofNat (cP r)) && decide (kRI 309 r = Int32.ofNat (dP r))) 91 = true := by decide +kernel
  have h2 := kc_n_ok h r hr
  simp only [Bool.and_eq_true, decide_eq_true_eq] at h2
  exact h2
theorem k_CL {a : Nat} (h : (kI.lookup a).isNone = true) : CL S0 a [] (fun _ => 0) :=
  ⟨k_z h 0, List.nodup_nil, fun k hk => absurd hk List.not_mem_nil, fun i k hk => by simp at hk, fun k _ => ⟨k_J _ _, (show 0 < BIG from by decide), ⟨fun h9 => absurd h9 List.not_mem_nil, fun h9 => absurd rfl h9⟩⟩⟩
theorem k_OS : OS S0 (fun _ => 0) :=
  ⟨316, 319, [], ⟨by decide +kernel, by decide +kernel, by decide, by decide, by decide⟩, k_CL (by decide +kernel), k_CL (by decide +kernel)⟩
theorem k_HC (p : Nat) (hp : p < 7) : HC S0 (hcl p) (wH kw p) := by
  have h : kc_n (fun p => (kI.lookup (hcl p)).isNone) 7 = true := by decide +kernel
  have h2 := kc_n_ok h p hp
  exact ⟨k_z h2 0, k_z h2 6, fun i hi => absurd hi (Nat.not_lt_zero i), fun i hi => absurd hi (Nat.not_lt_zero i)⟩
theorem k_CW : CW S0 kw := by
  have h1 : kc_n (fun i => decide (kRI 51 i = Int32.ofNat (wT kw i))) 8 = true := by decide +kernel
  have h2 : kc_n (fun i => decide (kRI 52 i = Int32.ofNat (wP kw i))) 5 = true := by decide +kernel
  exact ⟨fun i hi => of_decide_eq_true (kc_n_ok h1 i hi), fun i hi => of_decide_eq_true (kc_n_ok h2 i hi), ⟨0, k_z (by decide +kernel) 0, by omega, k_z (by decide +kernel) 0, Nat.zero_le _, fun v hv => absurd hv (Nat.not_lt_zero v)⟩, k_HC, k_z (by decide +kernel) 0, fun i hi => absurd hi (Nat.not_lt_zero i)⟩
theorem k_wOK : wOK kw := by
  have h1 : 1 ≤ wT kw 0 ∧ wT kw 0 ≤ 12 ∧ wT kw 1 + wT kw 2 ≤ wT kw 0 ∧ wT kw 3 ≤ 1 ∧ wT kw 4 ≤ 16 ∧ 1 ≤ wT kw 5 ∧ wT kw 5 ≤ 99 ∧ wT kw 6 ≤ 16 ∧ wT kw 7 ≤ 6 := by decide
  have h2 : kc_n (fun i => decide (wP kw i ≤ 99)) 5 = true := by decide +kernel
  refine ⟨h1, fun i hi => of_decide_eq_true (kc_n_ok h2 i hi), Nat.zero_le _, fun v hv => absurd hv (Nat.not_lt_zero v), fun p _ => ⟨Nat.zero_le _, Nat.zero_le _, fun i hi => absurd hi (Nat.not_lt_zero i), fun i hi => absurd hi (Nat.not_lt_zero i)⟩, Nat.zero_le _, fun i hi => absurd hi (Nat.not_lt_zero i)⟩
theorem k_no1 {x : Int32} (h : x = Int32.ofNat 0) (h2 : x = Int32.ofNat 1) : False := by
  rw [h] at h2
  revert h2
  decide
theorem k_LG : LG S0 kw 1 :=
  ⟨by decide +kernel, ⟨by omega, by omega⟩, fun i _ => ⟨0, by omega, k_z (by decide +kernel) i⟩, ⟨0, by omega, by decide +kernel⟩, fun ch de _ h => (k_no1 (k_z (by decide +kernel) _) h).elim, fun h => (k_no1 (k_z (by decide +kernel) _) h).elim, fun h => (k_no1 (show gI S0 306 11 = Int32.ofNat 0 by decide +kernel) h).elim⟩
theorem k_pq (q : Nat) : Int64.ofNat 0 = Int64.ofNat (pq (fun _ => 0) q) := by
  unfold pq
  split <;> rfl
theorem k_CG : CG S0 kG :=
  ⟨by decide +kernel, fun i hi => absurd hi (Nat.not_lt_zero i), ⟨k_z (by decide +kernel) 0, fun k hk => ⟨k_z (by decide +kernel) k, fun v hv => absurd hv (Nat.not_lt_zero v)⟩⟩, by decide +kernel, fun i hi => absurd hi (Nat.not_lt_zero i), by decide +kernel, by decide +kernel, by decide +kernel⟩
theorem k_HM (p : Nat) : HM S0 p (wH kw p) := ⟨k_z (by decide +kernel) p, fun i hi => absurd hi (Nat.not_lt_zero i), fun i hi => absurd hi (Nat.not_lt_zero i)⟩
theorem k_MW : MW S0 kw := by
  have h1 : kc_n (fun i => decide (kRI 436 i = Int32.ofNat (wT kw i))) 7 = true := by decide +kernel
  have h2 : kc_n (fun i => decide (kRI 436 (7 + i) = Int32.ofNat (wP kw i))) 5 = true := by decide +kernel
  exact ⟨fun i hi => of_decide_eq_true (kc_n_ok h1 i hi), fun i hi => of_decide_eq_true (kc_n_ok h2 i hi), by decide +kernel, ⟨by decide +kernel, Nat.zero_le _, fun v hv => absurd hv (Nat.not_lt_zero v)⟩, fun p _ => k_HM p, by decide +kernel, fun i hi => absurd hi (Nat.not_lt_zero i)⟩
theorem k_MG : MG S0 kG :=
  ⟨by decide +kernel, fun i hi => absurd hi (Nat.not_lt_zero i), ⟨by decide +kernel, fun k hk => absurd hk (Nat.not_lt_zero k)⟩, by decide +kernel, fun i hi => absurd hi (Nat.not_lt_zero i), by decide +kernel, k_z (by decide +kernel) 0, k_z (by decide +kernel) 1⟩
theorem k_OMx : OMx S0 :=
  ⟨[], fun _ => 0, ⟨by decide +kernel, List.nodup_nil, fun k hk => absurd hk List.not_mem_nil, fun i k hk => by simp at hk, fun q _ => (k_J _ _).trans (k_pq q), fun k _ => ⟨(show 0 < BIG from by decide), fun h => absurd rfl h⟩⟩, ⟨by decide +kernel, List.nodup_nil, fun k hk => absurd hk List.not_mem_nil, fun i k hk => by simp at hk, fun q _ => (k_J _ _).trans (k_pq q), fun k _ => ⟨(show 0 < BIG from by decide), ⟨fun h => absurd h List.not_mem_nil, fun h => absurd rfl h⟩⟩⟩⟩
theorem k_pgOK : pgOK (0, fun _ => 0, fun _ => 0) := ⟨Nat.zero_le _, fun v hv => absurd hv (Nat.not_lt_zero v)⟩
theorem k_GOK : GOK kw kG := ⟨Nat.zero_le _, fun i hi => absurd hi (Nat.not_lt_zero i), ⟨Nat.zero_le _, fun _ _ => k_pgOK⟩, Nat.zero_le _, fun i hi => absurd hi (Nat.not_lt_zero i), rfl⟩
theorem k_Inv : Inv 0 S0 S0 := ⟨kw, kG, 1, ⟨⟨k_FX, ⟨k_TB, _, k_OS⟩, k_CW, k_wOK, k_LG⟩, k_CG⟩, ⟨k_FX, k_OMx, k_MW, k_MG⟩, k_GOK, k_wOK, by omega⟩
