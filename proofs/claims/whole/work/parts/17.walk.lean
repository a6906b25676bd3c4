/-! the walk, by induction on the fuel -/
section JV
variable {G : jm_G} {tb : List jm_M} {cl : List vw_C} {tx : List String} {l : Launch}
theorem jr_I_back {p : Program} {s : State} {H : Heap} {locs : List Loc} {D : va_G} {A : Nat → Prop} {tys : List (ClassId × FieldType)} {ws ws' : va_W} {b : Nat} {sa : Nat → Nat} {h h1 : jm_H} {st₀ t : State} {H1 : Heap} {L1 : List Loc} (hK : jr_K tx G.2.1 b G.2.2.1 G.2.2.2 sa A s) (hI : jr_I D cl A b sa s h H locs ws tys) (e1 : t.heap = H1) (hvm : s.vm.Alike t.vm) (h0 : st₀.heap = H) (hB : jx_B D cl b sa ws tys H.size h1 t ws') (hF : va_F (va_A ws H.size) st₀ t) (hL1 : ∀ q ∈ L1, va_A ws H.size q.base) :
    ∃ tys', jr_le ws ws' ∧ (∀ q ∈ tys, q ∈ tys') ∧ jr_I D cl A b sa s h1 H1 (locs ++ L1) ws' tys' := by
  obtain ⟨hI1, hI2, hI3, hI4, hI5⟩ := hI
  obtain ⟨tys', g1, g2, k1, k2, k3, k4⟩ := hB
  have hA := jr_A_of hK.1 hI4 hI3
  subst e1
  have hk := (vx_keep (T' := t) h0 rfl hI4 (fun q _ h9 => hA q h9) hA hL1 hF).2.2
  exact ⟨tys', g1, g2, va_K.moved hvm.symm k1, k2, k3.weaken (fun k q hk9 h9 => hA q.1 h9), hk, k4⟩
theorem jm_il3 {i : Instr} (n : Nat) (h : (∃ k, i = .invokevirtual k) ∨ (∃ k, i = .invokestatic k) ∨ ∃ k, i = .invokespecial k) : jm_il i n = 3 := by
  rcases h with ⟨k, rfl⟩ | ⟨k, rfl⟩ | ⟨k, rfl⟩ <;> rfl
theorem jr_catch {p : Program} {e : Env} {R : Room} {s : State} {m : MethodId} {args : Array Value} {below : List Frame} {meth : Method} {c : Code} {H : Heap} {locs : List Loc} {cells slots : Nat} {Q : State → Prop} {ls : Array Slot} {rest : List Value} {A : Nat → Prop} {b : Nat} {sa : Nat → Nat}
    {M : jm_M} {pc E hp : Nat} (hhp : jm_hnd M.2.2.2.2.1 pc E = some hp) (hOk : jx_Ok M c) (hown : s.vm.findClass M.1.cls = some m.cls) (hts : ∀ w ∈ jr_T, w.before args s = true) (hK : jr_K tx G.2.1 b G.2.2.1 G.2.2.2 sa A s) {q9 : Addr} {ce : Cell} (hce : H[q9]? = some ce) (hcv : ce.vm = .none) (hcl : s.vm.findClass (jr_exn E) = some ce.cls)
    (kk : W p l e R s m args below meth c H locs cells slots Q (F0 m hp ls [.ref q9])) : vx_W p l e R s m args below meth c H locs cells slots Q (F0 m pc ls rest) q9 := by
  obtain ⟨-, -, -, -, -, -, -, hCa, hCb, hNc⟩ := hK
  have hca : ∀ k, k < 2 → (Cond.castable (jr_exn k) (jr_exn k)).before args s = true := fun k hk => by
    have : k = 0 ∨ k = 1 := by omega
    rcases this with rfl | rfl
    · exact hCa.use
    · exact hCb.use
  rcases hOk with ⟨h0, -⟩ | ⟨-, hh, htab, ⟨f, t, hp0, k, ct, e1, e2, hk2, hct, hlk⟩ | ⟨f, t, hp0, hp1, ct0, ct1, e1, e2, hct0, hct1, hlk0, hlk1⟩⟩
  · rw [h0] at hhp; cases hhp
  · rw [e1] at hhp
    simp only [jm_hnd] at hhp
    split at hhp
    next hc =>
      obtain ⟨hc1, hc2, rfl⟩ := hc
      cases hhp
      exact vx_catch (own := M.1.cls) (name := jr_exn k) hown [] ⟨f, t, hp, ct⟩ [] (by rw [htab, e2]; rfl) (fun z hz => by cases hz) (by simp [covers, hc1, hc2]) hct (hts _ hlk) (hca k hk2) hce hcv hcl kk
    next => cases hhp
  · rw [e1] at hhp
    simp only [jm_hnd] at hhp
    split at hhp
    next hc =>
      obtain ⟨hc1, hc2, rfl⟩ := hc
      cases hhp
      exact vx_catch (own := M.1.cls) (name := jr_NSE) hown [] ⟨f, t, hp, ct0⟩ [⟨f, t, hp1, ct1⟩] (by rw [htab, e2]; rfl) (fun z hz => by cases hz) (by simp [covers, hc1, hc2]) hct0 (hts _ hlk0) (hca 0 (by decide)) hce hcv hcl kk
    next =>
      split at hhp
      next hc =>
        obtain ⟨hc1, hc2, rfl⟩ := hc
        cases hhp
        refine vx_catch (own := M.1.cls) (name := jr_IAE) hown [⟨f, t, hp0, ct0⟩] ⟨f, t, hp, ct1⟩ [] (by rw [htab, e2]; rfl) (fun z hz => ?_) (by simp [covers, hc1, hc2]) hct1 (hts _ hlk1) (hca 1 (by decide)) hce hcv hcl kk
        rw [List.mem_singleton] at hz
        subst hz
        exact Or.inr ⟨hct0, jr_NSE, hts _ hlk0, hNc⟩
      next => cases hhp
set_option maxHeartbeats 4000000 in
theorem jx_walk (hC : jr_cls cl G) (hcl50 : cl[50]? = none) (hl : l.stackTraces = false) (hT : ∀ M ∈ tb, jr_okM cl tx tb M) : ∀ n, jx_Walk G tb cl tx l n := by
  intro n
  induction n with
  | zero => intro d M pc L st h o h' hok hrun; cases hrun
  | succ n ih =>
    intro d M pc L0 st h o h' hok hrun p e R s m args below meth c H locs cells slots Q ls S D A tys ws b sa hE hR hK hOk hI hL0 hS hroom kE kT kX
    obtain ⟨ee, L, hat, hLeq, hcase⟩ := jm_run_succ hrun
    obtain ⟨hee, hpc⟩ := jm_at_inv hat
    subst hpc
    obtain ⟨-, hnp, hmask⟩ := jr_okM_code hok hee
    have hL : jr_L b sa ws L ls M.2.2.1 := by
      rw [hLeq]
      split
      next => exact hL0
      next h9 => exact hL0.masked (hmask.resolve_left h9)
    have go : ∀ (pc2 : Nat) (L2 : jm_L) (st2 : List Value) (h2 : jm_H), jm_run G tb n d M pc2 L2 st2 h2 = some (o, h') → ∀ (ws' : va_W) (tys' : List (ClassId × FieldType)) (H' : Heap) (locs' : List Loc) (ls' : Array Slot) (S' : List Value) (cells' slots' : Nat), jr_le ws ws' → (∀ t ∈ tys, t ∈ tys') → jr_I D cl A b sa s h2 H' locs' ws' tys' → jr_L b sa ws' L2 ls' M.2.2.1 → jr_S b sa ws' st2 S' → cells' + h.2.1 = cells + h2.2.1 → slots' + h.2.2 = slots + h2.2.2 → W p l e R s m args below meth c H' locs' cells' slots' Q (F0 m pc2 ls' S') := by
      intro pc2 L2 st2 h2 hrest ws' tys' H' locs' ls' S' cells' slots' g1 g2 hI' hL' hS' hc hs
      refine ih d M pc2 L2 st2 h2 o h' hok hrest p e R s m args below meth c H' locs' cells' slots' Q ls' S' D A tys' ws' b sa hE hR hK hOk hI' hL' hS' ⟨by omega, by omega⟩ ?_ ?_ ?_
      · intro ee v st' a1 a2 a3 ws2 tys2 H2 locs2 ls2 S2 cells2 slots2 b1 b2 b3 b4 b5 b6 b7
        exact kE ee v st' a1 a2 a3 ws2 tys2 H2 locs2 ls2 S2 cells2 slots2 (g1.tr b1) (fun t ht => b2 t (g2 t ht)) b3 b4 b5 (by omega) (by omega)
      · intro ee h1 a1 a2 a3 a4 a5 ws2 tys2 H2 locs2 ls2 cells2 slots2 b1 b2 b3 b4 b6 b7
        exact kT ee h1 a1 a2 a3 a4 a5 ws2 tys2 H2 locs2 ls2 cells2 slots2 (g1.tr b1) (fun t ht => b2 t (g2 t ht)) b3 b4 (by omega) (by omega)
      · intro E a1 a2 ws2 tys2 H2 locs2 ls2 pc9 rest9 cells2 slots2 q9 ce b1 b2 b3 b4 b5 b6 b7 b8
        exact kX E a1 a2 ws2 tys2 H2 locs2 ls2 pc9 rest9 cells2 slots2 q9 ce (g1.tr b1) (fun t ht => b2 t (g2 t ht)) b3 (by omega) (by omega) b6 b7 b8
    rcases hcase with ⟨hk0, q, hst, hrest⟩ | ⟨hk5, d', M', o1, h1, hd, htb, c1, c2, c3, c4, hr1, hgo⟩ | ⟨hk6, hM0, hst0, hr⟩ | ⟨v, hret, hr⟩
    · obtain ⟨Wd, hWd, hall⟩ := id hok
      have hmono := jm_run_mono hrest
      dsimp only at hmono
      refine jr_step hE hK hC hcl50 hk0 hWd (hall ee hee).1 hst hI hL hS ⟨by omega, by omega⟩ ?_
      intro ws' tys' H' locs' ls' S' cells' slots' g1 g2 hI' hL' hS' hc hs
      exact go _ _ _ _ hrest ws' tys' H' locs' ls' S' cells' slots' g1 g2 hI' hL' hS' hc hs
    · subst hd
      have hm1 := jm_run_mono hr1
      dsimp only at hm1
      obtain ⟨mc, hmc⟩ : ∃ mc, h1.2.1 = h.2.1 + mc := ⟨h1.2.1 - h.2.1, by omega⟩
      obtain ⟨ms, hms⟩ : ∃ ms, h1.2.2 = h.2.2 + ms := ⟨h1.2.2 - h.2.2, by omega⟩
      have hnp3 : ee.2.2.1 = ee.1 + 3 := by rw [jm_il3 _ (jm_kind5 hk5)] at hnp; exact hnp
      have hm2 : h1.2.1 ≤ h'.2.1 ∧ h1.2.2 ≤ h'.2.2 := by
        rcases hgo with ⟨v, -, h2⟩ | ⟨E, -, -, ⟨hp, -, h2⟩ | ⟨-, h2⟩⟩
        · exact jm_run_mono h2
        · exact jm_run_mono h2
        · cases h2; exact ⟨Nat.le_refl _, Nat.le_refl _⟩
      obtain ⟨-, -, -, t4⟩ := jr_take hS c1
      have hsp : jm_sp ee.2.1 = true → ∃ v, o1 = .inl v := fun h9 => by
        rcases hgo with ⟨v, h2, -⟩ | ⟨E, -, h2, -⟩
        · exact ⟨v, h2⟩
        · rw [h9] at h2; cases h2
      have hrr := jx_runs ih hl hT hcl50 hC (p := p) (e := e) (below := below) (meth := meth) (c := c) (D := D) (cells := cells) (slots := slots) (locs := locs) hok hee hk5 (L := L) htb c1 c2 c3 c4 hr1 hE hR hK hI hL.2.1 hS hmc hms ⟨by omega, by omega⟩ hsp
      have hback : ∀ (v : Option Value) (st₀ t : State) (H1 : Heap) (L1 : List Loc), t.heap = H1 → s.vm.Alike t.vm → st₀.heap = H → jx_Q D cl b sa ws tys H.size o1 h1 (S.take M'.2.2.2.2.2.1).reverse.toArray st₀ (.returned v) t → (∀ q ∈ L1, va_A ws H.size q.base) → W p l e R s m args below meth c H1 (locs ++ L1) (cells + mc) (slots + ms) Q (F0 m (ee.1 + 3) ls (v.toList ++ S.drop M'.2.2.2.2.2.1)) := by
        intro v st₀ t H1 L1 e1 hvm h0 hq hL1
        obtain ⟨⟨v1, V, ws', ho1, hV, hvV, hB⟩, hF⟩ := hq
        cases hV
        obtain ⟨tys', g1, g2, hI'⟩ := jr_I_back (p := p) hK hI e1 hvm h0 hB hF hL1
        rcases hgo with ⟨v2, h2, hrest⟩ | ⟨E, h2, -⟩
        · rw [h2] at ho1
          cases ho1
          rw [hnp3] at hrest
          exact go _ _ _ _ hrest ws' tys' H1 _ ls _ _ _ g1 g2 hI' (hL.mono g1) (hvV.app (t4.mono g1)) (by omega) (by omega)
        · rw [h2] at ho1; cases ho1
      rcases hrr with ⟨-, hr9⟩ | hr9
      · exact jx_callI hr9 hback
      · refine jx_call hr9 ?_ hback
        intro E ce q9 st₀ t H1 L1 e1 hvm h0 hXX hL1 hce hcv hcl
        obtain ⟨⟨k, ws', ho1, rfl, hB⟩, hF⟩ := hXX
        obtain ⟨tys', g1, g2, hI'⟩ := jr_I_back (p := p) hK hI e1 hvm h0 hB hF hL1
        rcases hgo with ⟨v2, h2, hrest⟩ | ⟨E, h2, -, ⟨hp, hhp, hrest⟩ | ⟨hM0, hr⟩⟩
        · rw [h2] at ho1; cases ho1
        · rw [h2] at ho1
          cases ho1
          refine jr_catch hhp hOk hE.2.2.2.2.1 hE.2.2.2.1 hK hce hcv hcl ?_
          exact go _ _ _ _ hrest ws' tys' H1 _ ls _ _ _ g1 g2 hI' (hL.mono g1) ⟨Or.inr ⟨by decide, Or.inr ⟨_, rfl⟩⟩, trivial⟩ (by omega) (by omega)
        · rw [h2] at ho1
          cases ho1
          cases hr
          exact kX _ hM0 rfl ws' tys' H1 _ ls _ _ _ _ q9 ce g1 g2 hI' (by omega) (by omega) hce hcv hcl
    · cases hr
      subst hst0
      cases S with
      | cons => exact hS.elim
      | nil =>
        dsimp only at hroom
        exact kT ee h hee hk6 hM0 rfl rfl ws tys H locs ls cells slots jr_le.rf (fun _ h => h) hI hL.2.1 (by dsimp only; omega) (by dsimp only; omega)
    · cases hr
      exact kE ee v st hee hret rfl ws tys H locs ls S cells slots jr_le.rf (fun _ h => h) hI hL.2.1 hS (by omega) (by omega)
end JV
