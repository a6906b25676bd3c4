/-! WHERE THE LAW'S LOOP BEGINS: what the constructors leave (printed by wip/whole/gene0.py) -/
def kW : List Nat := [6, 51, 52, 53, 109, 154, 155, 167, 308, 309, 435, 436, 439, 440, 448]
def kI : List (Nat × List Int32) := [(0, [0, 0, 0, 0, 0, 0, 0, 0, 0, (-1)]),
  (1, [0, 0, 0, (-1)]),
  (51, [8, 0, 0, 0, 0, 30, 12]),
  (52, [9, 1, 1, 3, 2]),
  (154, [8, 0, 0, 0, 0, 30, 12]),
  (155, [9, 1, 1, 3, 2]),
  (306, [0, 1]),
  (308, [0, 1, 0, 2, 1, 0, 3, 2, 1, 0, 4, 3, 2, 1, 0, 5, 4, 3, 2, 1, 0, 6, 5, 4, 3, 2, 1, 0, 7, 6, 5, 4, 3, 2, 1, 0, 8, 7, 6, 5, 4, 3, 2, 1, 0, 9, 8, 7, 6, 5, 4, 3, 2, 1, 0, 10, 9, 8, 7, 6, 5, 4, 3, 2, 1, 0, 11, 10, 9, 8, 7, 6, 5, 4, 3, 2, 1, 0, 12, 11, 10, 9, 8, 7, 6, 5, 4, 3, 2, 1]),
  (309, [0, 0, 1, 0, 1, 2, 0, 1, 2, 3, 0, 1, 2, 3, 4, 0, 1, 2, 3, 4, 5, 0, 1, 2, 3, 4, 5, 6, 0, 1, 2, 3, 4, 5, 6, 7, 0, 1, 2, 3, 4, 5, 6, 7, 8, 0, 1, 2, 3, 4, 5, 6, 7, 8, 9, 0, 1, 2, 3, 4, 5, 6, 7, 8, 9, 10, 0, 1, 2, 3, 4, 5, 6, 7, 8, 9, 10, 11, 0, 1, 2, 3, 4, 5, 6, 7, 8, 9, 10, 11, 12]),
  (310, [0, 0, 0, 0, (-1)]),
  (429, [0, 0, 0, 0, (-1)]),
  (432, [0, 0, 0, 0, 0, 0, 0, 0, (-1)]),
  (435, [8, 0, 0, 0, 0, 30, 12, 9, 1, 1, 3, 2]),
  (436, [8, 0, 0, 0, 0, 30, 12, 9, 1, 1, 3, 2])]
def kR : List (Nat × List Nat) := [(0, [1, 3, 107, 156, 163, 167, 306, 428]),
  (1, [2]),
  (3, [4, 53, 54, 61]),
  (4, [5, 51, 52]),
  (5, [0, 6, 7, 29]),
  (7, [8, 9, 10, 11, 12, 13, 14, 15, 16, 17, 18, 19, 20, 21, 22, 23, 24, 25, 26, 27, 28]),
  (29, [30, 31, 32, 33, 34, 35, 36, 37, 38, 39, 40, 41, 42, 43, 44, 45, 46, 47, 48, 49, 50]),
  (53, [65, 72, 79, 86, 93, 100]),
  (54, [0, 55, 56, 57, 58, 59, 0, 60]),
  (61, [0, 62, 63, 64]),
  (65, [0, 66, 67, 68, 69, 70, 0, 71]),
  (72, [0, 73, 74, 75, 76, 77, 0, 78]),
  (79, [0, 80, 81, 82, 83, 84, 0, 85]),
  (86, [0, 87, 88, 89, 90, 91, 0, 92]),
  (93, [0, 94, 95, 96, 97, 98, 0, 99]),
  (100, [0, 101, 102, 103, 104, 105, 0, 106]),
  (107, [108, 154, 155]),
  (108, [0, 109, 110, 132]),
  (110, [111, 112, 113, 114, 115, 116, 117, 118, 119, 120, 121, 122, 123, 124, 125, 126, 127, 128, 129, 130, 131]),
  (132, [133, 134, 135, 136, 137, 138, 139, 140, 141, 142, 143, 144, 145, 146, 147, 148, 149, 150, 151, 152, 153]),
  (156, [0, 157, 158, 159, 160, 161, 0, 162]),
  (163, [0, 164, 165, 166]),
  (167, [168, 214, 260]),
  (168, [0, 169, 170, 192]),
  (170, [171, 172, 173, 174, 175, 176, 177, 178, 179, 180, 181, 182, 183, 184, 185, 186, 187, 188, 189, 190, 191]),
  (192, [193, 194, 195, 196, 197, 198, 199, 200, 201, 202, 203, 204, 205, 206, 207, 208, 209, 210, 211, 212, 213]),
  (214, [0, 215, 216, 238]),
  (216, [217, 218, 219, 220, 221, 222, 223, 224, 225, 226, 227, 228, 229, 230, 231, 232, 233, 234, 235, 236, 237]),
  (238, [239, 240, 241, 242, 243, 244, 245, 246, 247, 248, 249, 250, 251, 252, 253, 254, 255, 256, 257, 258, 259]),
  (260, [0, 261, 262, 284]),
  (262, [263, 264, 265, 266, 267, 268, 269, 270, 271, 272, 273, 274, 275, 276, 277, 278, 279, 280, 281, 282, 283]),
  (284, [285, 286, 287, 288, 289, 290, 291, 292, 293, 294, 295, 296, 297, 298, 299, 300, 301, 302, 303, 304, 305]),
  (306, [307, 0, 322, 323, 324, 325, 350, 375, 376, 0, 0, 0, 377, 402, 427]),
  (307, [308, 309, 310, 313, 314, 315, 0, 0, 316, 319]),
  (310, [0, 0, 0, 0, 0, 0, 0, 0, 0, 0, 311, 312]),
  (316, [0, 317, 318]),
  (319, [0, 320, 321]),
  (325, [326, 327, 328, 329, 330, 331, 332, 333, 334, 335, 336, 337, 338, 339, 340, 341, 342, 343, 344, 345, 346, 347, 348, 349]),
  (350, [351, 352, 353, 354, 355, 356, 357, 358, 359, 360, 361, 362, 363, 364, 365, 366, 367, 368, 369, 370, 371, 372, 373, 374]),
  (377, [378, 379, 380, 381, 382, 383, 384, 385, 386, 387, 388, 389, 390, 391, 392, 393, 394, 395, 396, 397, 398, 399, 400, 401]),
  (402, [403, 404, 405, 406, 407, 408, 409, 410, 411, 412, 413, 414, 415, 416, 417, 418, 419, 420, 421, 422, 423, 424, 425, 426]),
  (428, [429]),
  (429, [0, 0, 0, 0, 0, 0, 0, 0, 0, 0, 430, 431]),
  (432, [0, 433, 0, 0, 0, 0, 0, 0, 0, 434, 435, 436, 437, 438, 439, 440, 0, 0, 0, 0, 441, 442, 443, 444, 445, 446, 447, 448, 0, 0, 449, 450, 0, 451, 452, 0, 0, 453, 454, 455, 456, 0, 0, 0, 0, 0, 0, 0, 0, 0, 0, 0, 0, 0, 0, 0, 457, 0, 0, 0, 0, 458, 0, 459])]
def kRI (a j : Nat) : Int32 := ((kI.lookup a).getD []).getD j 0
def kRR (a j : Nat) : Nat := ((kR.lookup a).getD []).getD j 0
def S0 : fm_S := (kRI, fun _ _ => 0, kRR, 461, 126690)
def kc_n (p : Nat → Bool) : Nat → Bool
  | 0 => true
  | k + 1 => p k && kc_n p k
theorem kc_n_ok {p : Nat → Bool} : ∀ {n : Nat}, kc_n p n = true → ∀ i, i < n → p i = true
  | 0, _, i, hi => absurd hi (Nat.not_lt_zero i)
  | n + 1, h, i, hi => by
    simp only [kc_n, Bool.and_eq_true] at h
    by_cases e : i = n
    · rw [e]; exact h.1
    · exact kc_n_ok h.2 i (by omega)
def kc_f (a : Nat) : Nat → List Nat → List Value → Bool
  | _, [], [] => true
  | j, t :: ts, v :: vs => decide (v = fm_val S0 a j t) && kc_f a (j + 1) ts vs
  | _, _, _ => false
theorem kc_f_ok {a : Nat} : ∀ {ts : List Nat} {vs : List Value} {j : Nat}, kc_f a j ts vs = true → ∀ k t, ts[k]? = some t → vs[k]? = some (fm_val S0 a (j + k) t)
  | [], _, _, _, k, t, h => by simp at h
  | _ :: _, [], _, h, _, _, _ => by simp [kc_f] at h
  | t0 :: ts, v :: vs, j, h, k, t, hk => by
    simp only [kc_f, Bool.and_eq_true, decide_eq_true_eq] at h
    cases k with
    | zero =>
      simp only [List.getElem?_cons_zero, Option.some.injEq] at hk ⊢
      subst hk
      exact h.1
    | succ k =>
      simp only [List.getElem?_cons_succ] at hk ⊢
      rw [kc_f_ok h.2 k t hk, show j + 1 + k = j + (k + 1) by omega]
def kc_ck (a : Nat) (c : jm_C) : Bool := match c with
  | .inl (ci, fs) => decide ((shp a).1 = ci ∧ ci < 60 ∧ fs.length = (shp a).2 ∧ (shp a).2 = (jm_fk ci).length) && kc_f a 0 (jm_fk ci) fs
  | .inr (t, (m, .inl g)) => decide (m = (shp a).2 ∧ ((shp a).1 = 60 ∧ t = .int ∨ (shp a).1 = 61 ∧ t = .byte)) && (if kW.elem a = true then kc_n (fun i => decide (g i = kRI a i)) m else decide ((kI.lookup a).isNone = true))
  | .inr (t, (m, .inr (.inl _))) => decide (m = (shp a).2 ∧ (shp a).1 = 62 ∧ t = .long ∧ kW.elem a = false)
  | .inr (t, (m, .inr (.inr (.inr (.inr g))))) => decide (m = (shp a).2 ∧ 64 ≤ (shp a).1 ∧ (shp a).1 < 99 ∧ t.isReference = true ∧ ((shp a).1 = 64 ∨ (shp a).1 = 65 ∨ (70 ≤ (shp a).1 ∧ t = .object (jm_nam (jm_G0 0 fun _ => 0) ((shp a).1 - 70))))) && kc_n (fun i => decide (g i = if kRR a i = 0 then none else some (kRR a i))) m
  | _ => false
def kc_all : Nat → List jm_C → Bool
  | _, [] => true
  | a, c :: r => kc_ck a c && kc_all (a + 1) r
theorem kc_all_ok : ∀ {l : List jm_C} {a : Nat}, kc_all a l = true → ∀ (k : Nat) (c : jm_C), l[k]? = some c → kc_ck (a + k) c = true
  | [], _, _, k, c, hk => by simp at hk
  | c0 :: l, a, h, k, c, hk => by
    simp only [kc_all, Bool.and_eq_true] at h
    cases k with
    | zero =>
      simp only [List.getElem?_cons_zero, Option.some.injEq] at hk
      subst hk
      exact h.1
    | succ k =>
      simp only [List.getElem?_cons_succ] at hk
      rw [show a + (k + 1) = a + 1 + k by omega]
      exact kc_all_ok h.2 k c hk
theorem kRI_none {a : Nat} (h : (kI.lookup a).isNone = true) (i : Nat) : kRI a i = 0 := by
  unfold kRI
  rw [Option.isNone_iff_eq_none.mp h]
  rfl
theorem kc_ck_ok {Ln : Nat} {xs : Nat → Int32} {a : Nat} {c : jm_C} (h : kc_ck a c = true) (hz : ∀ (t : FieldType) (q : vp_A), a ∉ kW → c = .inr (t, q) → kx_z q) : fm_C (jm_G0 Ln xs) jm_fk S0 a (shp a).1 (shp a).2 c := by
  have hW : ∀ b : Bool, kW.elem a = b → b = false → a ∉ kW := fun b e1 e2 e3 => by
    have := List.elem_iff.mpr e3
    rw [e1, e2] at this
    cases this
  unfold kc_ck at h
  split at h
  next ci fs =>
    simp only [Bool.and_eq_true, decide_eq_true_eq] at h
    obtain ⟨⟨h1, h2, h3, h4⟩, h5⟩ := h
    refine ⟨h1, by omega, h3, h4, fun j t hj => ?_⟩
    have h6 := kc_f_ok h5 j t hj
    rw [Nat.zero_add] at h6
    exact h6
  next t m g =>
    simp only [Bool.and_eq_true, decide_eq_true_eq] at h
    obtain ⟨⟨h1, h2⟩, h3⟩ := h
    have h4 : ∀ i, i < (shp a).2 → g i = gI S0 a i := by
      split at h3
      next hw => exact fun i hi => of_decide_eq_true (kc_n_ok h3 i (by omega))
      next hw =>
        intro i _
        have h5 : g = fun _ => 0 := hz _ _ (hW false (by simpa using hw) rfl) rfl
        rw [h5]
        exact (kRI_none (of_decide_eq_true h3) i).symm
    rcases h2 with ⟨h2, rfl⟩ | ⟨h2, rfl⟩
    · exact ⟨h1, by omega, by omega, Or.inl ⟨h2, rfl, g, rfl, h4⟩⟩
    · exact ⟨h1, by omega, by omega, Or.inr (Or.inl ⟨h2, rfl, g, rfl, h4⟩)⟩
  next t m g =>
    simp only [decide_eq_true_eq] at h
    obtain ⟨h1, h2, rfl, h3⟩ := h
    have h5 : g = fun _ => 0 := hz _ _ (hW false h3 rfl) rfl
    exact ⟨h1, by omega, by omega, Or.inr (Or.inr (Or.inl ⟨h2, rfl, g, rfl, fun i _ => by rw [h5]; rfl⟩))⟩
  next t m g =>
    simp only [Bool.and_eq_true, decide_eq_true_eq] at h
    obtain ⟨⟨h1, h2, h3, h4, h5⟩, h6⟩ := h
    refine ⟨h1, by omega, h3, Or.inr (Or.inr (Or.inr ⟨h2, ?_, h4, g, rfl, fun i hi => of_decide_eq_true (kc_n_ok h6 i (by omega))⟩))⟩
    rcases h5 with h5 | h5 | ⟨h5, h7⟩
    · exact Or.inl h5
    · exact Or.inr (Or.inl h5)
    · exact Or.inr (Or.inr ⟨(shp a).1 - 70, by omega, h7⟩)
  next => cases h
def kLL : jm_L := [some (.float 0), some (.ref (0 : Nat)), some (.ref (432 : Nat)), some (.ref (460 : Nat)), some (.int (Int32.ofNat 0)), none, none, none]
def kck (r : Option (jm_L × List Value × jm_H)) : Bool := match r with
  | some (L, st, h) => decide (L = kLL) && (decide (st = []) && (decide (h.1.length = 461 ∧ h.2 = (461, 126690)) && kc_all 0 h.1))
  | none => false
def kGa : List (String × List Value) := (jm_G0 0 fun _ => 0).1
def kGb : List (List Int32) := (jm_G0 0 fun _ => 0).2.1
theorem kG_e (Ln : Nat) (xs : Nat → Int32) : jm_G0 Ln xs = (kGa, kGb, Ln, xs) := rfl
noncomputable def kx0 : Option (jm_L × List Value × jm_H) := kx_to kW (kGa, kGb, 0, fun _ => 0) jm_tb 23 8000 40 mL_law 0 [some (.float 0), none, none, none, none, none, none, none] [] ([], 0, 0)
set_option maxRecDepth 100000 in
theorem kx_start : kck kx0 = true := by decide +kernel
theorem shp_out {a : Nat} (h : 461 ≤ a) : shp a = (99, 0) := by
  unfold shp
  rw [List.getElem?_eq_none (by rw [show shL.length = 461 by decide +kernel]; exact h)]
  rfl
theorem kck_ok : ∀ {q : Option (jm_L × List Value × jm_H)}, kck q = true → ∃ h : jm_H, q = some (kLL, [], h) ∧ (h.1.length = 461 ∧ h.2 = (461, 126690)) ∧ kc_all 0 h.1 = true
  | none, hk => by cases hk
  | some (L, st, h), hk => by
    unfold kck at hk
    simp only [Bool.and_eq_true, decide_eq_true_eq] at hk
    obtain ⟨rfl, rfl, h1, h3⟩ := hk
    exact ⟨h, rfl, h1, h3⟩
theorem start_h : ∃ h : jm_H, kx0 = some (kLL, [], h) ∧ (h.1.length = 461 ∧ h.2 = (461, 126690)) ∧ kc_all 0 h.1 = true := kck_ok kx_start
theorem start_Z {h : jm_H} (h0 : kx0 = some (kLL, [], h)) (Ln : Nat) (xs : Nat → Int32) : kx_Z kW h.1 ∧ ∀ (m : Nat) (r : jm_O × jm_H), jm_run (kGa, kGb, Ln, xs) jm_tb m 40 mL_law 23 kLL [] h = some r → ∃ N, jm_run (kGa, kGb, Ln, xs) jm_tb N 40 mL_law 0 [some (.float 0), none, none, none, none, none, none, none] [] ([], 0, 0) = some r := by
  unfold kx0 at h0
  exact kx_to_sound Ln xs h0 (fun k t q _ h9 => by simp at h9)
theorem start_R {h : jm_H} (h1 : h.1.length = 461 ∧ h.2 = (461, 126690)) (h3 : kc_all 0 h.1 = true) (g1 : kx_Z kW h.1) (Ln : Nat) (xs : Nat → Int32) : fm_R shp (jm_G0 Ln xs) jm_fk S0 h := by
  refine ⟨fun a ha => ?_, fun a ha => shp_out (by rw [← h1.1]; exact ha), h1.2⟩
  obtain ⟨c, hc⟩ : ∃ c, h.1[a]? = some c := ⟨h.1[a], List.getElem?_eq_getElem ha⟩
  have h4 := kc_all_ok h3 a c hc
  rw [Nat.zero_add] at h4
  exact ⟨c, hc, kc_ck_ok h4 (fun t q hw e => g1 a t q hw (by rw [hc, e]))⟩
/-- from the law's entry to its loop -/
theorem start_run (Ln : Nat) (xs : Nat → Int32) : ∃ h : jm_H, fm_R shp (jm_G0 Ln xs) jm_fk S0 h ∧ ∀ (m : Nat) (r : jm_O × jm_H), jm_run (jm_G0 Ln xs) jm_tb m 40 mL_law 23 kLL [] h = some r → ∃ N, jm_run (jm_G0 Ln xs) jm_tb N 40 mL_law 0 [some (.float 0), none, none, none, none, none, none, none] [] ([], 0, 0) = some r := by
  obtain ⟨h, h0, h1, h3⟩ := start_h
  obtain ⟨g1, g2⟩ := start_Z h0 Ln xs
  refine ⟨h, start_R h1 h3 g1 Ln xs, ?_⟩
  rw [kG_e]
  exact g2
