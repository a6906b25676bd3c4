/-! which references never change; the Tape of the class -/
def fxL : List (Nat × Nat × Nat) := [(0, 0, 1), (0, 1, 3), (0, 2, 107), (0, 3, 156), (0, 4, 163), (0, 5, 167), (0, 6, 306), (0, 7, 428), (1, 0, 2), (3, 0, 4), (3, 1, 53), (3, 2, 54), (3, 3, 61), (4, 0, 5), (4, 1, 51), (4, 2, 52), (5, 1, 6), (5, 2, 7), (5, 3, 29), (7, 0, 8), (7, 1, 9), (7, 2, 10), (7, 3, 11), (7, 4, 12), (7, 5, 13), (7, 6, 14), (7, 7, 15), (7, 8, 16), (7, 9, 17), (7, 10, 18), (7, 11, 19), (7, 12, 20), (7, 13, 21), (7, 14, 22), (7, 15, 23), (7, 16, 24), (7, 17, 25), (7, 18, 26), (7, 19, 27), (7, 20, 28), (29, 0, 30), (29, 1, 31), (29, 2, 32), (29, 3, 33), (29, 4, 34), (29, 5, 35), (29, 6, 36), (29, 7, 37), (29, 8, 38), (29, 9, 39), (29, 10, 40), (29, 11, 41), (29, 12, 42), (29, 13, 43), (29, 14, 44), (29, 15, 45), (29, 16, 46), (29, 17, 47), (29, 18, 48), (29, 19, 49), (29, 20, 50), (53, 0, 65), (53, 1, 72), (53, 2, 79), (53, 3, 86), (53, 4, 93), (53, 5, 100), (54, 1, 55), (54, 2, 56), (54, 3, 57), (54, 4, 58), (54, 5, 59), (54, 7, 60), (61, 1, 62), (61, 2, 63), (61, 3, 64), (65, 1, 66), (65, 2, 67), (65, 3, 68), (65, 4, 69), (65, 5, 70), (65, 7, 71), (72, 1, 73), (72, 2, 74), (72, 3, 75), (72, 4, 76), (72, 5, 77), (72, 7, 78), (79, 1, 80), (79, 2, 81), (79, 3, 82), (79, 4, 83), (79, 5, 84), (79, 7, 85), (86, 1, 87), (86, 2, 88), (86, 3, 89), (86, 4, 90), (86, 5, 91), (86, 7, 92), (93, 1, 94), (93, 2, 95), (93, 3, 96), (93, 4, 97), (93, 5, 98), (93, 7, 99), (100, 1, 101), (100, 2, 102), (100, 3, 103), (100, 4, 104), (100, 5, 105), (100, 7, 106), (107, 0, 108), (107, 1, 154), (107, 2, 155), (108, 1, 109), (108, 2, 110), (108, 3, 132), (110, 0, 111), (110, 1, 112), (110, 2, 113), (110, 3, 114), (110, 4, 115), (110, 5, 116), (110, 6, 117), (110, 7, 118), (110, 8, 119), (110, 9, 120), (110, 10, 121), (110, 11, 122), (110, 12, 123), (110, 13, 124), (110, 14, 125), (110, 15, 126), (110, 16, 127), (110, 17, 128), (110, 18, 129), (110, 19, 130), (110, 20, 131), (132, 0, 133), (132, 1, 134), (132, 2, 135), (132, 3, 136), (132, 4, 137), (132, 5, 138), (132, 6, 139), (132, 7, 140), (132, 8, 141), (132, 9, 142), (132, 10, 143), (132, 11, 144), (132, 12, 145), (132, 13, 146), (132, 14, 147), (132, 15, 148), (132, 16, 149), (132, 17, 150), (132, 18, 151), (132, 19, 152), (132, 20, 153), (156, 1, 157), (156, 2, 158), (156, 3, 159), (156, 4, 160), (156, 5, 161), (156, 7, 162), (163, 1, 164), (163, 2, 165), (163, 3, 166), (167, 0, 168), (167, 1, 214), (167, 2, 260), (168, 1, 169), (168, 2, 170), (168, 3, 192), (170, 0, 171), (170, 1, 172), (170, 2, 173), (170, 3, 174), (170, 4, 175), (170, 5, 176), (170, 6, 177), (170, 7, 178), (170, 8, 179), (170, 9, 180), (170, 10, 181), (170, 11, 182), (170, 12, 183), (170, 13, 184), (170, 14, 185), (170, 15, 186), (170, 16, 187), (170, 17, 188), (170, 18, 189), (170, 19, 190), (170, 20, 191), (192, 0, 193), (192, 1, 194), (192, 2, 195), (192, 3, 196), (192, 4, 197), (192, 5, 198), (192, 6, 199), (192, 7, 200), (192, 8, 201), (192, 9, 202), (192, 10, 203), (192, 11, 204), (192, 12, 205), (192, 13, 206), (192, 14, 207), (192, 15, 208), (192, 16, 209), (192, 17, 210), (192, 18, 211), (192, 19, 212), (192, 20, 213), (214, 1, 215), (214, 2, 216), (214, 3, 238), (216, 0, 217), (216, 1, 218), (216, 2, 219), (216, 3, 220), (216, 4, 221), (216, 5, 222), (216, 6, 223), (216, 7, 224), (216, 8, 225), (216, 9, 226), (216, 10, 227), (216, 11, 228), (216, 12, 229), (216, 13, 230), (216, 14, 231), (216, 15, 232), (216, 16, 233), (216, 17, 234), (216, 18, 235), (216, 19, 236), (216, 20, 237), (238, 0, 239), (238, 1, 240), (238, 2, 241), (238, 3, 242), (238, 4, 243), (238, 5, 244), (238, 6, 245), (238, 7, 246), (238, 8, 247), (238, 9, 248), (238, 10, 249), (238, 11, 250), (238, 12, 251), (238, 13, 252), (238, 14, 253), (238, 15, 254), (238, 16, 255), (238, 17, 256), (238, 18, 257), (238, 19, 258), (238, 20, 259), (260, 1, 261), (260, 2, 262), (260, 3, 284), (262, 0, 263), (262, 1, 264), (262, 2, 265), (262, 3, 266), (262, 4, 267), (262, 5, 268), (262, 6, 269), (262, 7, 270), (262, 8, 271), (262, 9, 272), (262, 10, 273), (262, 11, 274), (262, 12, 275), (262, 13, 276), (262, 14, 277), (262, 15, 278), (262, 16, 279), (262, 17, 280), (262, 18, 281), (262, 19, 282), (262, 20, 283), (284, 0, 285), (284, 1, 286), (284, 2, 287), (284, 3, 288), (284, 4, 289), (284, 5, 290), (284, 6, 291), (284, 7, 292), (284, 8, 293), (284, 9, 294), (284, 10, 295), (284, 11, 296), (284, 12, 297), (284, 13, 298), (284, 14, 299), (284, 15, 300), (284, 16, 301), (284, 17, 302), (284, 18, 303), (284, 19, 304), (284, 20, 305), (306, 0, 307), (306, 2, 322), (306, 3, 323), (306, 4, 324), (306, 5, 325), (306, 6, 350), (306, 7, 375), (306, 8, 376), (306, 12, 377), (306, 13, 402), (306, 14, 427), (307, 0, 308), (307, 1, 309), (307, 2, 310), (307, 3, 313), (307, 4, 314), (307, 5, 315), (310, 10, 311), (310, 11, 312), (316, 1, 317), (316, 2, 318), (319, 1, 320), (319, 2, 321), (325, 0, 326), (325, 1, 327), (325, 2, 328), (325, 3, 329), (325, 4, 330), (325, 5, 331), (325, 6, 332), (325, 7, 333), (325, 8, 334), (325, 9, 335), (325, 10, 336), (325, 11, 337), (325, 12, 338), (325, 13, 339), (325, 14, 340), (325, 15, 341), (325, 16, 342), (325, 17, 343), (325, 18, 344), (325, 19, 345), (325, 20, 346), (325, 21, 347), (325, 22, 348), (325, 23, 349), (350, 0, 351), (350, 1, 352), (350, 2, 353), (350, 3, 354), (350, 4, 355), (350, 5, 356), (350, 6, 357), (350, 7, 358), (350, 8, 359), (350, 9, 360), (350, 10, 361), (350, 11, 362), (350, 12, 363), (350, 13, 364), (350, 14, 365), (350, 15, 366), (350, 16, 367), (350, 17, 368), (350, 18, 369), (350, 19, 370), (350, 20, 371), (350, 21, 372), (350, 22, 373), (350, 23, 374), (377, 0, 378), (377, 1, 379), (377, 2, 380), (377, 3, 381), (377, 4, 382), (377, 5, 383), (377, 6, 384), (377, 7, 385), (377, 8, 386), (377, 9, 387), (377, 10, 388), (377, 11, 389), (377, 12, 390), (377, 13, 391), (377, 14, 392), (377, 15, 393), (377, 16, 394), (377, 17, 395), (377, 18, 396), (377, 19, 397), (377, 20, 398), (377, 21, 399), (377, 22, 400), (377, 23, 401), (402, 0, 403), (402, 1, 404), (402, 2, 405), (402, 3, 406), (402, 4, 407), (402, 5, 408), (402, 6, 409), (402, 7, 410), (402, 8, 411), (402, 9, 412), (402, 10, 413), (402, 11, 414), (402, 12, 415), (402, 13, 416), (402, 14, 417), (402, 15, 418), (402, 16, 419), (402, 17, 420), (402, 18, 421), (402, 19, 422), (402, 20, 423), (402, 21, 424), (402, 22, 425), (402, 23, 426), (428, 0, 429), (429, 10, 430), (429, 11, 431), (432, 1, 433), (432, 9, 434), (432, 10, 435), (432, 11, 436), (432, 12, 437), (432, 13, 438), (432, 14, 439), (432, 15, 440), (432, 20, 441), (432, 21, 442), (432, 22, 443), (432, 23, 444), (432, 24, 445), (432, 25, 446), (432, 26, 447), (432, 27, 448), (432, 30, 449), (432, 31, 450), (432, 33, 451), (432, 34, 452), (432, 37, 453), (432, 38, 454), (432, 39, 455), (432, 40, 456), (432, 56, 457), (432, 61, 458), (432, 63, 459)]
def FX (s : fm_S) : Prop := ∀ q ∈ fxL, gR s q.1 q.2.1 = q.2.2
theorem FX.u {s : fm_S} (h : FX s) (a j b : Nat) (hm : (a, j, b) ∈ fxL) : gR s a j = b := h _ hm
theorem FX.pI {s : fm_S} (h : FX s) {a j : Nat} {v : Int32} : FX (pI s a j v) := fun q hq => h q hq
theorem FX.pJ {s : fm_S} (h : FX s) {a j : Nat} {v : Int64} : FX (pJ s a j v) := fun q hq => h q hq
theorem FX.of {s s' : fm_S} (h : FX s) (e : s'.2.2.1 = s.2.2.1) : FX s' := fun q hq => by
  show s'.2.2.1 q.1 q.2.1 = q.2.2
  rw [e]
  exact h q hq
theorem pI_self {s : fm_S} {a j : Nat} {v : Int32} (h : gI s a j = v) : pI s a j v = s := by
  obtain ⟨I, J, R, n1, n2⟩ := s
  unfold pI
  congr 1
  funext b k
  split
  next hc => obtain ⟨rfl, rfl⟩ := hc; exact h.symm
  next => rfl
theorem pI_pI {s : fm_S} {a j : Nat} {v w : Int32} : pI (pI s a j v) a j w = pI s a j w := by
  obtain ⟨I, J, R, n1, n2⟩ := s
  unfold pI
  congr 1
  funext b k
  dsimp only
  split
  next => rfl
  next hc => rfl
theorem pI_comm {s : fm_S} {a j b k : Nat} {v w : Int32} (h : ¬ (a = b ∧ j = k)) : pI (pI s a j v) b k w = pI (pI s b k w) a j v := by
  obtain ⟨I, J, R, n1, n2⟩ := s
  unfold pI
  congr 1
  funext c i
  dsimp only
  by_cases h1 : c = a ∧ i = j
  · by_cases h2 : c = b ∧ i = k
    · exact absurd ⟨h1.1.symm.trans h2.1, h1.2.symm.trans h2.2⟩ h
    · simp only [if_pos h1, if_neg h2]
  · by_cases h2 : c = b ∧ i = k
    · simp only [if_pos h2, if_neg h1]
    · simp only [if_neg h2, if_neg h1]
/-- a byte as the class has it -/
def cb (n : Nat) : Int32 := if n < 128 then Int32.ofNat n else Int32.ofNat n - Int32.ofNat 256
theorem cb_toInt {n : Nat} (h : n < 256) : (cb n).toInt = if n < 128 then (n : Int) else (n : Int) - 256 := by
  unfold cb
  split
  next => exact n32_toInt (by omega)
  next =>
    rw [Int32.toInt_sub, n32_toInt (by omega), n32_toInt (by decide)]
    rw [Int.bmod_eq_of_le] <;> omega
theorem cb_eq {n k : Nat} (h : n < 256) (hk : k < 128) : (cb n = Int32.ofNat k) = (n = k) := by
  refine propext ⟨fun e => ?_, fun e => ?_⟩
  · have h1 := congrArg Int32.toInt e
    rw [cb_toInt h, n32_toInt (by omega)] at h1
    split at h1 <;> omega
  · subst e
    unfold cb
    rw [if_pos hk]
theorem cb_lt {n k : Nat} (h : n < 256) (hk : k < 128) : (cb n < Int32.ofNat k) = (n < k ∨ 128 ≤ n) := by
  rw [Int32.lt_iff_toInt_lt, cb_toInt h, n32_toInt (by omega)]
  split <;> simp <;> omega
theorem cb_gt {n k : Nat} (h : n < 256) (hk : k < 128) : (Int32.ofNat k < cb n) = (k < n ∧ n < 128) := by
  rw [Int32.lt_iff_toInt_lt, cb_toInt h, n32_toInt (by omega)]
  split <;> simp <;> omega
/-- the first place from a on where no blank stands -/
def skp (B : Nat → Nat) (e a : Nat) : Nat := if h : a < e ∧ B a = 32 then skp B e (a + 1) else a
termination_by e - a
decreasing_by omega
theorem skp_le {B : Nat → Nat} {e a : Nat} (h : a ≤ e) : a ≤ skp B e a ∧ skp B e a ≤ e := by
  rw [skp]
  split
  next hc =>
    have := skp_le (B := B) (e := e) (a := a + 1) (by omega)
    omega
  next => omega
termination_by e - a
theorem skp_skp {B : Nat → Nat} {e a : Nat} : skp B e (skp B e a) = skp B e a := by
  rw [skp.eq_1 B e a]
  split
  next hc => exact skp_skp
  next hc => rw [skp, dif_neg hc]
termination_by e - a
/-- the text that the class reads: bytes, end, place (CU: where its field stands; CT: the field stands behind the blanks at a) -/
def CU (s : fm_S) (B : Nat → Nat) (e a : Nat) : Prop := gI s 1 4 = Int32.ofNat e ∧ gI s 1 5 = Int32.ofNat a ∧ a ≤ e ∧ e ≤ 600 ∧ ∀ i, i < e → gI s 2 i = cb (B i) ∧ B i < 256
theorem CU.at {s : fm_S} {B : Nat → Nat} {e a b : Nat} (h : CU s B e a) (hb : b ≤ e) : CU (pI s 1 5 (Int32.ofNat b)) B e b := by
  obtain ⟨h1, h2, h3, h4, h5⟩ := h
  exact ⟨by simp [gI_pI, h1], by simp [gI_pI], hb, h4, fun i hi => by simp [gI_pI, h5 i hi]⟩
def CT (s : fm_S) (B : Nat → Nat) (e a : Nat) : Prop := gI s 1 4 = Int32.ofNat e ∧ gI s 1 5 = Int32.ofNat (skp B e a) ∧ a ≤ e ∧ e ≤ 600 ∧ ∀ i, i < e → gI s 2 i = cb (B i) ∧ B i < 256
theorem CT.cu {s : fm_S} {B : Nat → Nat} {e a : Nat} (h : CT s B e a) : CU s B e (skp B e a) := ⟨h.1, h.2.1, (skp_le h.2.2.1).2, h.2.2.2.1, h.2.2.2.2⟩
theorem CT.to {s : fm_S} {B : Nat → Nat} {e a b : Nat} (h : CT s B e a) (hb : b ≤ e) : CT (pI s 1 5 (Int32.ofNat (skp B e b))) B e b := by
  obtain ⟨h1, h2, h3, h4, h5⟩ := h
  exact ⟨by simp [gI_pI, h1], by simp [gI_pI], hb, h4, fun i hi => by simp [gI_pI, h5 i hi]⟩
theorem CT.at {s : fm_S} {B : Nat → Nat} {e a b : Nat} (h : CT s B e a) (hb : b ≤ e) (hs : skp B e b = b := by first | assumption | exact skp_skp) : CT (pI s 1 5 (Int32.ofNat b)) B e b := by
  have h9 := h.to hb
  rw [hs] at h9
  exact h9
theorem c9_goLoop {g : fm_g} {d : Nat} {B : Nat → Nat} {e a : Nat} {s : fm_S} (hF : FX s) (hT : CU s B e a) : ev g d mX9_goTo 5 [some (.ref (1 : Nat)), none] [] s = some (.inl none, pI s 1 5 (Int32.ofNat (skp B e a))) := by
  obtain ⟨h1, h2, h3, h4, h5⟩ := id hT
  have r1 := hF.u 1 0 2 (by decide +kernel)
  rw [sX9_goTo_5]
  simp (disch := first | exact jm_lt0 | exact jm_lti | exact jm_ltr | exact jm_ltl | exact jm_lti2 | exact jm_ltri | exact jm_ltir | exact jm_ltrr | exact jm_ltl2 | exact jm_ltrl | exact jm_ltlr | omega | assumption | exact sa_1 | exact sa_2 | exact n32_inA sb_1 (by omega) (by omega) | exact n32_inA sb_2 (by omega) (by omega) | exact bi01 | (rw [sa_1]; omega) | (rw [sa_2]; omega) | decide) only [sX9_goTo_0, sX9_goTo_1, sX9_goTo_2, kX9_goTo_5_AI, sX9_goTo_6, sX9_goTo_9, sX9_goTo_12, sX9_goTo_13, sX9_goTo_16, sX9_goTo_17, sX9_goTo_20, sX9_goTo_23, sX9_goTo_24, sX9_goTo_27, sX9_goTo_28, sX9_goTo_31, sX9_goTo_32, sX9_goTo_35, sX9_goTo_36, sX9_goTo_39, sX9_goTo_40, sX9_goTo_43, sX9_goTo_44, sX9_goTo_46, sX9_goTo_49, sX9_goTo_50, sX9_goTo_51, sX9_goTo_54, sX9_goTo_55, sX9_goTo_56, sX9_goTo_59, kX9_goTo_62_AN, sX9_goTo_62, evK_n, evK_v, evK_x, gI_pI, gJ_pI, gR_pI, gI_pJ, gJ_pJ, gR_pJ, gI_pR, gJ_pR, gR_pR, sa_1, sb_1, sa_2, sb_2, n32_le, n32_lt, n32_add, n32_mul, n32_cl, n32_lt0, if_false, r1, h1, h2]
  rw [skp]
  by_cases c1 : e ≤ a
  · rw [if_pos c1, dif_neg (by omega), pI_self h2]
  · rw [if_neg c1, if_neg (by omega)]
    have hb := h5 a (by omega)
    rw [hb.1]
    by_cases c2 : B a = 32
    · rw [if_neg (by rw [ne_eq, cb_eq hb.2 (by decide)]; omega), dif_pos ⟨by omega, c2⟩]
      rw [c9_goLoop (a := a + 1) hF.pI (hT.at (by omega)), pI_pI]
    · rw [if_pos (by rw [ne_eq, cb_eq hb.2 (by decide)]; exact c2), dif_neg (by omega), pI_self h2]
termination_by e - a
theorem c9_goTo' {g : fm_g} {d : Nat} {B : Nat → Nat} {e b : Nat} {s : fm_S} (hF : FX s) (h1 : gI s 1 4 = Int32.ofNat e) (h4 : e ≤ 600) (h5 : ∀ i, i < e → gI s 2 i = cb (B i) ∧ B i < 256) (hb : b ≤ e) : ev g d mX9_goTo 0 [some (.ref (1 : Nat)), some (.int (Int32.ofNat b))] [] s = some (.inl none, pI s 1 5 (Int32.ofNat (skp B e b))) := by
  have hU : CU (pI s 1 5 (Int32.ofNat b)) B e b := ⟨by simp [gI_pI, h1], by simp [gI_pI], hb, h4, fun i hi => by simp [gI_pI, h5 i hi]⟩
  simp (disch := first | exact jm_lt0 | exact jm_lti | exact jm_ltr | exact jm_ltl | exact jm_lti2 | exact jm_ltri | exact jm_ltir | exact jm_ltrr | exact jm_ltl2 | exact jm_ltrl | exact jm_ltlr | omega | assumption | exact sa_1 | exact n32_inA sb_1 (by omega) (by omega) | exact bi01 | (rw [sa_1]; omega) | decide) only [sX9_goTo_0, sX9_goTo_1, sX9_goTo_2, kX9_goTo_5_AI, sX9_goTo_6, sX9_goTo_9, sX9_goTo_12, sX9_goTo_13, sX9_goTo_16, sX9_goTo_17, sX9_goTo_20, sX9_goTo_23, sX9_goTo_24, sX9_goTo_27, sX9_goTo_28, sX9_goTo_31, sX9_goTo_32, sX9_goTo_35, sX9_goTo_36, sX9_goTo_39, sX9_goTo_40, sX9_goTo_43, sX9_goTo_44, sX9_goTo_46, sX9_goTo_49, sX9_goTo_50, sX9_goTo_51, sX9_goTo_54, sX9_goTo_55, sX9_goTo_56, sX9_goTo_59, kX9_goTo_62_AN, sX9_goTo_62, sa_1, sb_1]
  rw [c9_goLoop hF.pI hU, pI_pI]
theorem c9_goTo {g : fm_g} {d : Nat} {B : Nat → Nat} {e a b : Nat} {s : fm_S} (hF : FX s) (hT : CU s B e a) (hb : b ≤ e) : ev g d mX9_goTo 0 [some (.ref (1 : Nat)), some (.int (Int32.ofNat b))] [] s = some (.inl none, pI s 1 5 (Int32.ofNat (skp B e b))) := by
  exact c9_goTo' hF hT.1 hT.2.2.2.1 hT.2.2.2.2 hb
theorem c9_nextPlaceU {g : fm_g} {d : Nat} {B : Nat → Nat} {e a : Nat} {s : fm_S} (hT : CU s B e a) : ev g d mX9_nextPlace 0 [some (.ref (1 : Nat))] [] s = some (.inl (some (.int (Int32.ofNat a))), s) := by
  simp (disch := first | exact jm_lt0 | exact jm_lti | exact jm_ltr | exact jm_ltl | exact jm_lti2 | exact jm_ltri | exact jm_ltir | exact jm_ltrr | exact jm_ltl2 | exact jm_ltrl | exact jm_ltlr | omega | assumption | exact sa_1 | exact n32_inA sb_1 (by omega) (by omega) | exact bi01 | (rw [sa_1]; omega) | decide) only [sX9_nextPlace_0, sX9_nextPlace_1, sX9_nextPlace_4, sa_1, sb_1, hT.2.1]
theorem c9_nextPlace {g : fm_g} {d : Nat} {B : Nat → Nat} {e a : Nat} {s : fm_S} (_ : FX s) (hT : CT s B e a) : ev g d mX9_nextPlace 0 [some (.ref (1 : Nat))] [] s = some (.inl (some (.int (Int32.ofNat (skp B e a)))), pI s 1 5 (Int32.ofNat (skp B e a))) := by
  rw [pI_self hT.2.1]
  exact c9_nextPlaceU hT.cu
theorem ite_bi {P : Prop} [Decidable P] {s : fm_S} : (if P then (some (.inl (some (.int (Int32.ofNat 1))), s) : Option (jm_O × fm_S)) else some (.inl (some (.int (Int32.ofNat 0))), s)) = some (.inl (some (.int (bi P))), s) := by
  unfold bi
  split <;> rfl
theorem ite_bi' {P : Prop} [Decidable P] {s : fm_S} : (if P then (some (.inl (some (.int (Int32.ofNat 0))), s) : Option (jm_O × fm_S)) else some (.inl (some (.int (Int32.ofNat 1))), s)) = some (.inl (some (.int (bi (¬ P)))), s) := by
  unfold bi
  by_cases h : P <;> simp [h]
theorem bi_t {P : Prop} [Decidable P] (h : P) : bi P = Int32.ofNat 1 := if_pos h
theorem bi_f {P : Prop} [Decidable P] (h : ¬ P) : bi P = Int32.ofNat 0 := if_neg h
theorem c9_isFine {g : fm_g} {d : Nat} {s : fm_S} : ev g d mX9_isFine 0 [some (.ref (1 : Nat))] [] s = some (.inl (some (.int (bi (gI s 1 2 = 0)))), s) := by
  simp (disch := first | exact jm_lt0 | exact jm_lti | exact jm_ltr | exact jm_ltl | exact jm_lti2 | exact jm_ltri | exact jm_ltir | exact jm_ltrr | exact jm_ltl2 | exact jm_ltrl | exact jm_ltlr | omega | assumption | exact sa_1 | exact n32_inA sb_1 (by omega) (by omega) | exact bi01 | (rw [sa_1]; omega) | decide) only [sX9_isFine_0, sX9_isFine_1, sX9_isFine_4, sX9_isFine_7, sX9_isFine_8, kX9_isFine_11_A, sX9_isFine_11, kX9_isFine_12_A, sX9_isFine_12, sa_1, sb_1, ite_bi', ne_eq, Decidable.not_not]
theorem c9_refuse {g : fm_g} {d : Nat} {s : fm_S} {k p : Int32} : ev g d mX9_refuse 0 [some (.ref (1 : Nat)), some (.int k), some (.int p)] [] s = some (.inl none, if gI s 1 2 = 0 then pI (pI s 1 2 k) 1 3 p else s) := by
  simp (disch := first | exact jm_lt0 | exact jm_lti | exact jm_ltr | exact jm_ltl | exact jm_lti2 | exact jm_ltri | exact jm_ltir | exact jm_ltrr | exact jm_ltl2 | exact jm_ltrl | exact jm_ltlr | omega | assumption | exact sa_1 | exact n32_inA sb_1 (by omega) (by omega) | exact bi01 | (rw [sa_1]; omega) | decide) only [sX9_refuse_0, sX9_refuse_1, sX9_refuse_4, sX9_refuse_7, sX9_refuse_8, sX9_refuse_9, sX9_refuse_12, sX9_refuse_13, sX9_refuse_14, kX9_refuse_17_AII, sX9_refuse_17, sa_1, sb_1]
  by_cases h : gI s 1 2 = 0 <;> simp [h]
theorem c9_byteAt {g : fm_g} {d : Nat} {s : fm_S} {p : Nat} (hF : FX s) (hp : p < 600) : ev g d mX9_byteAt 0 [some (.ref (1 : Nat)), some (.int (Int32.ofNat p))] [] s = some (.inl (some (.int (gI s 2 p))), s) := by
  have r1 := hF.u 1 0 2 (by decide +kernel)
  simp (disch := first | exact jm_lt0 | exact jm_lti | exact jm_ltr | exact jm_ltl | exact jm_lti2 | exact jm_ltri | exact jm_ltir | exact jm_ltrr | exact jm_ltl2 | exact jm_ltrl | exact jm_ltlr | omega | assumption | exact sa_1 | exact sa_2 | exact n32_inA sb_1 (by omega) (by omega) | exact n32_inA sb_2 (by omega) (by omega) | exact bi01 | (rw [sa_1]; omega) | (rw [sa_2]; omega) | decide) only [sX9_byteAt_0, sX9_byteAt_1, sX9_byteAt_4, sX9_byteAt_5, sX9_byteAt_6, sX9_byteAt_9, sX9_byteAt_10, sX9_byteAt_13, sX9_byteAt_14, sX9_byteAt_17, sX9_byteAt_18, sX9_byteAt_19, kX9_byteAt_22_AI, sX9_byteAt_22, kX9_byteAt_23_AI, sX9_byteAt_23, sa_1, sb_1, sa_2, sb_2, n32_le, n32_lt, n32_add, n32_mul, n32_cl, n32_lt0, r1, if_false]
  rw [if_neg (by omega)]
theorem c9_isLetter {g : fm_g} {d : Nat} {s : fm_S} {x : Int32} : ev g d mX9_isLetter 0 [some (.int x)] [] s = some (.inl (some (.int (bi (¬ x < Int32.ofNat 97 ∧ ¬ Int32.ofNat 122 < x)))), s) := by
  simp (disch := first | exact jm_lt0 | exact jm_lti | exact jm_ltr | exact jm_ltl | exact jm_lti2 | exact jm_ltri | exact jm_ltir | exact jm_ltrr | exact jm_ltl2 | exact jm_ltrl | exact jm_ltlr | omega | assumption | exact sa_1 | exact n32_inA sb_1 (by omega) (by omega) | exact bi01 | (rw [sa_1]; omega) | decide) only [sX9_isLetter_0, sX9_isLetter_1, sX9_isLetter_3, sX9_isLetter_6, sX9_isLetter_7, sX9_isLetter_9, sX9_isLetter_12, sX9_isLetter_13, kX9_isLetter_16_I, sX9_isLetter_16, kX9_isLetter_17_I, sX9_isLetter_17]
  by_cases h1 : x < Int32.ofNat 97 <;> by_cases h2 : Int32.ofNat 122 < x <;> simp only [h1, h2, bi, if_true, if_false, not_true_eq_false, not_false_eq_true, and_true, true_and, and_false, false_and, and_self, or_true, true_or, or_false, false_or, or_self, ne_eq, Decidable.not_not, Nat.reduceEqDiff, Nat.reduceEqDiff]
theorem c9_isDigit {g : fm_g} {d : Nat} {s : fm_S} {x : Int32} : ev g d mX9_isDigit 0 [some (.int x)] [] s = some (.inl (some (.int (bi (¬ x < Int32.ofNat 48 ∧ ¬ Int32.ofNat 57 < x)))), s) := by
  simp (disch := first | exact jm_lt0 | exact jm_lti | exact jm_ltr | exact jm_ltl | exact jm_lti2 | exact jm_ltri | exact jm_ltir | exact jm_ltrr | exact jm_ltl2 | exact jm_ltrl | exact jm_ltlr | omega | assumption | exact sa_1 | exact n32_inA sb_1 (by omega) (by omega) | exact bi01 | (rw [sa_1]; omega) | decide) only [sX9_isDigit_0, sX9_isDigit_1, sX9_isDigit_3, sX9_isDigit_6, sX9_isDigit_7, sX9_isDigit_9, sX9_isDigit_12, sX9_isDigit_13, kX9_isDigit_16_I, sX9_isDigit_16, kX9_isDigit_17_I, sX9_isDigit_17]
  by_cases h1 : x < Int32.ofNat 48 <;> by_cases h2 : Int32.ofNat 57 < x <;> simp only [h1, h2, bi, if_true, if_false, not_true_eq_false, not_false_eq_true, and_true, true_and, and_false, false_and, and_self, or_true, true_or, or_false, false_or, or_self, ne_eq, Decidable.not_not, Nat.reduceEqDiff, Nat.reduceEqDiff]
/-- a letter, a digit -/
abbrev isL (n : Nat) : Prop := 97 ≤ n ∧ n ≤ 122
abbrev isD (n : Nat) : Prop := 48 ≤ n ∧ n ≤ 57
theorem cb_isL {n : Nat} (h : n < 256) : (¬ cb n < Int32.ofNat 97 ∧ ¬ Int32.ofNat 122 < cb n) = isL n := by
  rw [cb_lt h (by decide), cb_gt h (by decide)]
  exact propext ⟨fun ⟨h1, h2⟩ => by omega, fun ⟨h1, h2⟩ => by omega⟩
theorem cb_isD {n : Nat} (h : n < 256) : (¬ cb n < Int32.ofNat 48 ∧ ¬ Int32.ofNat 57 < cb n) = isD n := by
  rw [cb_lt h (by decide), cb_gt h (by decide)]
  exact propext ⟨fun ⟨h1, h2⟩ => by omega, fun ⟨h1, h2⟩ => by omega⟩
theorem c9_goesOn {g : fm_g} {d : Nat} {B : Nat → Nat} {e a : Nat} {s : fm_S} (_ : FX s) (hT : CT s B e a) (hf : gI s 1 2 = 0) : ev g (d + 1) mX9_goesOn 0 [some (.ref (1 : Nat))] [] s = some (.inl (some (.int (bi (skp B e a < e)))), pI s 1 5 (Int32.ofNat (skp B e a))) := by
  have hk := skp_le (B := B) hT.2.2.1
  have h4 := hT.2.2.2.1
  rw [pI_self hT.2.1]
  simp (disch := first | exact jm_lt0 | exact jm_lti | exact jm_ltr | exact jm_ltl | exact jm_lti2 | exact jm_ltri | exact jm_ltir | exact jm_ltrr | exact jm_ltl2 | exact jm_ltrl | exact jm_ltlr | omega | assumption | exact sa_1 | exact n32_inA sb_1 (by omega) (by omega) | exact bi01 | (rw [sa_1]; omega) | decide) only [sX9_goesOn_0, sX9_goesOn_1, sX9_goesOn_4, sX9_goesOn_7, sX9_goesOn_8, sX9_goesOn_11, sX9_goesOn_12, sX9_goesOn_15, sX9_goesOn_18, sX9_goesOn_19, kX9_goesOn_22_A, sX9_goesOn_22, kX9_goesOn_23_A, sX9_goesOn_23, sa_1, sb_1, n32_le, n32_lt, n32_add, n32_mul, n32_cl, if_true, if_false, not_true_eq_false, not_false_eq_true, and_true, true_and, and_false, false_and, and_self, or_true, true_or, or_false, false_or, or_self, ne_eq, Decidable.not_not, Nat.reduceEqDiff, Nat.reduceEqDiff, hf, hT.1, hT.2.1, ite_bi']
  simp only [Nat.not_le]
theorem c9_goesOn' {g : fm_g} {d : Nat} {s : fm_S} (hf : gI s 1 2 ≠ 0) : ev g (d + 1) mX9_goesOn 0 [some (.ref (1 : Nat))] [] s = some (.inl (some (.int (Int32.ofNat 0))), s) := by
  simp (disch := first | exact jm_lt0 | exact jm_lti | exact jm_ltr | exact jm_ltl | exact jm_lti2 | exact jm_ltri | exact jm_ltir | exact jm_ltrr | exact jm_ltl2 | exact jm_ltrl | exact jm_ltlr | omega | assumption | exact sa_1 | exact n32_inA sb_1 (by omega) (by omega) | exact bi01 | (rw [sa_1]; omega) | decide) only [sX9_goesOn_0, sX9_goesOn_1, sX9_goesOn_4, sX9_goesOn_7, sX9_goesOn_8, sX9_goesOn_11, sX9_goesOn_12, sX9_goesOn_15, sX9_goesOn_18, sX9_goesOn_19, kX9_goesOn_22_A, sX9_goesOn_22, kX9_goesOn_23_A, sX9_goesOn_23, sa_1, sb_1, if_true, if_false, not_true_eq_false, not_false_eq_true, and_true, true_and, and_false, false_and, and_self, or_true, true_or, or_false, false_or, or_self, ne_eq, Decidable.not_not, Nat.reduceEqDiff, Nat.reduceEqDiff, hf]
theorem c9_takeSign {g : fm_g} {d : Nat} {B : Nat → Nat} {e a k : Nat} {s : fm_S} (hF : FX s) (hT : CT s B e a) (hf : gI s 1 2 = 0) (hk : k < 128) : ev g (d + 2) mX9_takeSign 0 [some (.ref (1 : Nat)), some (.int (Int32.ofNat k))] [] s = if skp B e a < e ∧ B (skp B e a) = k then some (.inl (some (.int (Int32.ofNat 1))), pI s 1 5 (Int32.ofNat (skp B e (skp B e a + 1)))) else some (.inl (some (.int (Int32.ofNat 0))), pI s 1 5 (Int32.ofNat (skp B e a))) := by
  have hl := skp_le (B := B) hT.2.2.1
  have h4 := hT.2.2.2.1
  have h2 := hT.2.1
  have hg := fun d => c9_goesOn (g := g) (d := d) hF hT hf
  rw [pI_self h2] at hg ⊢
  by_cases c1 : skp B e a < e
  · have hb := hT.2.2.2.2 _ c1
    have hgo := fun d => c9_goTo (g := g) (d := d) (b := skp B e a + 1) hF hT.cu (by omega)
    simp (disch := first | exact jm_lt0 | exact jm_lti | exact jm_ltr | exact jm_ltl | exact jm_lti2 | exact jm_ltri | exact jm_ltir | exact jm_ltrr | exact jm_ltl2 | exact jm_ltrl | exact jm_ltlr | omega | assumption | exact sa_1 | exact n32_inA sb_1 (by omega) (by omega) | exact bi01 | (rw [sa_1]; omega) | decide) only [sX9_takeSign_0, sX9_takeSign_1, sX9_takeSign_4, sX9_takeSign_7, sX9_takeSign_8, sX9_takeSign_9, sX9_takeSign_12, sX9_takeSign_15, sX9_takeSign_16, kX9_takeSign_19_AI, sX9_takeSign_19, sX9_takeSign_20, kX9_takeSign_21_AI, sX9_takeSign_21, sX9_takeSign_22, sX9_takeSign_23, sX9_takeSign_26, sX9_takeSign_27, sX9_takeSign_28, sX9_takeSign_31, sX9_takeSign_32, evK_n, evK_v, evK_x, gI_pI, gJ_pI, gR_pI, gI_pJ, gJ_pJ, gR_pJ, gI_pR, gJ_pR, gR_pR, sa_1, sb_1, n32_le, n32_lt, n32_add, n32_mul, n32_cl, jm_lt0, jm_lti, jm_ltr, jm_ltl, jm_lti2, jm_ltri, jm_ltir, jm_ltrr, if_true, if_false, not_true_eq_false, not_false_eq_true, and_true, true_and, and_false, false_and, and_self, or_true, true_or, or_false, false_or, or_self, ne_eq, Decidable.not_not, Nat.reduceEqDiff, Nat.reduceEqDiff, hg, bi_eq, c1, h2, c9_byteAt hF (show skp B e a < 600 by omega), hb.1, cb_eq hb.2 hk, hgo]
  · simp (disch := first | exact jm_lt0 | exact jm_lti | exact jm_ltr | exact jm_ltl | exact jm_lti2 | exact jm_ltri | exact jm_ltir | exact jm_ltrr | exact jm_ltl2 | exact jm_ltrl | exact jm_ltlr | omega | assumption | exact sa_1 | exact n32_inA sb_1 (by omega) (by omega) | exact bi01 | (rw [sa_1]; omega) | decide) only [sX9_takeSign_0, sX9_takeSign_1, sX9_takeSign_4, sX9_takeSign_7, sX9_takeSign_8, sX9_takeSign_9, sX9_takeSign_12, sX9_takeSign_15, sX9_takeSign_16, kX9_takeSign_19_AI, sX9_takeSign_19, sX9_takeSign_20, kX9_takeSign_21_AI, sX9_takeSign_21, sX9_takeSign_22, sX9_takeSign_23, sX9_takeSign_26, sX9_takeSign_27, sX9_takeSign_28, sX9_takeSign_31, sX9_takeSign_32, evK_n, evK_v, evK_x, gI_pI, gJ_pI, gR_pI, gI_pJ, gJ_pJ, gR_pJ, gI_pR, gJ_pR, gR_pR, sa_1, sb_1, n32_le, n32_lt, n32_add, n32_mul, n32_cl, jm_lt0, jm_lti, jm_ltr, jm_ltl, jm_lti2, jm_ltri, jm_ltir, jm_ltrr, if_true, if_false, not_true_eq_false, not_false_eq_true, and_true, true_and, and_false, false_and, and_self, or_true, true_or, or_false, false_or, or_self, ne_eq, Decidable.not_not, Nat.reduceEqDiff, Nat.reduceEqDiff, hg, bi_eq, c1]
