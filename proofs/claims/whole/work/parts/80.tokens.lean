/-! TEXT: tokens. -/
def isSg (x : Int32) : Bool := decide (x = 40) || decide (x = 41) || decide (x = 59) || decide (x = 43) || decide (x = 45) || decide (x = 42) || decide (x = 60) || decide (x = 61)
/-- the place of a token, its end, its kind (1 a number, 2 a name, 3 a key, 4 a sign, 5 the end, 6 none), its worth -/
def tkS (t : Nat → Int32) (n b : Nat) : Nat := rn isBl t n b
def tkE (t : Nat → Int32) (n b : Nat) : Nat := if n ≤ tkS t n b then tkS t n b else if isLe (t (tkS t n b)) = true then rn isLe t n (tkS t n b) else if isDi (t (tkS t n b)) = true then rn isDi t n (tkS t n b) else tkS t n b + 1
def tkW (t : Nat → Int32) (n b : Nat) : Nat := ww t (tkS t n b) (tkE t n b - tkS t n b) 12
def tkK (t : Nat → Int32) (n b : Nat) : Nat := if n ≤ tkS t n b then 5 else if isLe (t (tkS t n b)) = true then (if tkW t n b = 12 then 6 else wk (tkW t n b)) else if isDi (t (tkS t n b)) = true then (if tkE t n b - tkS t n b ≤ 4 then 1 else 6) else if isSg (t (tkS t n b)) = true then 4 else 6
def tkV (t : Nat → Int32) (n b : Nat) : Int32 := if isLe (t (tkS t n b)) = true then nI (wv (tkW t n b)) else if isDi (t (tkS t n b)) = true then dv t (tkS t n b) (tkE t n b - tkS t n b) else t (tkS t n b)
/-- the class's number of it -/
def ctk (k : Nat) (v : Int32) : Int32 := if k = 1 then 2 else if k = 2 then v + 3 else if k = 3 then v + 9 else if k = 4 then v else if k = 5 then 1 else 0
theorem ctk_w : ∀ w, w < 13 → nI (wtk w) = ctk (if w = 12 then 6 else wk w) (nI (wv w)) := by decide
theorem wtk_0 : ∀ w, w < 13 → (nI (wtk w) = 0 ↔ w = 12) := by decide
theorem wk_6 : ∀ w, w < 12 → wk w ≠ 6 ∧ wk w ≠ 1 := by decide
section TK
variable {A V : xM} {cu : Value} {nn b : Nat}
theorem c_fail {st : Int32} (h6 : V 95 6 = st) : ∃ V2, fX4_fail A V cu = some (A, V2, cu) ∧ V2 95 5 = 0 ∧ V2 95 2 = (if V 95 2 = -1 then st else V 95 2) ∧ ∀ a j, ¬ (a = 95 ∧ (j = 2 ∨ j = 5)) → V2 a j = V a j := by
  unfold fX4_fail
  by_cases q : V 95 2 = -1
  · rw [if_pos q, if_pos q]
    exact ⟨_, rfl, up2_s _ _ _ _, by rw [up2_n (by omega), up2_s]; exact h6, fun a j h => by rw [up2_n (by omega), up2_n (by omega)]⟩
  · rw [if_neg q, if_neg q]
    exact ⟨_, rfl, up2_s _ _ _ _, by rw [up2_n (by omega)], fun a j h => up2_n (by omega)⟩
/-- what the class's next comes to -/
def cnx (A V : xM) (cu : Value) (nn b : Nat) (r : Option xS) : Prop := ∃ V2, r = some (A, V2, cu) ∧ V2 95 5 = ctk (tkK (A 96) nn b) (tkV (A 96) nn b) ∧ V2 95 6 = nI (tkS (A 96) nn b) ∧ V2 95 7 = nI (tkE (A 96) nn b) ∧ (tkK (A 96) nn b = 1 → V2 95 8 = tkV (A 96) nn b) ∧ V2 95 2 = (if tkK (A 96) nn b = 6 ∧ V 95 2 = -1 then nI (tkS (A 96) nn b) else V 95 2) ∧ ∀ a j, ¬ (a = 95 ∧ (j = 2 ∨ j = 5 ∨ j = 6 ∨ j = 7 ∨ j = 8)) → V2 a j = V a j
theorem c_next (hn : nn ≤ 160) (hb : b ≤ nn) (h1 : V 95 1 = nI nn) (h7 : V 95 7 = nI b) : cnx A V cu nn b (fX4_next A V cu) := by
  obtain ⟨sp, hsp⟩ : ∃ sp, sp = tkS (A 96) nn b := ⟨_, rfl⟩
  obtain ⟨b1, b2, b3, -⟩ := rn_p (q := isBl) (t := A 96) (n := nn) (nn - b) b (by omega)
  have hsp' : rn isBl (A 96) nn b = sp := hsp.symm
  rw [hsp'] at b1 b2 b3
  unfold fX4_next
  obtain ⟨V1, x1, x2, x3⟩ := c_bl (A := A) (cu := cu) hn (fun (A5 V6 : xM) (c7 : Value) => if ((up2 V6 95 6 (V6 95 7)) 95 7) < ((up2 V6 95 6 (V6 95 7)) 95 1) then (bC (xq_in ((up2 V6 95 6 (V6 95 7)) 95 7) 160) (if (A5 96 ((up2 V6 95 6 (V6 95 7)) 95 7).toNatClampNeg) < (97 : Int32) then (if (A5 96 ((up2 V6 95 6 (V6 95 7)) 95 7).toNatClampNeg) < (48 : Int32) then (bS (fX4_readSign A5 (up2 V6 95 6 (V6 95 7)) c7) (fun A13 V14 c15 => some (A13, V14, c15))) else (if (57 : Int32) < (A5 96 ((up2 V6 95 6 (V6 95 7)) 95 7).toNatClampNeg) then (bS (fX4_readSign A5 (up2 V6 95 6 (V6 95 7)) c7) (fun A19 V20 c21 => some (A19, V20, c21))) else (bS (fX4_readNumber A5 (up2 V6 95 6 (V6 95 7)) c7) (fun A24 V25 c26 => some (A24, V25, c26))))) else (if (122 : Int32) < (A5 96 ((up2 V6 95 6 (V6 95 7)) 95 7).toNatClampNeg) then (if (A5 96 ((up2 V6 95 6 (V6 95 7)) 95 7).toNatClampNeg) < (48 : Int32) then (bS (fX4_readSign A5 (up2 V6 95 6 (V6 95 7)) c7) (fun A31 V32 c33 => some (A31, V32, c33))) else (if (57 : Int32) < (A5 96 ((up2 V6 95 6 (V6 95 7)) 95 7).toNatClampNeg) then (bS (fX4_readSign A5 (up2 V6 95 6 (V6 95 7)) c7) (fun A37 V38 c39 => some (A37, V38, c39))) else (bS (fX4_readNumber A5 (up2 V6 95 6 (V6 95 7)) c7) (fun A42 V43 c44 => some (A42, V43, c44))))) else (bS (fX4_readWord A5 (up2 V6 95 6 (V6 95 7)) c7) (fun A47 V48 c49 => some (A47, V48, c49)))))) else (some (A5, (up2 (up2 V6 95 6 (V6 95 7)) 95 5 (1 : Int32)), c7))) (nn - b) b FU V (by omega) (fu_gt (by omega)) h1 h7
  rw [hsp'] at x2
  rw [x1]
  obtain ⟨V', hV'⟩ : ∃ V', V' = up2 V1 95 6 (V1 95 7) := ⟨_, rfl⟩
  rw [← hV']
  have y7 : V' 95 7 = nI sp := by rw [hV', up2_n (by omega)]; exact x2
  have y1 : V' 95 1 = nI nn := by rw [hV', up2_n (by omega), x3 _ _ (by omega)]; exact h1
  have y6 : V' 95 6 = nI sp := by rw [hV', up2_s]; exact x2
  have yo : ∀ a j, ¬ (a = 95 ∧ (j = 6 ∨ j = 7)) → V' a j = V a j := fun a j h => by rw [hV', up2_n (by omega), x3 a j (by omega)]
  have y2 : V' 95 2 = V 95 2 := yo 95 2 (by omega)
  rw [y7, y1]
  by_cases hE : nn ≤ sp
  · have eK : tkK (A 96) nn b = 5 := by unfold tkK; rw [← hsp, if_pos hE]
    have eE : tkE (A 96) nn b = sp := by unfold tkE; rw [← hsp, if_pos hE]
    rw [if_neg (by simp (disch := omega) only [ltI, leI, eqI, tI, tI1, ti_0, ti_1, ti_2, ti_3, ti_4, ti_5, ti_6, ti_7, ti_8, ti_9, ti_10, ti_11, ti_12, ti_14, ti_18, ti_30, ti_39, ti_40, ti_41, ti_45, ti_50, ti_59, ti_97, ti_99, ti_100, ti_122, ti_160, ti_243, ti_255, ti_399, ti_999, ti_1000, ti_1024, ti_99999, tm_1, tm_2, tm_3, tm_4, tm_5, tm_7, tm_11, tm_12, tm_13, tm_14, tm_100, if_pos, if_neg, if_true, if_false, bC_in, bI_s, bS_s, bX_s, bY_s, sO, tC]; omega)]
    refine ⟨_, rfl, by rw [up2_s, eK]; rfl, by rw [up2_n (by omega), y6, ← hsp], by rw [up2_n (by omega), y7, eE], fun z => by rw [eK] at z; omega, by rw [up2_n (by omega), y2, eK, if_neg (fun z => by have := z.1; omega)], fun a j h => by rw [up2_n (by omega), yo a j (by omega)]⟩
  rw [if_pos (by simp (disch := omega) only [ltI, leI, eqI, tI, tI1, ti_0, ti_1, ti_2, ti_3, ti_4, ti_5, ti_6, ti_7, ti_8, ti_9, ti_10, ti_11, ti_12, ti_14, ti_18, ti_30, ti_39, ti_40, ti_41, ti_45, ti_50, ti_59, ti_97, ti_99, ti_100, ti_122, ti_160, ti_243, ti_255, ti_399, ti_999, ti_1000, ti_1024, ti_99999, tm_1, tm_2, tm_3, tm_4, tm_5, tm_7, tm_11, tm_12, tm_13, tm_14, tm_100, if_pos, if_neg, if_true, if_false, bC_in, bI_s, bS_s, bX_s, bY_s, sO, tC]; omega), bC_in ⟨by omega, by decide⟩, tC (show sp < 2 ^ 20 by omega)]
  -- a sign
  have sgn : isLe (A 96 sp) = false → isDi (A 96 sp) = false → cnx A V cu nn b (bS (fX4_readSign A V' cu) (fun A13 V14 c15 => some (A13, V14, c15))) := by
    intro q1 q2
    have eK : tkK (A 96) nn b = if isSg (A 96 sp) = true then 4 else 6 := by unfold tkK; rw [← hsp, if_neg hE, if_neg (by rw [q1]; decide), if_neg (by rw [q2]; decide)]
    have eV : tkV (A 96) nn b = A 96 sp := by unfold tkV; rw [← hsp, if_neg (by rw [q1]; decide), if_neg (by rw [q2]; decide)]
    have eE : tkE (A 96) nn b = sp + 1 := by unfold tkE; rw [← hsp, if_neg hE, if_neg (by rw [q1]; decide), if_neg (by rw [q2]; decide)]
    unfold fX4_readSign
    obtain ⟨V3, hV3⟩ : ∃ V3, V3 = up2 (up2 V' 95 5 (A 96 sp)) 95 7 (nI (sp + 1)) := ⟨_, rfl⟩
    rw [y7, bC_in ⟨by omega, by decide⟩, tC (show sp < 2 ^ 20 by omega), up2_n (show ¬ (95 = 95 ∧ 7 = 5) by omega), y7, nI_1, ← hV3]
    have z5 : V3 95 5 = A 96 sp := by rw [hV3, up2_n (by omega), up2_s]
    have z7 : V3 95 7 = nI (sp + 1) := by rw [hV3, up2_s]
    have z6 : V3 95 6 = nI sp := by rw [hV3, up2_n (by omega), up2_n (by omega)]; exact y6
    have zo : ∀ a j, ¬ (a = 95 ∧ (j = 5 ∨ j = 6 ∨ j = 7)) → V3 a j = V a j := fun a j h => by rw [hV3, up2_n (by omega), up2_n (by omega), yo a j (by omega)]
    rw [z5]
    have yes : isSg (A 96 sp) = true → cnx A V cu nn b (bS (some (A, V3, cu)) (fun A13 V14 c15 => some (A13, V14, c15))) := by
      intro q
      rw [q, if_pos rfl] at eK
      rw [bS_s]
      exact ⟨V3, rfl, by rw [z5, eK, eV]; rfl, by rw [z6, ← hsp], by rw [z7, eE], fun z => by rw [eK] at z; omega, by rw [zo _ _ (by omega), eK, if_neg (fun z => by have := z.1; omega)], fun a j h => zo a j (by omega)⟩
    have no : isSg (A 96 sp) = false → cnx A V cu nn b (bS (bS (fX4_fail A V3 cu) (fun A20 V21 c22 => some (A20, V21, c22))) (fun A13 V14 c15 => some (A13, V14, c15))) := by
      intro q
      rw [q, if_neg (by decide)] at eK
      obtain ⟨V4, g1, g2, g3, g4⟩ := c_fail (A := A) (cu := cu) z6
      rw [g1, bS_s, bS_s]
      refine ⟨V4, rfl, by rw [g2, eK]; rfl, by rw [g4 _ _ (by omega), z6, ← hsp], by rw [g4 _ _ (by omega), z7, eE], fun z => by rw [eK] at z; omega, ?_, fun a j h => by rw [g4 a j (by omega), zo a j (by omega)]⟩
      rw [g3, zo 95 2 (by omega), eK, ← hsp]
      by_cases z : V 95 2 = -1
      · rw [if_pos z, if_pos ⟨rfl, z⟩]
      · rw [if_neg z, if_neg (fun y => z y.2)]
    obtain ⟨x, hx⟩ : ∃ x, x = A 96 sp := ⟨_, rfl⟩
    rw [← hx] at yes no ⊢
    by_cases c1 : x = 40
    · subst c1; exact yes rfl
    by_cases c2 : x = 41
    · subst c2; exact yes rfl
    by_cases c3 : x = 59
    · subst c3; exact yes rfl
    by_cases c4 : x = 43
    · subst c4; exact yes rfl
    by_cases c5 : x = 45
    · subst c5; exact yes rfl
    by_cases c6 : x = 42
    · subst c6; exact yes rfl
    by_cases c7 : x = 60
    · subst c7; exact yes rfl
    by_cases c8 : x = 61
    · subst c8; exact yes rfl
    simp only [if_neg c1, if_neg c2, if_neg c3, if_neg c4, if_neg c5, if_neg c6, if_neg c7, if_neg c8]
    exact no (by unfold isSg; simp [c1, c2, c3, c4, c5, c6, c7, c8])
  -- a number
  have dig : isLe (A 96 sp) = false → isDi (A 96 sp) = true → cnx A V cu nn b (bS (fX4_readNumber A V' cu) (fun A13 V14 c15 => some (A13, V14, c15))) := by
    intro q1 q2
    obtain ⟨e, he⟩ : ∃ e, e = rn isDi (A 96) nn sp := ⟨_, rfl⟩
    obtain ⟨d1, d2, -, -⟩ := rn_p (q := isDi) (t := A 96) (n := nn) (nn - sp) sp (by omega)
    rw [← he] at d1 d2
    have eE : tkE (A 96) nn b = e := by unfold tkE; rw [← hsp, if_neg hE, if_neg (by rw [q1]; decide), if_pos q2, he]
    have eK : tkK (A 96) nn b = if e - sp ≤ 4 then 1 else 6 := by unfold tkK; rw [eE, ← hsp, if_neg hE, if_neg (by rw [q1]; decide), if_pos q2]
    have eV : tkV (A 96) nn b = dv (A 96) sp (e - sp) := by unfold tkV; rw [eE, ← hsp, if_neg (by rw [q1]; decide), if_pos q2]
    unfold fX4_readNumber
    obtain ⟨V3, g1, g2, g3, g4⟩ := c_di (A := A) (cu := cu) hn (s := sp) (fun (A5 V6 : xM) (c7 : Value) => if (((up2 V6 95 5 (2 : Int32)) 95 7) - ((up2 V6 95 5 (2 : Int32)) 95 6)) ≤ (4 : Int32) then (some (A5, (up2 V6 95 5 (2 : Int32)), c7)) else (bS (fX4_fail A5 (up2 V6 95 5 (2 : Int32)) c7) (fun A10 V11 c12 => some (A10, V11, c12)))) (nn - sp) sp FU (up2 V' 95 8 0) (by omega) (Nat.le_refl _) (fu_gt (by omega)) (by rw [up2_n (by omega)]; exact y1) (by rw [up2_n (by omega)]; exact y7) (by rw [up2_s, Nat.sub_self]; rfl)
    rw [← he] at g2 g3
    have z6 : (up2 V3 95 5 (2 : Int32)) 95 6 = nI sp := by rw [up2_n (by omega), g4 _ _ (by omega), up2_n (by omega)]; exact y6
    have zo : ∀ a j, ¬ (a = 95 ∧ (j = 5 ∨ j = 6 ∨ j = 7 ∨ j = 8)) → (up2 V3 95 5 (2 : Int32)) a j = V a j := fun a j h => by rw [up2_n (by omega), g4 a j (by omega), up2_n (by omega), yo a j (by omega)]
    rw [g1, z6, up2_n (show ¬ (95 = 95 ∧ 7 = 5) by omega), g2, nI_sub d1]
    by_cases q : e - sp ≤ 4
    · rw [if_pos (by simp (disch := omega) only [ltI, leI, eqI, tI, tI1, ti_0, ti_1, ti_2, ti_3, ti_4, ti_5, ti_6, ti_7, ti_8, ti_9, ti_10, ti_11, ti_12, ti_14, ti_18, ti_30, ti_39, ti_40, ti_41, ti_45, ti_50, ti_59, ti_97, ti_99, ti_100, ti_122, ti_160, ti_243, ti_255, ti_399, ti_999, ti_1000, ti_1024, ti_99999, tm_1, tm_2, tm_3, tm_4, tm_5, tm_7, tm_11, tm_12, tm_13, tm_14, tm_100, if_pos, if_neg, if_true, if_false, bC_in, bI_s, bS_s, bX_s, bY_s, sO, tC]; omega), bS_s]
      rw [if_pos q] at eK
      exact ⟨_, rfl, by rw [up2_s, eK]; rfl, by rw [z6, ← hsp], by rw [up2_n (by omega), g2, eE], fun _ => by rw [up2_n (by omega), g3, eV], by rw [zo _ _ (by omega), eK, if_neg (fun z => by have := z.1; omega)], fun a j h => zo a j (by omega)⟩
    · rw [if_neg (by simp (disch := omega) only [ltI, leI, eqI, tI, tI1, ti_0, ti_1, ti_2, ti_3, ti_4, ti_5, ti_6, ti_7, ti_8, ti_9, ti_10, ti_11, ti_12, ti_14, ti_18, ti_30, ti_39, ti_40, ti_41, ti_45, ti_50, ti_59, ti_97, ti_99, ti_100, ti_122, ti_160, ti_243, ti_255, ti_399, ti_999, ti_1000, ti_1024, ti_99999, tm_1, tm_2, tm_3, tm_4, tm_5, tm_7, tm_11, tm_12, tm_13, tm_14, tm_100, if_pos, if_neg, if_true, if_false, bC_in, bI_s, bS_s, bX_s, bY_s, sO, tC]; omega)]
      rw [if_neg q] at eK
      obtain ⟨V4, k1, k2, k3, k4⟩ := c_fail (A := A) (cu := cu) z6
      rw [k1, bS_s, bS_s]
      refine ⟨V4, rfl, by rw [k2, eK]; rfl, by rw [k4 _ _ (by omega), z6, ← hsp], by rw [k4 _ _ (by omega), up2_n (by omega), g2, eE], fun z => by rw [eK] at z; omega, ?_, fun a j h => by rw [k4 a j (by omega), zo a j (by omega)]⟩
      rw [k3, zo 95 2 (by omega), eK, ← hsp]
      by_cases z : V 95 2 = -1
      · rw [if_pos z, if_pos ⟨rfl, z⟩]
      · rw [if_neg z, if_neg (fun y => z y.2)]
  have dd : isLe (A 96 sp) = false → cnx A V cu nn b (if A 96 sp < (48 : Int32) then (bS (fX4_readSign A V' cu) (fun A13 V14 c15 => some (A13, V14, c15))) else (if (57 : Int32) < A 96 sp then (bS (fX4_readSign A V' cu) (fun A19 V20 c21 => some (A19, V20, c21))) else (bS (fX4_readNumber A V' cu) (fun A24 V25 c26 => some (A24, V25, c26))))) := by
    intro q
    by_cases c1 : A 96 sp < 48
    · rw [if_pos c1]; exact sgn q (by unfold isDi; rw [decide_eq_true c1]; rfl)
    · rw [if_neg c1]
      by_cases c2 : 57 < A 96 sp
      · rw [if_pos c2]; exact sgn q (by unfold isDi; rw [decide_eq_true c2]; exact Bool.and_false _)
      · rw [if_neg c2]; exact dig q (by unfold isDi; rw [decide_eq_false c1, decide_eq_false c2]; rfl)
  by_cases c1 : A 96 sp < 97
  · rw [if_pos c1]; exact dd (by unfold isLe; rw [decide_eq_true c1]; rfl)
  rw [if_neg c1]
  by_cases c2 : 122 < A 96 sp
  · rw [if_pos c2]; exact dd (by unfold isLe; rw [decide_eq_true c2]; exact Bool.and_false _)
  rw [if_neg c2]
  have q1 : isLe (A 96 sp) = true := by unfold isLe; rw [decide_eq_false c1, decide_eq_false c2]; rfl
  obtain ⟨e, he⟩ : ∃ e, e = rn isLe (A 96) nn sp := ⟨_, rfl⟩
  obtain ⟨d1, d2, -, -⟩ := rn_p (q := isLe) (t := A 96) (n := nn) (nn - sp) sp (by omega)
  rw [← he] at d1 d2
  have eE : tkE (A 96) nn b = e := by unfold tkE; rw [← hsp, if_neg hE, if_pos q1, he]
  obtain ⟨w, hw⟩ : ∃ w, w = tkW (A 96) nn b := ⟨_, rfl⟩
  have hw' : ww (A 96) sp (e - sp) 12 = w := by rw [hw]; unfold tkW; rw [eE, ← hsp]
  have hw13 : w < 13 := by
    rcases ww_s (t := A 96) (a := sp) (len := e - sp) 12 (Nat.le_refl _) with h | h
    · rw [hw'] at h; omega
    · rw [hw'] at h; omega
  have eK : tkK (A 96) nn b = if w = 12 then 6 else wk w := by unfold tkK; rw [← hw, ← hsp, if_neg hE, if_pos q1]
  have eV : tkV (A 96) nn b = nI (wv w) := by unfold tkV; rw [← hw, ← hsp, if_pos q1]
  unfold fX4_readWord
  obtain ⟨V3, g1, g2, g3⟩ := c_le (A := A) (cu := cu) hn (fun (A5 V6 : xM) (c7 : Value) => bI (fX4_wordToken A5 V6) (fun x8 => if ((up2 V6 95 5 x8) 95 5) = 0 then (bS (fX4_fail A5 (up2 V6 95 5 x8) c7) (fun A12 V13 c14 => some (A12, V13, c14))) else (some (A5, (up2 V6 95 5 x8), c7)))) (nn - sp) sp FU V' (by omega) (fu_gt (by omega)) y1 y7
  rw [← he] at g2
  have v6 : V3 95 6 = nI sp := by rw [g3 _ _ (by omega)]; exact y6
  have zo : ∀ x a j, ¬ (a = 95 ∧ (j = 5 ∨ j = 6 ∨ j = 7)) → (up2 V3 95 5 x) a j = V a j := fun x a j h => by rw [up2_n (by omega), g3 a j (by omega), yo a j (by omega)]
  rw [g1, c_word d1 (by omega) v6 g2, bI_s, hw', up2_s]
  by_cases q : w = 12
  · rw [if_pos ((wtk_0 w hw13).mpr q)]
    rw [if_pos q] at eK
    obtain ⟨V4, k1, k2, k3, k4⟩ := c_fail (A := A) (V := up2 V3 95 5 (nI (wtk w))) (cu := cu) (st := nI sp) (by rw [up2_n (by omega)]; exact v6)
    rw [k1, bS_s, bS_s]
    refine ⟨V4, rfl, by rw [k2, eK]; rfl, by rw [k4 _ _ (by omega), up2_n (by omega), v6, ← hsp], by rw [k4 _ _ (by omega), up2_n (by omega), g2, eE], fun z => by rw [eK] at z; omega, ?_, fun a j h => by rw [k4 a j (by omega), zo _ a j (by omega)]⟩
    rw [k3, zo _ 95 2 (by omega), eK, ← hsp]
    by_cases z : V 95 2 = -1
    · rw [if_pos z, if_pos ⟨rfl, z⟩]
    · rw [if_neg z, if_neg (fun y => z y.2)]
  · rw [if_neg (fun z => q ((wtk_0 w hw13).mp z)), bS_s]
    have hk := ctk_w w hw13
    obtain ⟨n6, n1⟩ := wk_6 w (by omega)
    rw [← eK, ← eV] at hk
    rw [if_neg q] at eK
    exact ⟨_, rfl, by rw [up2_s]; exact hk, by rw [up2_n (by omega), v6, ← hsp], by rw [up2_n (by omega), g2, eE], fun z => absurd (eK.symm.trans z) n1, by rw [zo _ _ _ (by omega), eK, if_neg (fun z => n6 z.1)], fun a j h => zo _ a j (by omega)⟩
end TK
