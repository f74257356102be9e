/-! TEXT: tokens, the reference. -/
section TR
variable {A V : xM} {cu : Value} {nn b : Nat}
/-- what the reference's next comes to -/
def rnx (A V : xM) (cu : Value) (nn b : Nat) (r : Option xS) : Prop := ∃ V2, r = some (A, V2, cu) ∧ V2 132 20 = nI (tkK (A 143) nn b) ∧ V2 132 22 = nI (tkS (A 143) nn b) ∧ V2 132 19 = nI (tkE (A 143) nn b) ∧ (tkK (A 143) nn b < 5 → V2 132 21 = tkV (A 143) nn b) ∧ ∀ a j, ¬ (a = 132 ∧ (j = 19 ∨ j = 20 ∨ j = 21 ∨ j = 22)) → V2 a j = V a j
theorem r_bl' {P : Option xS → Prop} (hn : nn ≤ 160) (ex : xM → xM → Value → Option xS) (hb : b ≤ nn) (h1 : V 132 14 = nI nn) (h7 : V 132 19 = nI b) (h : ∀ V2 : xM, V2 132 19 = nI (rn isBl (A 143) nn b) → (∀ a j, ¬ (a = 132 ∧ j = 19) → V2 a j = V a j) → P (ex A V2 cu)) : P (fX9_next_L0 ex FU A V cu) := by
  obtain ⟨V1, x1, x2, x3⟩ := r_bl (A := A) (cu := cu) hn ex (nn - b) b FU V (by omega) (fu_gt (by omega)) h1 h7
  rw [x1]
  exact h V1 x2 x3
theorem r_next (hL : lets A) (hn : nn ≤ 160) (hb : b ≤ nn) (h1 : V 132 14 = nI nn) (h7 : V 132 19 = nI b) : rnx A V cu nn b (fX9_next A V cu) := by
  obtain ⟨sp, hsp⟩ : ∃ sp, sp = tkS (A 143) nn b := ⟨_, rfl⟩
  obtain ⟨b1, b2, b3, -⟩ := rn_p (q := isBl) (t := A 143) (n := nn) (nn - b) b (by omega)
  have hsp' : rn isBl (A 143) nn b = sp := hsp.symm
  rw [hsp'] at b1 b2 b3
  unfold fX9_next
  refine r_bl' (P := rnx A V cu nn b) hn _ hb h1 h7 (fun V1 x2 x3 => ?_)
  rw [hsp'] at x2
  obtain ⟨V', hV'⟩ : ∃ V', V' = up2 V1 132 22 (V1 132 19) := ⟨_, rfl⟩
  rw [← hV']
  have y7 : V' 132 19 = nI sp := by rw [hV', up2_n (by omega)]; exact x2
  have y1 : V' 132 14 = nI nn := by rw [hV', up2_n (by omega), x3 _ _ (by omega)]; exact h1
  have y6 : V' 132 22 = nI sp := by rw [hV', up2_s]; exact x2
  have yo : ∀ a j, ¬ (a = 132 ∧ (j = 19 ∨ j = 22)) → V' a j = V a j := fun a j h => by rw [hV', up2_n (by omega), x3 a j (by omega)]
  rw [y7, y1]
  by_cases hE : nn ≤ sp
  · have eK : tkK (A 143) nn b = 5 := by unfold tkK; rw [← hsp, if_pos hE]
    have eE : tkE (A 143) nn b = sp := by unfold tkE; rw [← hsp, if_pos hE]
    rw [if_pos (by rw [show sp = nn by omega])]
    exact ⟨_, rfl, by rw [up2_s, eK]; rfl, by rw [up2_n (by omega), y6, ← hsp], by rw [up2_n (by omega), y7, eE], fun z => by omega, fun a j h => by rw [up2_n (by omega), yo a j (by omega)]⟩
  rw [if_neg (fun z => by have := (nI_eq (by omega) (by omega)).mp z; omega), if_neg (by simp (disch := omega) only [ltI, leI, eqI, tI, tI1, ti_0, ti_1, ti_2, ti_3, ti_4, ti_5, ti_6, ti_7, ti_8, ti_9, ti_10, ti_11, ti_12, ti_14, ti_18, ti_30, ti_39, ti_40, ti_41, ti_45, ti_50, ti_59, ti_97, ti_99, ti_100, ti_122, ti_160, ti_243, ti_255, ti_399, ti_999, ti_1000, ti_1024, ti_99999, tm_1, tm_2, tm_3, tm_4, tm_5, tm_7, tm_11, tm_12, tm_13, tm_14, tm_100, if_pos, if_neg, if_true, if_false, bC_in, bI_s, bS_s, bX_s, bY_s, sO, tC]; omega), bC_in ⟨by omega, by decide⟩, tC (show sp < 2 ^ 20 by omega)]
  -- a number
  have dig : isLe (A 143 sp) = false → isDi (A 143 sp) = true → rnx A V cu nn b (bS (fX9_readNumber A V' cu) (fun A13 V14 c15 => some (A13, V14, c15))) := by
    intro q1 q2
    obtain ⟨e, he⟩ : ∃ e, e = rn isDi (A 143) nn sp := ⟨_, rfl⟩
    obtain ⟨d1, d2, -, -⟩ := rn_p (q := isDi) (t := A 143) (n := nn) (nn - sp) sp (by omega)
    rw [← he] at d1 d2
    have eE : tkE (A 143) nn b = e := by unfold tkE; rw [← hsp, if_neg hE, if_neg (by rw [q1]; decide), if_pos q2, he]
    have eK : tkK (A 143) nn b = if e - sp ≤ 4 then 1 else 6 := by unfold tkK; rw [eE, ← hsp, if_neg hE, if_neg (by rw [q1]; decide), if_pos q2]
    have eV : tkV (A 143) nn b = dv (A 143) sp (e - sp) := by unfold tkV; rw [eE, ← hsp, if_neg (by rw [q1]; decide), if_pos q2]
    unfold fX9_readNumber
    obtain ⟨V3, g1, g2, g3, g4⟩ := r_di (A := A) (cu := cu) hn (s := sp) (fun (A6 V7 : xM) (c8 : Value) => if ((V7 132 19) - (V7 132 22)) ≤ (4 : Int32) then (some (A6, (up2 V7 132 20 (1 : Int32)), c8)) else (some (A6, (up2 V7 132 20 (6 : Int32)), c8))) (nn - sp) sp FU (up2 V' 132 21 0) (by omega) (Nat.le_refl _) (fu_gt (by omega)) (by rw [up2_n (by omega)]; exact y1) (by rw [up2_n (by omega)]; exact y7) (by rw [up2_n (by omega)]; exact y6) (by rw [up2_s, Nat.sub_self]; rfl)
    rw [← he] at g2 g3
    have z6 : V3 132 22 = nI sp := by rw [g4 _ _ (by omega), up2_n (by omega)]; exact y6
    have zo : ∀ x a j, ¬ (a = 132 ∧ (j = 19 ∨ j = 20 ∨ j = 21 ∨ j = 22)) → (up2 V3 132 20 x) a j = V a j := fun x a j h => by rw [up2_n (by omega), g4 a j (by omega), up2_n (by omega), yo a j (by omega)]
    rw [g1, z6, g2, nI_sub d1]
    by_cases q : e - sp ≤ 4
    · rw [if_pos (by simp (disch := omega) only [ltI, leI, eqI, tI, tI1, ti_0, ti_1, ti_2, ti_3, ti_4, ti_5, ti_6, ti_7, ti_8, ti_9, ti_10, ti_11, ti_12, ti_14, ti_18, ti_30, ti_39, ti_40, ti_41, ti_45, ti_50, ti_59, ti_97, ti_99, ti_100, ti_122, ti_160, ti_243, ti_255, ti_399, ti_999, ti_1000, ti_1024, ti_99999, tm_1, tm_2, tm_3, tm_4, tm_5, tm_7, tm_11, tm_12, tm_13, tm_14, tm_100, if_pos, if_neg, if_true, if_false, bC_in, bI_s, bS_s, bX_s, bY_s, sO, tC]; omega), bS_s]
      rw [if_pos q] at eK
      exact ⟨_, rfl, by rw [up2_s, eK]; rfl, by rw [up2_n (by omega), z6, ← hsp], by rw [up2_n (by omega), g2, eE], fun _ => by rw [up2_n (by omega), g3, eV, Nat.min_eq_left q], fun a j h => zo _ a j h⟩
    · rw [if_neg (by simp (disch := omega) only [ltI, leI, eqI, tI, tI1, ti_0, ti_1, ti_2, ti_3, ti_4, ti_5, ti_6, ti_7, ti_8, ti_9, ti_10, ti_11, ti_12, ti_14, ti_18, ti_30, ti_39, ti_40, ti_41, ti_45, ti_50, ti_59, ti_97, ti_99, ti_100, ti_122, ti_160, ti_243, ti_255, ti_399, ti_999, ti_1000, ti_1024, ti_99999, tm_1, tm_2, tm_3, tm_4, tm_5, tm_7, tm_11, tm_12, tm_13, tm_14, tm_100, if_pos, if_neg, if_true, if_false, bC_in, bI_s, bS_s, bX_s, bY_s, sO, tC]; omega), bS_s]
      rw [if_neg q] at eK
      exact ⟨_, rfl, by rw [up2_s, eK]; rfl, by rw [up2_n (by omega), z6, ← hsp], by rw [up2_n (by omega), g2, eE], fun z => by omega, fun a j h => zo _ a j h⟩
  -- a word
  have wrd : isLe (A 143 sp) = true → rnx A V cu nn b (bS (fX9_readWord A V' cu) (fun A13 V14 c15 => some (A13, V14, c15))) := by
    intro q1
    obtain ⟨e, he⟩ : ∃ e, e = rn isLe (A 143) nn sp := ⟨_, rfl⟩
    obtain ⟨d1, d2, -, -⟩ := rn_p (q := isLe) (t := A 143) (n := nn) (nn - sp) sp (by omega)
    rw [← he] at d1 d2
    have eE : tkE (A 143) nn b = e := by unfold tkE; rw [← hsp, if_neg hE, if_pos q1, he]
    obtain ⟨w, hw⟩ : ∃ w, w = tkW (A 143) nn b := ⟨_, rfl⟩
    have hw' : ww (A 143) sp (e - sp) 12 = w := by rw [hw]; unfold tkW; rw [eE, ← hsp]
    have eK : tkK (A 143) nn b = if w = 12 then 6 else wk w := by unfold tkK; rw [← hw, ← hsp, if_neg hE, if_pos q1]
    have eV : tkV (A 143) nn b = nI (wv w) := by unfold tkV; rw [← hw, ← hsp, if_pos q1]
    unfold fX9_readWord
    obtain ⟨V3, g1, g2, g3⟩ := r_le (A := A) (cu := cu) hn (fun (A29 V30 : xM) (c31 : Value) => fX9_readWord_L32 (fun (A37 V38 : xM) (c39 : Value) => some (A37, V38, c39)) FU (0 : Int32) A29 (up2 V30 132 20 (6 : Int32)) c31) (nn - sp) sp FU V' (by omega) (fu_gt (by omega)) y1 y7
    rw [← he] at g2
    have v6 : V3 132 22 = nI sp := by rw [g3 _ _ (by omega)]; exact y6
    obtain ⟨V4, k1, k2, k3, k4⟩ := r_L32 (A := A) (cu := cu) hL d1 (show e ≤ 160 by omega) (fun (A37 V38 : xM) (c39 : Value) => some (A37, V38, c39)) 12 0 FU (up2 V3 132 20 (6 : Int32)) (by omega) (fu_gt (by omega)) (by rw [up2_n (by omega)]; exact v6) (by rw [up2_n (by omega)]; exact g2)
    have k1 : fX9_readWord_L32 (fun (A37 V38 : xM) (c39 : Value) => some (A37, V38, c39)) FU 0 A (up2 V3 132 20 (6 : Int32)) cu = some (A, V4, cu) := k1
    rw [g1, k1, bS_s]
    have o6 : V4 132 22 = nI (tkS (A 143) nn b) := by rw [k2 _ _ (by omega), up2_n (by omega), v6, ← hsp]
    have o9 : V4 132 19 = nI (tkE (A 143) nn b) := by rw [k2 _ _ (by omega), up2_n (by omega), g2, eE]
    have oo : ∀ a j, ¬ (a = 132 ∧ (j = 19 ∨ j = 20 ∨ j = 21 ∨ j = 22)) → V4 a j = V a j := fun a j h => by rw [k2 a j (by omega), up2_n (by omega), g3 a j (by omega), yo a j (by omega)]
    rcases ww_s (t := A 143) (a := sp) (len := e - sp) 12 (Nat.le_refl _) with ⟨h, h2⟩ | ⟨h, h2⟩
    · rw [hw'] at h
      rw [if_pos h] at eK
      obtain ⟨m1, -⟩ := k3 (fun v _ hv => h2 v (by omega) hv)
      exact ⟨V4, rfl, by rw [m1, up2_s, eK]; rfl, o6, o9, fun z => by omega, oo⟩
    · rw [hw'] at h h2
      rw [if_neg (by omega)] at eK
      obtain ⟨m1, m2⟩ := k4 w (Nat.zero_le _) h h2
      exact ⟨V4, rfl, by rw [m1, eK], o6, o9, fun _ => by rw [m2, eV], oo⟩
  have e19 : ∀ x y, (up2 (up2 V' 132 21 x) 132 20 y) 132 19 = nI sp := fun x y => by rw [up2_n (by omega), up2_n (by omega)]; exact y7
  have sg : isLe (A 143 sp) = false → isDi (A 143 sp) = false → ∀ x : Int32, x = nI (if isSg (A 143 sp) = true then 4 else 6) → rnx A V cu nn b (some (A, up2 (up2 (up2 V' 132 21 (A 143 sp)) 132 20 x) 132 19 (nI (sp + 1)), cu)) := by
    intro q1 q2 x hx
    have eK : tkK (A 143) nn b = if isSg (A 143 sp) = true then 4 else 6 := by unfold tkK; rw [← hsp, if_neg hE, if_neg (by rw [q1]; decide), if_neg (by rw [q2]; decide)]
    have eV : tkV (A 143) nn b = A 143 sp := by unfold tkV; rw [← hsp, if_neg (by rw [q1]; decide), if_neg (by rw [q2]; decide)]
    have eE : tkE (A 143) nn b = sp + 1 := by unfold tkE; rw [← hsp, if_neg hE, if_neg (by rw [q1]; decide), if_neg (by rw [q2]; decide)]
    exact ⟨_, rfl, by rw [up2_n (by omega), up2_s, hx, eK], by rw [up2_n (by omega), up2_n (by omega), up2_n (by omega), y6, ← hsp], by rw [up2_s, eE], fun _ => by rw [up2_n (by omega), up2_n (by omega), up2_s, eV], fun a j h => by rw [up2_n (by omega), up2_n (by omega), up2_n (by omega), yo a j (by omega)]⟩
  by_cases q1 : isLe (A 143 sp) = true
  · have r1 := q1
    unfold isLe at r1
    rw [Bool.and_eq_true] at r1
    rw [if_neg (by simpa using r1.1), if_neg (by simpa using r1.2)]
    exact wrd q1
  have q1 : isLe (A 143 sp) = false := by simpa using q1
  by_cases q2 : isDi (A 143 sp) = true
  · have r1 := q2
    unfold isDi at r1
    rw [Bool.and_eq_true] at r1
    have r2 : ¬ A 143 sp < 48 := by simpa using r1.1
    have r3 : ¬ 57 < A 143 sp := by simpa using r1.2
    have r4 : A 143 sp < 97 := by
      rw [ltI] at r3 ⊢
      have r3 : ¬ (57 : Int) < (A 143 sp).toInt := r3
      show (A 143 sp).toInt < 97
      omega
    rw [if_pos r4, if_neg r2, if_neg r3]
    exact dig q1 q2
  have q2 : isDi (A 143 sp) = false := by simpa using q2
  have sg' := sg q1 q2
  have d2 : A 143 sp < 48 ∨ 57 < A 143 sp := by
    have := q2
    unfold isDi at this
    by_cases z : A 143 sp < 48
    · exact Or.inl z
    · right
      rw [decide_eq_false z] at this
      simpa using this
  simp only [up2_s, e19, nI_1]
  obtain ⟨x, hx⟩ : ∃ x, x = A 143 sp := ⟨_, rfl⟩
  have blk : ∀ Z : Option xS, (if x < 97 then (if x < 48 then Z else if 57 < x then Z else bS (fX9_readNumber A V' cu) (fun A13 V14 c15 => some (A13, V14, c15))) else if 122 < x then (if x < 48 then Z else if 57 < x then Z else bS (fX9_readNumber A V' cu) (fun A13 V14 c15 => some (A13, V14, c15))) else bS (fX9_readWord A V' cu) (fun A13 V14 c15 => some (A13, V14, c15))) = Z := by
    intro Z
    rw [← hx] at d2 q1
    have dz : (if x < 48 then Z else if 57 < x then Z else bS (fX9_readNumber A V' cu) (fun A13 V14 c15 => some (A13, V14, c15))) = Z := by
      by_cases z : x < 48
      · rw [if_pos z]
      · rw [if_neg z, if_pos (d2.resolve_left z)]
    rw [dz]
    by_cases z : x < 97
    · rw [if_pos z]
    · rw [if_neg z]
      by_cases z2 : 122 < x
      · rw [if_pos z2]
      · unfold isLe at q1
        rw [decide_eq_false z, decide_eq_false z2] at q1
        cases q1
  rw [← hx] at sg' ⊢
  rw [blk]
  by_cases c1 : x = 40
  · rw [if_pos c1]; exact sg' _ (by rw [c1]; rfl)
  rw [if_neg c1]
  by_cases c2 : x = 41
  · rw [if_pos c2]; exact sg' _ (by rw [c2]; rfl)
  rw [if_neg c2]
  by_cases c3 : x = 59
  · rw [if_pos c3]; exact sg' _ (by rw [c3]; rfl)
  rw [if_neg c3]
  by_cases c4 : x = 43
  · rw [if_pos c4]; exact sg' _ (by rw [c4]; rfl)
  rw [if_neg c4]
  by_cases c5 : x = 45
  · rw [if_pos c5]; exact sg' _ (by rw [c5]; rfl)
  rw [if_neg c5]
  by_cases c6 : x = 42
  · rw [if_pos c6]; exact sg' _ (by rw [c6]; rfl)
  rw [if_neg c6]
  by_cases c7 : x = 60
  · rw [if_pos c7]; exact sg' _ (by rw [c7]; rfl)
  rw [if_neg c7]
  by_cases c8 : x = 61
  · rw [if_pos c8]; exact sg' _ (by rw [c8]; rfl)
  rw [if_neg c8]
  have : isSg x = false := by unfold isSg; simp [c1, c2, c3, c4, c5, c6, c7, c8]
  exact sg' _ (by rw [this]; rfl)
end TR
