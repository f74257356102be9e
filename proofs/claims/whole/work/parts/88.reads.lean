/-! TEXT: what the class's number tells of a token. -/
section TC
variable {t : Nat → Int32} {n k : Nat}
theorem tok_c (t : Nat → Int32) (n k : Nat) : (tK t n k = 1 ∧ cC t n k = 2) ∨ (tK t n k = 2 ∧ ∃ w, w < 6 ∧ tV t n k = nI w ∧ cC t n k = nI (w + 3)) ∨ (tK t n k = 3 ∧ ∃ w, w < 6 ∧ tV t n k = nI w ∧ cC t n k = nI (w + 9)) ∨ (tK t n k = 4 ∧ cC t n k = tV t n k ∧ isSg (tV t n k) = true) ∨ (tK t n k = 5 ∧ cC t n k = 1) ∨ (tK t n k = 6 ∧ cC t n k = 0) := by
  unfold cC
  obtain ⟨b, hb⟩ : ∃ b, b = ps t n k := ⟨_, rfl⟩
  unfold tK tV
  rw [← hb]
  obtain ⟨sp, hsp⟩ : ∃ sp, sp = tkS t n b := ⟨_, rfl⟩
  obtain ⟨w, hw⟩ : ∃ w, w = tkW t n b := ⟨_, rfl⟩
  have hw13 : w < 13 := by
    rw [hw]
    unfold tkW
    rcases ww_s (t := t) (a := tkS t n b) (len := tkE t n b - tkS t n b) 12 (Nat.le_refl _) with h | h
    · omega
    · omega
  by_cases hE : n ≤ sp
  · have eK : tkK t n b = 5 := by unfold tkK; rw [← hsp, if_pos hE]
    rw [eK]
    exact Or.inr (Or.inr (Or.inr (Or.inr (Or.inl ⟨rfl, rfl⟩))))
  by_cases q1 : isLe (t sp) = true
  · have eK : tkK t n b = if w = 12 then 6 else wk w := by unfold tkK; rw [← hw, ← hsp, if_neg hE, if_pos q1]
    have eV : tkV t n b = nI (wv w) := by unfold tkV; rw [← hw, ← hsp, if_pos q1]
    by_cases q : w = 12
    · rw [if_pos q] at eK
      rw [eK]
      exact Or.inr (Or.inr (Or.inr (Or.inr (Or.inr ⟨rfl, rfl⟩))))
    · rw [if_neg q] at eK
      by_cases z : w < 6
      · have e1 : wk w = 2 := by unfold wk; rw [if_pos z]
        have e2 : wv w = w := by unfold wv; rw [if_pos z]
        rw [eK, e1, eV, e2]
        exact Or.inr (Or.inl ⟨rfl, w, z, rfl, show nI w + 3 = nI (w + 3) from nI_add w 3⟩)
      · have e1 : wk w = 3 := by unfold wk; rw [if_neg z]
        have e2 : wv w = w - 6 := by unfold wv; rw [if_neg z]
        rw [eK, e1, eV, e2]
        exact Or.inr (Or.inr (Or.inl ⟨rfl, w - 6, by omega, rfl, show nI (w - 6) + 9 = nI (w - 6 + 9) from nI_add (w - 6) 9⟩))
  by_cases q2 : isDi (t sp) = true
  · have eK : tkK t n b = if tkE t n b - sp ≤ 4 then 1 else 6 := by unfold tkK; rw [← hsp, if_neg hE, if_neg q1, if_pos q2]
    by_cases z : tkE t n b - sp ≤ 4
    · rw [eK, if_pos z]
      exact Or.inl ⟨rfl, rfl⟩
    · rw [eK, if_neg z]
      exact Or.inr (Or.inr (Or.inr (Or.inr (Or.inr ⟨rfl, rfl⟩))))
  have eK : tkK t n b = if isSg (t sp) = true then 4 else 6 := by unfold tkK; rw [← hsp, if_neg hE, if_neg q1, if_neg q2]
  have eV : tkV t n b = t sp := by unfold tkV; rw [← hsp, if_neg q1, if_neg q2]
  by_cases z : isSg (t sp) = true
  · rw [eK, if_pos z, eV]
    exact Or.inr (Or.inr (Or.inr (Or.inl ⟨rfl, rfl, z⟩)))
  · rw [eK, if_neg z]
    exact Or.inr (Or.inr (Or.inr (Or.inr (Or.inr ⟨rfl, rfl⟩))))
theorem sg_no : ∀ x : Int32, isSg x = true → x ≠ 2 ∧ ¬ (3 ≤ x ∧ x ≤ 8) ∧ x ≠ 0 ∧ x ≠ 1 ∧ x ≠ 12 ∧ x ≠ 13 ∧ x ≠ 14 := by
  intro x h
  unfold isSg at h
  simp only [Bool.or_eq_true, decide_eq_true_eq] at h
  rcases h with ((((((h | h) | h) | h) | h) | h) | h) | h <;> subst h <;> decide
theorem nI_sm : ∀ w, w < 6 → nI (w + 3) ≠ 2 ∧ nI (w + 9) ≠ 2 ∧ (3 ≤ nI (w + 3) ∧ nI (w + 3) ≤ 8) ∧ ¬ (3 ≤ nI (w + 9) ∧ nI (w + 9) ≤ 8) := by decide
theorem cC_2 (h : cC t n k = 2) : tK t n k = 1 := by
  rcases tok_c t n k with q | ⟨-, w, hw, -, q⟩ | ⟨-, w, hw, -, q⟩ | ⟨-, q, q2⟩ | ⟨-, q⟩ | ⟨-, q⟩
  · exact q.1
  · exact absurd (q.symm.trans h) (nI_sm w hw).1
  · exact absurd (q.symm.trans h) (nI_sm w hw).2.1
  · exact absurd (q.symm.trans h) (sg_no _ q2).1
  · rw [q] at h; exact absurd h (by decide)
  · rw [q] at h; exact absurd h (by decide)
theorem cC_end (hn : n ≤ 160) : ∀ k, 160 ≤ k → cC t n k = 1 := by
  intro k hk
  have h : tK t n k = 5 := by
    by_cases q : tK t n k = 5
    · exact q
    · have := (tK_lt k q).2
      omega
  unfold cC
  rw [h]
  rfl
theorem tS_le : tS t n k ≤ n := (tkS_b (ps_le k)).2
end TC
/-- what a reading of the class comes to -/
def cRes (n : Nat) (A V : xM) (cu : Value) (out : List Int32) (k' : Nat) (ok : Bool) (l : List Int32) (x : Option xS) : Prop := ∃ A2 V2, x = some (A2, V2, cu) ∧ (ok = true → cAt n A2 V2 k' (out ++ l)) ∧ (ok = false → cFl n V2 (tS (A 96) n k')) ∧ (∀ b, b ≠ 97 → A2 b = A b) ∧ ∀ a j, a ≠ 95 → V2 a j = V a j
theorem oke {k k' : Nat} {o o' : Bool} {l l' : List Int32} (h : (some (k, o, l) : pR) = some (k', o', l')) : k = k' ∧ o = o' ∧ l = l' := by simpa using h
section CL
variable {n : Nat} {cu : Value} {T : Nat → Int32} {op : Int32 → Bool} {rc : xM → xM → Value → Option xS} {rp : Nat → pR} {Lf : Nat → Int32 → xM → xM → Value → Option xS}
/-- a loop of operators of one rank -/
def cLf (cu : Value) (op : Int32 → Bool) (rc : xM → xM → Value → Option xS) (Lf : Nat → Int32 → xM → xM → Value → Option xS) : Prop := ∀ m l2 (A V : xM), Lf (m + 1) l2 A V cu = if (160 : Int32) ≤ l2 then some (A, V, cu) else if op (V 95 5) = true then bS (fX4_next A V cu) (fun A4 V5 c6 => bS (rc A4 V5 c6) (fun A9 V10 c11 => bS (fX4_step (-(V 95 5)) A9 V10 c11) (fun A14 V15 c16 => Lf m (l2 + Int32.ofInt 1) A14 V15 c16))) else some (A, V, cu)
theorem fl_loop (h0 : op 0 = false) (hL : cLf cu op rc Lf) {f F : Nat} {l2 : Int32} {A V : xM} (hF : 0 < F) (h : cFl n V f) : Lf F l2 A V cu = some (A, V, cu) := by
  obtain ⟨m, rfl⟩ : ∃ m, F = m + 1 := ⟨F - 1, by omega⟩
  rw [hL, h.2.1, h0]
  by_cases q : (160 : Int32) ≤ l2
  · rw [if_pos q]
  · rw [if_neg q, if_neg (by decide)]
/-- an operand is read as told -/
def cRd (n : Nat) (cu : Value) (T : Nat → Int32) (rp : Nat → pR) (rc : xM → xM → Value → Option xS) : Prop := ∀ k A V out k' ok l, A 96 = T → k ≤ 160 → out.length ≤ k → cAt n A V k out → rp k = some (k', ok, l) → cRes n A V cu out k' ok l (rc A V cu)
theorem c_loop (hn : n ≤ 160) (h0 : op 0 = false) (h1 : op 1 = false) (hL : cLf cu op rc Lf) (hO : ∀ k, k ≤ 160 → pO k (rp k)) (hr : cRd n cu T rp rc) : ∀ m i F A V k out l k' ok l', i + m = 160 → m < F → A 96 = T → k ≤ 160 → (out ++ l).length ≤ k → cAt n A V k (out ++ l) → pL (cC T n) rp op m k l = some (k', ok, l') → cRes n A V cu out k' ok l' (Lf F (nI i) A V cu) := by
  intro m
  induction m with
  | zero =>
    intro i F A V k out l k' ok l' hi hF hT hk hl h e
    obtain ⟨F, rfl⟩ : ∃ m, F = m + 1 := ⟨F - 1, by omega⟩
    rw [pL] at e
    obtain ⟨rfl, rfl, rfl⟩ := oke e
    rw [hL, if_pos (by simp (disch := omega) only [ltI, leI, eqI, tI, tI1, ti_0, ti_1, ti_2, ti_3, ti_4, ti_5, ti_6, ti_7, ti_8, ti_9, ti_10, ti_11, ti_12, ti_14, ti_18, ti_30, ti_39, ti_40, ti_41, ti_45, ti_50, ti_59, ti_97, ti_99, ti_100, ti_122, ti_160, ti_243, ti_255, ti_399, ti_999, ti_1000, ti_1024, ti_99999, tm_1, tm_2, tm_3, tm_4, tm_5, tm_7, tm_11, tm_12, tm_13, tm_14, tm_100, if_pos, if_neg, if_true, if_false, bC_in, bI_s, bS_s, bX_s, bY_s, sO, tC]; omega)]
    exact ⟨A, V, rfl, fun _ => h, fun z => (by cases z), fun _ _ => rfl, fun _ _ _ => rfl⟩
  | succ m ih =>
    intro i F A V k out l k' ok l' hi hF hT hk hl h e
    obtain ⟨F, rfl⟩ : ∃ m, F = m + 1 := ⟨F - 1, by omega⟩
    rw [hL, if_neg (by simp (disch := omega) only [ltI, leI, eqI, tI, tI1, ti_0, ti_1, ti_2, ti_3, ti_4, ti_5, ti_6, ti_7, ti_8, ti_9, ti_10, ti_11, ti_12, ti_14, ti_18, ti_30, ti_39, ti_40, ti_41, ti_45, ti_50, ti_59, ti_97, ti_99, ti_100, ti_122, ti_160, ti_243, ti_255, ti_399, ti_999, ti_1000, ti_1024, ti_99999, tm_1, tm_2, tm_3, tm_4, tm_5, tm_7, tm_11, tm_12, tm_13, tm_14, tm_100, if_pos, if_neg, if_true, if_false, bC_in, bI_s, bS_s, bX_s, bY_s, sO, tC]; omega), h.2.2.1, hT]
    rw [pL] at e
    by_cases q : op (cC T n k) = true
    · rw [if_pos q] at e ⊢
      have hk6 : tK (A 96) n k ≠ 6 := fun z => by rw [hT] at z; rw [cC_6 z, h0] at q; cases q
      have hk1 : k < 160 := lt160 (cC_end hn) (fun z => by rw [z, h1] at q; cases q)
      obtain ⟨V2, x1, x2, x3⟩ := at_next (cu := cu) hn h hk6
      rw [x1, bS_s]
      obtain ⟨k1, ok1, l1, e1, g1, g2, g3⟩ := hO (k + 1) (by omega)
      rw [e1] at e
      obtain ⟨A3, V3, y1, y2, y3, y4, y5⟩ := hr (k + 1) A V2 (out ++ l) k1 ok1 l1 hT (by omega) (by omega) x2 e1
      rw [y1, bS_s]
      cases ok1 with
      | false =>
        obtain ⟨rfl, rfl, rfl⟩ := oke e
        obtain ⟨A4, V4, z1, z2, z3, z4⟩ := fl_step (A := A3) (cu := cu) (-(cC T n k)) (y3 rfl)
        rw [z1, bS_s, fl_loop h0 hL (by omega) z2]
        exact ⟨A4, V4, rfl, fun z => (by cases z), fun _ => z2, fun b hb => by rw [z3 b hb, y4 b hb], fun a j h => by rw [z4 a j h, y5 a j h, x3 a j h]⟩
      | true =>
        obtain ⟨g4, g5⟩ := g3 rfl
        obtain ⟨A4, V4, z1, z2, z3, z4⟩ := at_step (cu := cu) (-(cC T n k)) (by simp only [List.length_append] at hl ⊢; omega) (y2 rfl)
        rw [z1, bS_s, sO]
        have T4 : A4 96 = T := by rw [z3 96 (by decide), y4 96 (by decide), hT]
        have e' : pL (cC T n) rp op m k1 (l ++ l1 ++ [-(cC T n k)]) = some (k', ok, l') := e
        have z2' : cAt n A4 V4 k1 (out ++ (l ++ l1 ++ [-(cC T n k)])) := by simpa only [List.append_assoc] using z2
        obtain ⟨A5, V5, w1, w2, w3, w4, w5⟩ := ih (i + 1) F A4 V4 k1 out (l ++ l1 ++ [-(cC T n k)]) k' ok l' (by omega) (by omega) T4 g2 (by simp only [List.length_append, List.length_singleton] at hl ⊢; omega) z2' e'
        refine ⟨A5, V5, w1, w2, fun z => by rw [hT, ← T4]; exact w3 z, fun b hb => by rw [w4 b hb, z3 b hb, y4 b hb], fun a j h => by rw [w5 a j h, z4 a j h, y5 a j h, x3 a j h]⟩
    · rw [if_neg q] at e ⊢
      obtain ⟨rfl, rfl, rfl⟩ := oke e
      exact ⟨A, V, rfl, fun _ => h, fun z => (by cases z), fun _ _ => rfl, fun _ _ _ => rfl⟩
theorem c_lev (hn : n ≤ 160) (h0 : op 0 = false) (h1 : op 1 = false) (hL : cLf cu op rc Lf) (hO : ∀ k, k ≤ 160 → pO k (rp k)) (hr : cRd n cu T rp rc) {k k' : Nat} {A V : xM} {out l : List Int32} {ok : Bool} (hT : A 96 = T) (hk : k ≤ 160) (hl : out.length ≤ k) (h : cAt n A V k out) (e : pB (rp k) (fun k' l => pL (cC T n) rp op 160 k' l) = some (k', ok, l)) : cRes n A V cu out k' ok l (bS (rc A V cu) (fun A3 V4 c5 => Lf FU 0 A3 V4 c5)) := by
  obtain ⟨k1, ok1, l1, e1, g1, g2, g3⟩ := hO k hk
  rw [e1] at e
  obtain ⟨A3, V3, y1, y2, y3, y4, y5⟩ := hr k A V out k1 ok1 l1 hT hk hl h e1
  rw [y1, bS_s]
  cases ok1 with
  | false =>
    obtain ⟨rfl, rfl, rfl⟩ := oke e
    rw [fl_loop h0 hL (fu_gt (by omega)) (y3 rfl)]
    exact ⟨A3, V3, rfl, fun z => (by cases z), y3, y4, y5⟩
  | true =>
    have T3 : A3 96 = T := by rw [y4 96 (by decide), hT]
    have e' : pL (cC T n) rp op 160 k1 l1 = some (k', ok, l) := e
    obtain ⟨A5, V5, w1, w2, w3, w4, w5⟩ := c_loop hn h0 h1 hL hO hr 160 0 FU A3 V3 k1 out l1 k' ok l (by omega) (fu_gt (by omega)) T3 g2 (by have := (g3 rfl).1; simp only [List.length_append]; omega) (y2 rfl) e'
    exact ⟨A5, V5, w1, w2, fun z => by rw [hT, ← T3]; exact w3 z, fun b hb => by rw [w4 b hb, y4 b hb], fun a j h => by rw [w5 a j h, y5 a j h]⟩
end CL
section CM
variable {cu : Value} {rc : Nat → Int32 → xM → xM → Value → Option xS} {l1 : Int32}
theorem lf_or : cLf cu (fun x => decide (x = 12)) (rc 32 l1) (fX4_readOr_L7 rc l1 (fun (A26 V27 : xM) (c28 : Value) => some (A26, V27, c28))) := by
  intro m l2 A V
  rw [fX4_readOr_L7]
  by_cases q : V 95 5 = 12
  · simp only [q, decide_true, if_true]
  · simp only [q, decide_false, if_false, Bool.false_eq_true]
theorem lf_and : cLf cu (fun x => decide (x = 13)) (rc 33 l1) (fX4_readAnd_L7 rc l1 (fun (A26 V27 : xM) (c28 : Value) => some (A26, V27, c28))) := by
  intro m l2 A V
  rw [fX4_readAnd_L7]
  by_cases q : V 95 5 = 13
  · simp only [q, decide_true, if_true]
  · simp only [q, decide_false, if_false, Bool.false_eq_true]
theorem lf_term : cLf cu (fun x => decide (x = 42)) (rc 36 l1) (fX4_readTerm_L7 rc l1 (fun (A26 V27 : xM) (c28 : Value) => some (A26, V27, c28))) := by
  intro m l2 A V
  rw [fX4_readTerm_L7]
  by_cases q : V 95 5 = 42
  · simp only [q, decide_true, if_true]
  · simp only [q, decide_false, if_false, Bool.false_eq_true]
theorem lf_sum : cLf cu isSum (rc 35 l1) (fX4_readSum_L7 rc l1 (fun (A26 V27 : xM) (c28 : Value) => some (A26, V27, c28))) := by
  intro m l2 A V
  rw [fX4_readSum_L7]
  unfold isSum
  by_cases q : V 95 5 = 43
  · rw [if_pos q, decide_eq_true q, Bool.true_or, if_pos rfl]
  · rw [if_neg q, decide_eq_false q, Bool.false_or]
    by_cases q2 : V 95 5 = 45
    · rw [if_pos q2, decide_eq_true q2, if_pos rfl]
    · rw [if_neg q2, decide_eq_false q2, if_neg (show ¬ (false = true) by decide)]
end CM
