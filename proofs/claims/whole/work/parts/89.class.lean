/-! TEXT: the class reads as the descent does. -/
section CS
variable {rc : Nat → Int32 → xM → xM → Value → Option xS} {l1 : Int32} {A V : xM} {cu : Value}
theorem s_num (h : V 95 5 = 2) : fX4_readSingle rc l1 A V cu = bS (fX4_step (V 95 8) A V cu) (fun A3 V4 c5 => bS (fX4_next A3 V4 c5) (fun A8 V9 c10 => some (A8, V9, c10))) := by
  unfold fX4_readSingle
  rw [if_pos h]
theorem s_nam (h0 : V 95 5 ≠ 2) (h1 : ¬ V 95 5 < 3) (h2 : ¬ 8 < V 95 5) : fX4_readSingle rc l1 A V cu = bS (fX4_step (-(V 95 5)) A V cu) (fun A3 V4 c5 => bS (fX4_next A3 V4 c5) (fun A8 V9 c10 => some (A8, V9, c10))) := by
  unfold fX4_readSingle
  rw [if_neg h0, if_neg h1, if_neg h2]
theorem s_min (h : V 95 5 = 45) (hl : ¬ 5 ≤ l1) : fX4_readSingle rc l1 A V cu = bS (fX4_next A V cu) (fun A27 V28 c29 => bS (rc 36 (l1 + (1 : Int32)) A27 V28 c29) (fun A32 V33 c34 => bS (fX4_step (-15 : Int32) A32 V33 c34) (fun A37 V38 c39 => some (A37, V38, c39)))) := by
  unfold fX4_readSingle
  rw [h, if_neg (by decide), if_neg (by decide), if_pos (by decide), if_pos rfl, if_neg hl]
theorem s_brk (h : V 95 5 = 40) (hl : ¬ 5 ≤ l1) : fX4_readSingle rc l1 A V cu = bS (fX4_next A V cu) (fun A27 V28 c29 => bS (rc 31 (l1 + (1 : Int32)) A27 V28 c29) (fun A32 V33 c34 => bS (fX4_expect (41 : Int32) A32 V33 c34) (fun A37 V38 c39 => some (A37, V38, c39)))) := by
  unfold fX4_readSingle
  rw [h, if_neg (by decide), if_neg (by decide), if_pos (by decide), if_neg (by decide), if_pos rfl, if_neg hl]
theorem s_bad (h0 : V 95 5 ≠ 2) (h1 : ¬ (3 ≤ V 95 5 ∧ V 95 5 ≤ 8)) (h2 : V 95 5 = 45 → 5 ≤ l1) (h3 : V 95 5 = 40 → 5 ≤ l1) : fX4_readSingle rc l1 A V cu = bS (fX4_fail A V cu) (fun A37 V38 c39 => some (A37, V38, c39)) := by
  unfold fX4_readSingle
  rw [if_neg h0]
  by_cases q : V 95 5 = 45
  · rw [q, if_neg (by decide), if_pos (by decide), if_pos rfl, if_pos (h2 q), if_neg (by decide)]
  · by_cases q2 : V 95 5 = 40
    · rw [q2, if_neg (by decide), if_pos (by decide), if_neg (by decide), if_pos rfl, if_pos (h3 q2)]
    · rw [if_neg q, if_neg q2]
      by_cases z : V 95 5 < 3
      · rw [if_pos z]
      · rw [if_neg z, if_pos (Int32.not_le.mp (fun y => h1 ⟨Int32.not_lt.mp z, y⟩))]
end CS
section CX
variable {n : Nat} {cu : Value} {T : Nat → Int32}
theorem cAt_z (hn : n ≤ 160) {A V : xM} {k : Nat} {out : List Int32} {x : Int32} (hT : A 96 = T) (h : cAt n A V k out) (hl : out.length ≤ k) (hk : k ≤ 160) : cRes n A V cu out k false [] (bS (fX4_fail A V cu) (fun A37 V38 c39 => some (A37, V38, c39))) := by
  obtain ⟨V2, x1, x2, x3⟩ := at_fail (cu := cu) hn h (by omega)
  rw [x1, bS_s]
  exact ⟨A, V2, rfl, fun z => (by cases z), fun _ => x2, fun _ _ => rfl, x3⟩
/-- one token that gives a step -/
theorem c_one (hn : n ≤ 160) {A V : xM} {k : Nat} {out : List Int32} (s : Int32) (hT : A 96 = T) (h : cAt n A V k out) (hl : out.length ≤ k) (h0 : cC T n k ≠ 0) (h1 : cC T n k ≠ 1) : cRes n A V cu out (k + 1) true [s] (bS (fX4_step s A V cu) (fun A3 V4 c5 => bS (fX4_next A3 V4 c5) (fun A8 V9 c10 => some (A8, V9, c10)))) := by
  have hk1 : k < 160 := lt160 (cC_end hn) h1
  obtain ⟨A2, V2, x1, x2, x3, x4⟩ := at_step (cu := cu) s (by omega) h
  rw [x1, bS_s]
  obtain ⟨V3, y1, y2, y3⟩ := at_next (cu := cu) hn x2 (fun z => by rw [x3 96 (by decide), hT] at z; exact h0 (cC_6 z))
  rw [y1, bS_s]
  exact ⟨A2, V3, rfl, fun _ => y2, fun z => (by cases z), x3, fun a j h => by rw [y3 a j h, x4 a j h]⟩
/-- a token ahead of an operand, a step behind it -/
theorem c_pre (hn : n ≤ 160) {rp : pR} {rc : xM → xM → Value → Option xS} (s : Int32) {A V : xM} {k k' : Nat} {out l : List Int32} {ok : Bool} (hT : A 96 = T) (h : cAt n A V k out) (h0 : cC T n k ≠ 0) (hl : out.length ≤ k) (hO : pO (k + 1) rp) (hr : ∀ A V k' ok l, A 96 = T → cAt n A V (k + 1) out → rp = some (k', ok, l) → cRes n A V cu out k' ok l (rc A V cu)) (e : pB rp (fun k' l => some (k', true, l ++ [s])) = some (k', ok, l)) : cRes n A V cu out k' ok l (bS (fX4_next A V cu) (fun A27 V28 c29 => bS (rc A27 V28 c29) (fun A32 V33 c34 => bS (fX4_step s A32 V33 c34) (fun A37 V38 c39 => some (A37, V38, c39))))) := by
  obtain ⟨V2, x1, x2, x3⟩ := at_next (cu := cu) hn h (fun z => by rw [hT] at z; exact h0 (cC_6 z))
  rw [x1, bS_s]
  obtain ⟨k1, ok1, l1, e1, g1, g2, g3⟩ := hO
  rw [e1] at e
  obtain ⟨A3, V3, y1, y2, y3, y4, y5⟩ := hr A V2 k1 ok1 l1 hT x2 e1
  rw [y1, bS_s]
  cases ok1 with
  | false =>
    obtain ⟨rfl, rfl, rfl⟩ := oke e
    obtain ⟨A4, V4, z1, z2, z3, z4⟩ := fl_step (A := A3) (cu := cu) s (y3 rfl)
    rw [z1, bS_s]
    exact ⟨A4, V4, rfl, fun z => (by cases z), fun _ => z2, fun b hb => by rw [z3 b hb, y4 b hb], fun a j h => by rw [z4 a j h, y5 a j h, x3 a j h]⟩
  | true =>
    obtain ⟨rfl, rfl, rfl⟩ := oke e
    obtain ⟨g4, g5⟩ := g3 rfl
    obtain ⟨A4, V4, z1, z2, z3, z4⟩ := at_step (cu := cu) s (by simp only [List.length_append]; omega) (y2 rfl)
    rw [z1, bS_s]
    exact ⟨A4, V4, rfl, fun _ => by rw [← List.append_assoc]; exact z2, fun z => (by cases z), fun b hb => by rw [z3 b hb, y4 b hb], fun a j h => by rw [z4 a j h, y5 a j h, x3 a j h]⟩
theorem c_rd (hn : n ≤ 160) : ∀ fu j o k A V out k' ok l, 31 ≤ j → j ≤ 36 → o ≤ 5 → 6 * (5 - o) + (37 - j) ≤ fu → A 96 = T → k ≤ 160 → out.length ≤ k → cAt n A V k out → pP (cC T n) (tV T n) fu j o k = some (k', ok, l) → cRes n A V cu out k' ok l (fRd fu j (nI o) A V cu) := by
  intro fu
  induction fu with
  | zero => intro j o k A V out k' ok l h1 h2 h3 h4; omega
  | succ fu ih =>
    intro j o k A V out k' ok l h1 h2 h3 h4 hT hk hl h e
    have hP : ∀ j' o' k, 31 ≤ j' → j' ≤ 36 → o' ≤ 5 → 6 * (5 - o') + (37 - j') ≤ fu → k ≤ 160 → pO k (pP (cC T n) (tV T n) fu j' o' k) := fun j' o' k g1 g2 g3 g4 => pP_ok (cC_end hn) fu j' o' k g1 g2 g3 g4
    have hR : ∀ j' o', 31 ≤ j' → j' ≤ 36 → o' ≤ 5 → 6 * (5 - o') + (37 - j') ≤ fu → cRd n cu T (pP (cC T n) (tV T n) fu j' o') (fRd fu j' (nI o')) := fun j' o' g1 g2 g3 g4 k A V out k' ok l hT hk hl h e => ih j' o' k A V out k' ok l g1 g2 g3 g4 hT hk hl h e
    have hx : V 95 5 = cC T n k := by rw [h.2.2.1, hT]
    rw [fRd]
    rw [pP] at e
    by_cases j1 : j = 31
    · rw [if_pos j1] at e ⊢
      exact c_lev hn rfl rfl lf_or (fun k hk => hP 32 o k (by omega) (by omega) h3 (by omega) hk) (hR 32 o (by omega) (by omega) h3 (by omega)) hT hk hl h e
    rw [if_neg j1] at e ⊢
    by_cases j2 : j = 32
    · rw [if_pos j2] at e ⊢
      exact c_lev hn rfl rfl lf_and (fun k hk => hP 33 o k (by omega) (by omega) h3 (by omega) hk) (hR 33 o (by omega) (by omega) h3 (by omega)) hT hk hl h e
    rw [if_neg j2] at e ⊢
    by_cases j3 : j = 33
    · rw [if_pos j3] at e ⊢
      unfold fX4_readNot
      rw [hx]
      by_cases q : cC T n k = 14
      · rw [if_pos q] at e ⊢
        have hk1 : k < 160 := lt160 (cC_end hn) (by rw [q]; decide)
        by_cases q2 : o < 5
        · rw [if_pos q2] at e
          rw [if_pos (by simp (disch := omega) only [ltI, leI, eqI, tI, tI1, ti_0, ti_1, ti_2, ti_3, ti_4, ti_5, ti_6, ti_7, ti_8, ti_9, ti_10, ti_11, ti_12, ti_14, ti_18, ti_30, ti_39, ti_40, ti_41, ti_45, ti_50, ti_59, ti_97, ti_99, ti_100, ti_122, ti_160, ti_243, ti_255, ti_399, ti_999, ti_1000, ti_1024, ti_99999, tm_1, tm_2, tm_3, tm_4, tm_5, tm_7, tm_11, tm_12, tm_13, tm_14, tm_100, if_pos, if_neg, if_true, if_false, bC_in, bI_s, bS_s, bX_s, bY_s, sO, tC]; omega), nI_1]
          exact c_pre hn (-14) hT h (by rw [q]; decide) hl (hP 33 (o + 1) (k + 1) (by omega) (by omega) (by omega) (by omega) (by omega)) (fun A V k' ok l g1 g2 g3 => ih 33 (o + 1) (k + 1) A V out k' ok l (by omega) (by omega) (by omega) (by omega) g1 (by omega) (by omega) g2 g3) e
        · rw [if_neg q2] at e
          obtain ⟨rfl, rfl, rfl⟩ := oke e
          rw [if_neg (by simp (disch := omega) only [ltI, leI, eqI, tI, tI1, ti_0, ti_1, ti_2, ti_3, ti_4, ti_5, ti_6, ti_7, ti_8, ti_9, ti_10, ti_11, ti_12, ti_14, ti_18, ti_30, ti_39, ti_40, ti_41, ti_45, ti_50, ti_59, ti_97, ti_99, ti_100, ti_122, ti_160, ti_243, ti_255, ti_399, ti_999, ti_1000, ti_1024, ti_99999, tm_1, tm_2, tm_3, tm_4, tm_5, tm_7, tm_11, tm_12, tm_13, tm_14, tm_100, if_pos, if_neg, if_true, if_false, bC_in, bI_s, bS_s, bX_s, bY_s, sO, tC]; omega)]
          exact cAt_z (x := 0) hn hT h hl hk
      · rw [if_neg q] at e ⊢
        obtain ⟨k1, ok1, l1, e1, g1, g2, g3⟩ := hP 34 o k (by omega) (by omega) h3 (by omega) hk
        obtain ⟨A3, V3, y1, y2, y3, y4, y5⟩ := ih 34 o k A V out k1 ok1 l1 (by omega) (by omega) h3 (by omega) hT hk hl h e1
        rw [e1] at e
        rw [y1, bS_s]
        have T3 : A3 96 = T := by rw [y4 96 (by decide), hT]
        cases ok1 with
        | false =>
          obtain ⟨rfl, rfl, rfl⟩ := oke e
          have := (y3 rfl).2.1
          rw [this, if_neg (by decide), if_neg (by decide)]
          exact ⟨A3, V3, rfl, fun z => (by cases z), y3, y4, y5⟩
        | true =>
          obtain ⟨g4, g5⟩ := g3 rfl
          have h' := y2 rfl
          have e : (if isCmp (cC T n k1) = true then pB (pP (cC T n) (tV T n) fu 34 o (k1 + 1)) (fun k2 l2 => some (k2, true, l1 ++ l2 ++ [-(cC T n k1)])) else some (k1, true, l1)) = some (k', ok, l) := e
          have hx3 : V3 95 5 = cC T n k1 := by rw [h'.2.2.1, T3]
          rw [hx3]
          have cmp : isCmp (cC T n k1) = true → cC T n k1 ≠ 0 → cC T n k1 ≠ 1 → cRes n A V cu out k' ok l (bS (fX4_next A3 V3 cu) (fun A30 V31 c32 => bS (fRd fu 34 (nI o) A30 V31 c32) (fun A35 V36 c37 => bS (fX4_step (-(cC T n k1)) A35 V36 c37) (fun A40 V41 c42 => some (A40, V41, c42))))) := by
            intro q2 n0 n1
            rw [if_pos q2] at e
            have hk1 : k1 < 160 := lt160 (cC_end hn) n1
            obtain ⟨k2, ok2, l2, e2, f1, f2, f3⟩ := hP 34 o (k1 + 1) (by omega) (by omega) h3 (by omega) (by omega)
            have e3 : pB (pP (cC T n) (tV T n) fu 34 o (k1 + 1)) (fun k2 l2 => some (k2, true, l2 ++ [-(cC T n k1)])) = some (k2, ok2, if ok2 = true then l2 ++ [-(cC T n k1)] else l2) := by
              rw [e2]
              cases ok2 <;> rfl
            obtain ⟨A5, V5, w1, w2, w3, w4, w5⟩ := c_pre (rc := fRd fu 34 (nI o)) hn (-(cC T n k1)) T3 h' n0 (by simp only [List.length_append]; omega) ⟨k2, ok2, l2, e2, f1, f2, f3⟩ (fun A V k' ok l z1 z2 z3 => ih 34 o (k1 + 1) A V (out ++ l1) k' ok l (by omega) (by omega) h3 (by omega) z1 (by omega) (by simp only [List.length_append]; omega) z2 z3) e3
            rw [e2] at e
            cases ok2 with
            | false =>
              obtain ⟨rfl, rfl, rfl⟩ := oke e
              exact ⟨A5, V5, w1, fun z => (by cases z), fun z => by rw [hT, ← T3]; exact w3 z, fun b hb => by rw [w4 b hb, y4 b hb], fun a j h => by rw [w5 a j h, y5 a j h]⟩
            | true =>
              obtain ⟨rfl, rfl, rfl⟩ := oke e
              refine ⟨A5, V5, w1, fun z => ?_, fun z => (by cases z), fun b hb => by rw [w4 b hb, y4 b hb], fun a j h => by rw [w5 a j h, y5 a j h]⟩
              have := w2 z
              rw [if_pos rfl] at this
              simpa only [List.append_assoc] using this
          by_cases q1 : cC T n k1 = 60
          · rw [if_pos q1]
            exact cmp (by rw [q1]; rfl) (by rw [q1]; decide) (by rw [q1]; decide)
          · rw [if_neg q1]
            by_cases q2 : cC T n k1 = 61
            · rw [if_pos q2]
              exact cmp (by rw [q2]; rfl) (by rw [q2]; decide) (by rw [q2]; decide)
            · rw [if_neg q2]
              rw [if_neg (by unfold isCmp; rw [decide_eq_false q1, decide_eq_false q2]; decide)] at e
              obtain ⟨rfl, rfl, rfl⟩ := oke e
              exact ⟨A3, V3, rfl, y2, y3, y4, y5⟩
    rw [if_neg j3] at e ⊢
    by_cases j4 : j = 34
    · rw [if_pos j4] at e ⊢
      exact c_lev hn rfl rfl lf_sum (fun k hk => hP 35 o k (by omega) (by omega) h3 (by omega) hk) (hR 35 o (by omega) (by omega) h3 (by omega)) hT hk hl h e
    rw [if_neg j4] at e ⊢
    by_cases j5 : j = 35
    · rw [if_pos j5] at e ⊢
      exact c_lev hn rfl rfl lf_term (fun k hk => hP 36 o k (by omega) (by omega) h3 (by omega) hk) (hR 36 o (by omega) (by omega) h3 (by omega)) hT hk hl h e
    have j6 : j = 36 := by omega
    rw [if_neg j5, if_pos j6] at e ⊢
    by_cases q1 : cC T n k = 2
    · rw [if_pos q1] at e
      obtain ⟨rfl, rfl, rfl⟩ := oke e
      have h8 : V 95 8 = tV T n k := by rw [← hT]; exact h.2.2.2.2.1 (by rw [hT]; exact cC_2 q1)
      rw [s_num (hx.trans q1), h8]
      exact c_one hn _ hT h hl (by rw [q1]; decide) (by rw [q1]; decide)
    rw [if_neg q1] at e
    by_cases q2 : 3 ≤ cC T n k ∧ cC T n k ≤ 8
    · rw [if_pos q2] at e
      obtain ⟨rfl, rfl, rfl⟩ := oke e
      rw [s_nam (by rw [hx]; exact q1) (by rw [hx]; exact Int32.not_lt.mpr q2.1) (by rw [hx]; exact Int32.not_lt.mpr q2.2), hx]
      exact c_one hn _ hT h hl (fun z => by rw [z] at q2; exact absurd q2.1 (by decide)) (fun z => by rw [z] at q2; exact absurd q2.1 (by decide))
    rw [if_neg q2] at e
    by_cases q3 : cC T n k = 45 ∧ o < 5
    · rw [if_pos q3] at e
      have hk1 : k < 160 := lt160 (cC_end hn) (by rw [q3.1]; decide)
      rw [s_min (hx.trans q3.1) (by simp (disch := omega) only [ltI, leI, eqI, tI, tI1, ti_0, ti_1, ti_2, ti_3, ti_4, ti_5, ti_6, ti_7, ti_8, ti_9, ti_10, ti_11, ti_12, ti_14, ti_18, ti_30, ti_39, ti_40, ti_41, ti_45, ti_50, ti_59, ti_97, ti_99, ti_100, ti_122, ti_160, ti_243, ti_255, ti_399, ti_999, ti_1000, ti_1024, ti_99999, tm_1, tm_2, tm_3, tm_4, tm_5, tm_7, tm_11, tm_12, tm_13, tm_14, tm_100, if_pos, if_neg, if_true, if_false, bC_in, bI_s, bS_s, bX_s, bY_s, sO, tC]; omega), nI_1]
      exact c_pre hn (-15) hT h (by rw [q3.1]; decide) hl (hP 36 (o + 1) (k + 1) (by omega) (by omega) (by omega) (by omega) (by omega)) (fun A V k' ok l g1 g2 g3 => ih 36 (o + 1) (k + 1) A V out k' ok l (by omega) (by omega) (by omega) (by omega) g1 (by omega) (by omega) g2 g3) e
    rw [if_neg q3] at e
    by_cases q4 : cC T n k = 40 ∧ o < 5
    · rw [if_pos q4] at e
      have hk1 : k < 160 := lt160 (cC_end hn) (by rw [q4.1]; decide)
      rw [s_brk (hx.trans q4.1) (by simp (disch := omega) only [ltI, leI, eqI, tI, tI1, ti_0, ti_1, ti_2, ti_3, ti_4, ti_5, ti_6, ti_7, ti_8, ti_9, ti_10, ti_11, ti_12, ti_14, ti_18, ti_30, ti_39, ti_40, ti_41, ti_45, ti_50, ti_59, ti_97, ti_99, ti_100, ti_122, ti_160, ti_243, ti_255, ti_399, ti_999, ti_1000, ti_1024, ti_99999, tm_1, tm_2, tm_3, tm_4, tm_5, tm_7, tm_11, tm_12, tm_13, tm_14, tm_100, if_pos, if_neg, if_true, if_false, bC_in, bI_s, bS_s, bX_s, bY_s, sO, tC]; omega), nI_1]
      obtain ⟨V2, x1, x2, x3⟩ := at_next (cu := cu) hn h (fun z => by rw [hT] at z; have := cC_6 z; rw [q4.1] at this; exact absurd this (by decide))
      rw [x1, bS_s]
      obtain ⟨k1, ok1, l1, e1, g1, g2, g3⟩ := hP 31 (o + 1) (k + 1) (by omega) (by omega) (by omega) (by omega) (by omega)
      obtain ⟨A3, V3, y1, y2, y3, y4, y5⟩ := ih 31 (o + 1) (k + 1) A V2 out k1 ok1 l1 (by omega) (by omega) (by omega) (by omega) hT (by omega) (by omega) x2 e1
      rw [e1] at e
      rw [y1, bS_s]
      have T3 : A3 96 = T := by rw [y4 96 (by decide), hT]
      cases ok1 with
      | false =>
        obtain ⟨rfl, rfl, rfl⟩ := oke e
        obtain ⟨V4, z1, z2, z3⟩ := fl_expect (A := A3) (cu := cu) (x := 41) (Nat.le_trans tS_le hn) (by decide) (y3 rfl)
        rw [z1, bS_s]
        exact ⟨A3, V4, rfl, fun z => (by cases z), fun _ => z2, y4, fun a j h => by rw [z3 a j h, y5 a j h, x3 a j h]⟩
      | true =>
        obtain ⟨g4, g5⟩ := g3 rfl
        have e : (if cC T n k1 = 41 then some (k1 + 1, true, l1) else some (k1, false, l1)) = some (k', ok, l) := e
        obtain ⟨V4, z1, z2, z3, z4⟩ := at_expect (cu := cu) hn (x := 41) (by decide) (y2 rfl) (by simp only [List.length_append]; omega)
        rw [z1, bS_s]
        rw [T3] at z2 z3
        by_cases q5 : cC T n k1 = 41
        · rw [if_pos q5] at e
          obtain ⟨rfl, rfl, rfl⟩ := oke e
          exact ⟨A3, V4, rfl, fun _ => z2 q5, fun z => (by cases z), y4, fun a j h => by rw [z4 a j h, y5 a j h, x3 a j h]⟩
        · rw [if_neg q5] at e
          obtain ⟨rfl, rfl, rfl⟩ := oke e
          exact ⟨A3, V4, rfl, fun z => (by cases z), fun _ => by rw [hT]; exact z3 q5, y4, fun a j h => by rw [z4 a j h, y5 a j h, x3 a j h]⟩
    rw [if_neg q4] at e
    obtain ⟨rfl, rfl, rfl⟩ := oke e
    rw [s_bad (by rw [hx]; exact q1) (by rw [hx]; exact q2) (fun z => by have : ¬ o < 5 := fun y => q3 ⟨hx.symm.trans z, y⟩; simp (disch := omega) only [ltI, leI, eqI, tI, tI1, ti_0, ti_1, ti_2, ti_3, ti_4, ti_5, ti_6, ti_7, ti_8, ti_9, ti_10, ti_11, ti_12, ti_14, ti_18, ti_30, ti_39, ti_40, ti_41, ti_45, ti_50, ti_59, ti_97, ti_99, ti_100, ti_122, ti_160, ti_243, ti_255, ti_399, ti_999, ti_1000, ti_1024, ti_99999, tm_1, tm_2, tm_3, tm_4, tm_5, tm_7, tm_11, tm_12, tm_13, tm_14, tm_100, if_pos, if_neg, if_true, if_false, bC_in, bI_s, bS_s, bX_s, bY_s, sO, tC]; omega) (fun z => by have : ¬ o < 5 := fun y => q4 ⟨hx.symm.trans z, y⟩; simp (disch := omega) only [ltI, leI, eqI, tI, tI1, ti_0, ti_1, ti_2, ti_3, ti_4, ti_5, ti_6, ti_7, ti_8, ti_9, ti_10, ti_11, ti_12, ti_14, ti_18, ti_30, ti_39, ti_40, ti_41, ti_45, ti_50, ti_59, ti_97, ti_99, ti_100, ti_122, ti_160, ti_243, ti_255, ti_399, ti_999, ti_1000, ti_1024, ti_99999, tm_1, tm_2, tm_3, tm_4, tm_5, tm_7, tm_11, tm_12, tm_13, tm_14, tm_100, if_pos, if_neg, if_true, if_false, bC_in, bI_s, bS_s, bX_s, bY_s, sO, tC]; omega)]
    exact cAt_z (x := 0) hn hT h hl hk
/-- failed, a reading stays failed -/
theorem fl_rd {f : Nat} (hf : f ≤ 160) {A V : xM} (h : cFl n V f) : ∃ V2, fRd 45 31 0 A V cu = some (A, V2, cu) ∧ cFl n V2 f ∧ ∀ a j, a ≠ 95 → V2 a j = V a j := by
  obtain ⟨V2, x1, x2, x3⟩ := fl_fail (A := A) (cu := cu) hf h
  have h5 := h.2.1
  have e6 : fRd 40 36 0 A V cu = some (A, V2, cu) := by
    rw [show (40 : Nat) = 39 + 1 from rfl, fRd, if_neg (by decide), if_neg (by decide), if_neg (by decide), if_neg (by decide), if_neg (by decide), if_pos rfl, s_bad (by rw [h5]; decide) (by rw [h5]; decide) (fun z => by rw [h5] at z; exact absurd z (by decide)) (fun z => by rw [h5] at z; exact absurd z (by decide)), x1, bS_s]
  have e5 : fRd 41 35 0 A V cu = some (A, V2, cu) := by
    rw [show (41 : Nat) = 40 + 1 from rfl, fRd, if_neg (by decide), if_neg (by decide), if_neg (by decide), if_neg (by decide), if_pos rfl]
    unfold fX4_readTerm
    rw [e6, bS_s]
    exact fl_loop (op := fun x => decide (x = 42)) rfl lf_term (fu_gt (by omega)) x2
  have e4 : fRd 42 34 0 A V cu = some (A, V2, cu) := by
    rw [show (42 : Nat) = 41 + 1 from rfl, fRd, if_neg (by decide), if_neg (by decide), if_neg (by decide), if_pos rfl]
    unfold fX4_readSum
    rw [e5, bS_s]
    exact fl_loop (op := isSum) rfl lf_sum (fu_gt (by omega)) x2
  have e3 : fRd 43 33 0 A V cu = some (A, V2, cu) := by
    rw [show (43 : Nat) = 42 + 1 from rfl, fRd, if_neg (by decide), if_neg (by decide), if_pos rfl]
    unfold fX4_readNot
    rw [h5, if_neg (by decide), e4, bS_s, x2.2.1, if_neg (by decide), if_neg (by decide)]
  have e2 : fRd 44 32 0 A V cu = some (A, V2, cu) := by
    rw [show (44 : Nat) = 43 + 1 from rfl, fRd, if_neg (by decide), if_pos rfl]
    unfold fX4_readAnd
    rw [e3, bS_s]
    exact fl_loop (op := fun x => decide (x = 13)) rfl lf_and (fu_gt (by omega)) x2
  refine ⟨V2, ?_, x2, x3⟩
  rw [show (45 : Nat) = 44 + 1 from rfl, fRd, if_pos rfl]
  unfold fX4_readOr
  rw [e2, bS_s]
  exact fl_loop (op := fun x => decide (x = 12)) rfl lf_or (fu_gt (by omega)) x2
end CX
