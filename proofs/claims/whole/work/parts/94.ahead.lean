/-! TEXT: the reference reads an E as the machine does. -/
section AH
variable {A V : xM} {cu : Value} {row : Nat} {W out : List Int32} {C : List Bool} {b : Bool} {lm : Int32}
theorem ah_40 (h20 : V 132 20 = 4) (h21 : V 132 21 = 40) (h27 : V 132 27 ≠ 5) : fX9_ahead lm A V cu = bS (fX9_await (30 : Int32) A (up2 V 132 27 ((V 132 27) + (1 : Int32))) cu) (fun A7 V8 c9 => bC (xq_in ((up2 V8 132 28 ((V8 132 28) + (1 : Int32))) 132 28) 8) (some ((1 : Int32), (aw A7 149 ((up2 V8 132 28 ((V8 132 28) + (1 : Int32))) 132 28) (vp_nar .boolean (0 : Int32))), (up2 V8 132 28 ((V8 132 28) + (1 : Int32))), c9))) := by
  unfold fX9_ahead
  rw [if_pos h20, if_pos h21, if_neg h27, if_pos (by rw [up2_n (by omega)]; exact h20), if_pos (by rw [up2_n (by omega)]; exact h21)]
theorem ah_45 (h20 : V 132 20 = 4) (h21 : V 132 21 = 45) (h27 : V 132 27 ≠ 5) : fX9_ahead lm A V cu = bS (fX9_await (18 : Int32) A (up2 V 132 27 ((V 132 27) + (1 : Int32))) cu) (fun A51 V52 c53 => some ((1 : Int32), A51, V52, c53)) := by
  unfold fX9_ahead
  rw [if_pos h20, if_neg (by rw [h21]; decide), if_pos h21, if_neg h27, if_pos (by rw [up2_n (by omega)]; exact h20), if_neg (by rw [up2_n (by omega), h21]; decide), if_neg (by rw [up2_n (by omega), h20]; decide)]
theorem ah_14 (hm : lm ≠ 0) (h20 : V 132 20 = 3) (h21 : V 132 21 = 5) (h27 : V 132 27 ≠ 5) : fX9_ahead lm A V cu = bS (fX9_await (12 : Int32) A (up2 V 132 27 ((V 132 27) + (1 : Int32))) cu) (fun A51 V52 c53 => some ((1 : Int32), A51, V52, c53)) := by
  unfold fX9_ahead
  rw [if_neg (by rw [h20]; decide), if_neg hm, if_pos h20, if_pos h21, if_neg h27, if_neg (by rw [up2_n (by omega), h20]; decide), if_pos (by rw [up2_n (by omega)]; exact h20)]
theorem ah_no (h1 : V 132 20 = 4 → V 132 21 = 40 → V 132 27 = 5) (h2 : V 132 20 = 4 → V 132 21 = 45 → V 132 27 = 5) (h3 : lm ≠ 0 → V 132 20 = 3 → V 132 21 = 5 → V 132 27 = 5) : fX9_ahead lm A V cu = some (0, A, V, cu) := by
  unfold fX9_ahead
  by_cases q : V 132 20 = 4
  · rw [if_pos q]
    by_cases q1 : V 132 21 = 40
    · rw [if_pos q1, if_pos (h1 q q1)]
    · rw [if_neg q1]
      by_cases q2 : V 132 21 = 45
      · rw [if_pos q2, if_pos (h2 q q2)]
      · rw [if_neg q2]
        by_cases q3 : lm = 0
        · rw [if_pos q3]
        · rw [if_neg q3, if_neg (by rw [q]; decide)]
  · rw [if_neg q]
    by_cases q3 : lm = 0
    · rw [if_pos q3]
    · rw [if_neg q3]
      by_cases q4 : V 132 20 = 3
      · rw [if_pos q4]
        by_cases q5 : V 132 21 = 5
        · rw [if_pos q5, if_pos (h3 q3 q4 q5)]
        · rw [if_neg q5]
      · rw [if_neg q4]
theorem o5 {W : List Int32} (h27 : V 132 27 = nI (nO W)) (ho : nO W < 5) : V 132 27 ≠ 5 := fun z => by rw [h27] at z; have := (nI_eq (b := 5) (by omega) (by omega)).mp z; omega
/-- one that opens waits -/
theorem r_aw1 (x y : Int32) (hy : y = rop x) (hx : isW x = true) (hx2 : nO (x :: W) = nO W + 1) (hl : W.length < 170) (h : rSt row A V W C out) : ∃ A2 V2, fX9_await y A (up2 V 132 27 ((V 132 27) + (1 : Int32))) cu = some (A2, V2, cu) ∧ rSt row A2 V2 (x :: W) C out ∧ rFr row A V A2 V2 ∧ rTf A V A2 V2 := by
  obtain ⟨s26, s27, s28, s30, s31, sW, sC, sO, sI⟩ := h
  rw [s27, nI_1]
  obtain ⟨A2, V2, y1, y2, y3, y4⟩ := r_await (cu := cu) (A := A) (V := up2 V 132 27 (nI (nO W + 1))) (row := row) (C := C) (out := out) hl x y hy hx (by rw [up2_n (by omega)]; exact s26) (by rw [up2_s, hx2]) (by rw [up2_n (by omega)]; exact s28) (by rw [up2_n (by omega)]; exact s30) (by rw [up2_n (by omega)]; exact s31) sW sC sO sI
  refine ⟨A2, V2, y1, y2, rFr_t ⟨fun _ _ _ _ => rfl, fun _ _ => rfl, fun a j h => up2_n (by omega)⟩ y3, rTf_t ⟨rfl, ?_, ?_, ?_, ?_, ?_⟩ y4⟩
  all_goals exact up2_n (by omega)
theorem r_ah40 (h20 : V 132 20 = 4) (h21 : V 132 21 = 40) (ho : nO W < 5) (hl : W.length < 170) (hC : C.length < 6) (h : rSt row A V W (b :: C) out) : ∃ A2 V2, fX9_ahead lm A V cu = some (1, A2, V2, cu) ∧ rSt row A2 V2 (40 :: W) (false :: b :: C) out ∧ rFr row A V A2 V2 ∧ rTf A V A2 V2 := by
  rw [ah_40 h20 h21 (o5 h.2.1 ho)]
  obtain ⟨A2, V2, y1, y2, y3, y4⟩ := r_aw1 (cu := cu) 40 30 rfl rfl (by rw [nO, if_pos (Or.inl rfl), Nat.add_comm]) hl h
  rw [y1, bS_s]
  obtain ⟨t26, t27, t28, t30, t31, tW, tc, tO, tI⟩ := y2
  have t28 : V2 132 28 = nI C.length := t28
  rw [up2_s, t28, nI_1, bC_in ⟨by omega, by decide⟩, nar0]
  refine ⟨_, _, rfl, ⟨by rw [up2_n (by omega)]; exact t26, by rw [up2_n (by omega)]; exact t27, by rw [up2_s]; rfl, by rw [up2_n (by omega)]; exact t30, by rw [up2_n (by omega)]; exact t31, by rw [aw_n (by decide)]; exact tW, ⟨by rw [aw_s, tC (by omega)]; exact pk_us, by rw [aw_s, tC (by omega)]; exact ck_u (Nat.le_refl _) tc⟩, fun j hj => by rw [aw_n (by decide)]; exact tO j hj, tI⟩, rFr_t y3 ⟨fun b h1 h2 h3 => aw_n h3, fun i hi => by rw [aw_n (by decide)], fun a j h => up2_n (by omega)⟩, rTf_t y4 ⟨aw_n (by decide), ?_, ?_, ?_, ?_, ?_⟩⟩
  all_goals exact up2_n (by omega)
end AH
/-- the reference at the token k -/
def rTk (nn : Nat) (A V : xM) (k : Nat) : Prop := V 132 14 = nI nn ∧ V 132 20 = nI (tK (A 143) nn k) ∧ V 132 22 = nI (tS (A 143) nn k) ∧ V 132 19 = nI (ps (A 143) nn (k + 1)) ∧ (tK (A 143) nn k < 5 → V 132 21 = tV (A 143) nn k)
theorem rTk_f {nn k : Nat} {A V A2 V2 : xM} (h : rTk nn A V k) (hf : rTf A V A2 V2) : rTk nn A2 V2 k := by
  obtain ⟨f1, f2, f3, f4, f5, f6⟩ := hf
  unfold rTk
  rw [f1, f2, f3, f4, f5, f6]
  exact h
theorem lets_f {row : Nat} {A V A2 V2 : xM} (h : lets A) (hf : rFr row A V A2 V2) : lets A2 := by
  unfold lets
  rw [hf.1 146 (by decide) (by decide) (by decide), hf.1 147 (by decide) (by decide) (by decide)]
  exact h
theorem r_nx {nn k row : Nat} {A V : xM} {cu : Value} {W out : List Int32} {C : List Bool} (hL : lets A) (hn : nn ≤ 160) (h : rTk nn A V k) (hs : rSt row A V W C out) : ∃ V2, fX9_next A V cu = some (A, V2, cu) ∧ rTk nn A V2 (k + 1) ∧ rSt row A V2 W C out ∧ rFr row A V A V2 := by
  obtain ⟨h1, h2, h3, h4, h5⟩ := h
  obtain ⟨V2, x1, x2, x3, x4, x5, x6⟩ := r_next (cu := cu) hL hn (ps_le (t := A 143) (k + 1)) h1 h4
  obtain ⟨s26, s27, s28, s30, s31, sW, sC, sO, sI⟩ := hs
  exact ⟨V2, x1, ⟨by rw [x6 _ _ (by omega)]; exact h1, x2, x3, x4, x5⟩, ⟨by rw [x6 _ _ (by omega)]; exact s26, by rw [x6 _ _ (by omega)]; exact s27, by rw [x6 _ _ (by omega)]; exact s28, by rw [x6 _ _ (by omega)]; exact s30, by rw [x6 _ _ (by omega)]; exact s31, sW, sC, sO, sI⟩, fun _ _ _ _ => rfl, fun _ _ => rfl, fun a j h => x6 a j (by omega)⟩
section TT
variable {t : Nat → Int32} {n k : Nat}
theorem sg_w : ∀ w, w < 6 → isSg (nI (w + 3)) = false ∧ isSg (nI (w + 9)) = false := by decide
theorem tok_s {x : Int32} (hs : isSg x = true) (h : cC t n k = x) : tK t n k = 4 ∧ tV t n k = x := by
  rcases tok_c t n k with ⟨-, q⟩ | ⟨-, w, hw, -, q⟩ | ⟨-, w, hw, -, q⟩ | ⟨q1, q, q2⟩ | ⟨-, q⟩ | ⟨-, q⟩
  · rw [← h, q] at hs; exact absurd hs (by decide)
  · rw [← h, q, (sg_w w hw).1] at hs; cases hs
  · rw [← h, q, (sg_w w hw).2] at hs; cases hs
  · exact ⟨q1, q.symm.trans h⟩
  · rw [← h, q] at hs; exact absurd hs (by decide)
  · rw [← h, q] at hs; exact absurd hs (by decide)
theorem nI_93 : ∀ w, w < 6 → ∀ u, u < 6 → nI (w + 3) ≠ nI (u + 9) ∧ (nI (w + 9) = nI (u + 9) → w = u) ∧ nI (u + 9) ≠ 2 ∧ nI (u + 9) ≠ 1 ∧ nI (u + 9) ≠ 0 := by decide
theorem tok_k {u : Nat} (hu : u < 6) (h : cC t n k = nI (u + 9)) : tK t n k = 3 ∧ tV t n k = nI u := by
  rcases tok_c t n k with ⟨-, q⟩ | ⟨-, w, hw, -, q⟩ | ⟨q1, w, hw, q2, q⟩ | ⟨q1, q, q2⟩ | ⟨-, q⟩ | ⟨-, q⟩
  · exact absurd (h.symm.trans q) (nI_93 0 (by omega) u hu).2.2.1
  · exact absurd (q.symm.trans h) (nI_93 w hw u hu).1
  · have := (nI_93 w hw u hu).2.1 (q.symm.trans h)
    rw [← this]
    exact ⟨q1, q2⟩
  · rw [← q, h, (sg_w u hu).2] at q2; cases q2
  · exact absurd (h.symm.trans q) (nI_93 0 (by omega) u hu).2.2.2.1
  · exact absurd (h.symm.trans q) (nI_93 0 (by omega) u hu).2.2.2.2
theorem tok_n (h : 3 ≤ cC t n k ∧ cC t n k ≤ 8) : tK t n k = 2 ∧ ∃ w, w < 6 ∧ tV t n k = nI w ∧ cC t n k = nI (w + 3) := by
  rcases tok_c t n k with ⟨-, q⟩ | q | ⟨q1, w, hw, q2, q⟩ | ⟨q1, q, q2⟩ | ⟨-, q⟩ | ⟨-, q⟩
  · rw [q] at h; exact absurd h (by decide)
  · exact q
  · rw [q] at h; exact absurd h (nI_sm w hw).2.2.2
  · rw [q] at h; exact absurd h (sg_no _ q2).2.1
  · rw [q] at h; exact absurd h (by decide)
  · rw [q] at h; exact absurd h (by decide)
theorem tK_le : 1 ≤ tK t n k ∧ tK t n k ≤ 6 := by
  rcases tok_c t n k with ⟨q, -⟩ | ⟨q, -⟩ | ⟨q, -⟩ | ⟨q, -⟩ | ⟨q, -⟩ | ⟨q, -⟩ <;> omega
end TT
section TU
variable {nn k : Nat} {A V : xM}
theorem rt_4 (h : rTk nn A V k) (q : V 132 20 = 4) : V 132 21 = cC (A 143) nn k := by
  have := tK_le (t := A 143) (n := nn) (k := k)
  have e : tK (A 143) nn k = 4 := (nI_eq (b := 4) (by omega) (by omega)).mp (h.2.1.symm.trans q)
  rw [h.2.2.2.2 (by omega)]
  rcases tok_c (A 143) nn k with ⟨q, -⟩ | ⟨q, -⟩ | ⟨q, -⟩ | ⟨q, q2, -⟩ | ⟨q, -⟩ | ⟨q, -⟩
  · omega
  · omega
  · omega
  · exact q2.symm
  · omega
  · omega
theorem rt_3 (h : rTk nn A V k) (q : V 132 20 = 3) : ∃ w, w < 6 ∧ V 132 21 = nI w ∧ cC (A 143) nn k = nI (w + 9) := by
  have := tK_le (t := A 143) (n := nn) (k := k)
  have e : tK (A 143) nn k = 3 := (nI_eq (b := 3) (by omega) (by omega)).mp (h.2.1.symm.trans q)
  rw [h.2.2.2.2 (by omega)]
  rcases tok_c (A 143) nn k with ⟨q, -⟩ | ⟨q, -⟩ | ⟨q, w, hw, q2, q3⟩ | ⟨q, q2, -⟩ | ⟨q, -⟩ | ⟨q, -⟩
  · omega
  · omega
  · exact ⟨w, hw, q2, q3⟩
  · omega
  · omega
  · omega
theorem rt_s (h : rTk nn A V k) {x : Int32} (hs : isSg x = true) (hx : cC (A 143) nn k = x) : V 132 20 = 4 ∧ V 132 21 = x := by
  obtain ⟨e1, e2⟩ := tok_s hs hx
  exact ⟨by rw [h.2.1, e1]; rfl, by rw [h.2.2.2.2 (by omega), e2]⟩
theorem rt_k (h : rTk nn A V k) {u : Nat} (hu : u < 6) (hx : cC (A 143) nn k = nI (u + 9)) : V 132 20 = 3 ∧ V 132 21 = nI u := by
  obtain ⟨e1, e2⟩ := tok_k hu hx
  exact ⟨by rw [h.2.1, e1]; rfl, by rw [h.2.2.2.2 (by omega), e2]⟩
theorem rt_1 (h : rTk nn A V k) (q : V 132 20 = 1) : cC (A 143) nn k = 2 := by
  have := tK_le (t := A 143) (n := nn) (k := k)
  have e : tK (A 143) nn k = 1 := (nI_eq (b := 1) (by omega) (by omega)).mp (h.2.1.symm.trans q)
  unfold cC
  rw [e]
  rfl
theorem rt_2 (h : rTk nn A V k) (q : V 132 20 = 2) : 3 ≤ cC (A 143) nn k ∧ cC (A 143) nn k ≤ 8 := by
  have := tK_le (t := A 143) (n := nn) (k := k)
  have e : tK (A 143) nn k = 2 := (nI_eq (b := 2) (by omega) (by omega)).mp (h.2.1.symm.trans q)
  rcases tok_c (A 143) nn k with ⟨q, -⟩ | ⟨q, w, hw, q2, q3⟩ | ⟨q, -⟩ | ⟨q, q2, -⟩ | ⟨q, -⟩ | ⟨q, -⟩
  · omega
  · rw [q3]; exact (nI_sm w hw).2.2.1
  · omega
  · omega
  · omega
  · omega
end TU
