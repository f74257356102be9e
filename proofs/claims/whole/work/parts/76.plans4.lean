/-! PLANS: least, why, place, whole. -/
section OPS76
variable {LL : Nat} {xs : Nat → Int32} {d : Nat}
theorem op_least (hd : 80 ≤ d) (a b c e w : Int32) : iv_op (xk_ro LL xs) d 94 193 [.int a, .int b, .int c, .int e, .int w] := by
  refine op_mk (fc := fun tx A V cu => fX8_least tx a b c e w A V cu) (fm := fun tx A V cu => fX9_least a b c e w A V cu) (fun tx A V cu r A' V' c' q => sX8_least (by omega) q) (fun tx A V cu r A' V' c' q => sX9_least (by omega) q) ?_
  intro N B A V tx cu hv
  obtain ⟨⟨s1, s2, s3⟩, ⟨p1, p2, p3⟩, -⟩ := id hv.1
  show ∃ (x : Int32) (A1 V1 : xM) (c1 : Value), fX8_least tx a b c e w A V cu = some (x, A1, V1, c1) ∧ ∃ (A2 V2 : xM) (c2 : Value), fX9_least a b c e w A1 V1 c1 = some (x, A2, V2, c2) ∧ ∃ (N' : Nat → Nat) (B' : Nat → Nat → Nat), iv N' B' A2 V2 tx c2
  unfold fX8_least
  rw [s1, p1]
  by_cases hg : good N a b c e
  rotate_left
  · rw [cg0 s3 p3 hg]
    refine ⟨-5, A, V, cu, rfl, A, V, cu, ?_, N, B, hv⟩
    unfold fX9_least
    rw [ask0 s3 p3 s2 p2 hg, bI_s, if_pos rfl]
  obtain ⟨s, r, wa, no, hs, hr, hwa, hno, rfl, rfl, rfl, rfl⟩ := hg
  rw [cg1 s3 p3 hs hr hwa hno]
  have run : ∀ (A1 V1 : xM) (c1 : Value), agr A V A1 V1 → ∃ A2 V2 c2, bS (fX9_plan (nI s) (nI r) (nI wa) (nI no) (0 : Int32) A1 V1 c1) (fun A7 V8 c9 => if w = 0 then (some ((V8 132 41), A7, V8, c9) : Option (Int32 × xS)) else (some ((V8 132 42), A7, V8, c9))) = some (if w = 0 then (pA N B tx (A 131) (A 135) s r wa no 0).1 else (pA N B tx (A 131) (A 135) s r wa no 0).2, A2, V2, c2) ∧ agr A V A2 V2 := by
    intro A1 V1 c1 ha
    obtain ⟨A2, V2, c2, w1, w2, w3, w4⟩ := r_planP hv ha c1 hs hr (aw' := 0) (by omega) hwa hno
    have w1 : fX9_plan (nI s) (nI r) (nI wa) (nI no) (0 : Int32) A1 V1 c1 = some (A2, V2, c2) := w1
    refine ⟨A2, V2, c2, ?_, w2⟩
    rw [w1, bS_s, w3, w4]
    by_cases q : w = 0
    · rw [if_pos q, if_pos q]
    · rw [if_neg q, if_neg q]
  have gr : ∀ (A1 V1 : xM) (c1 : Value), agr A V A1 V1 → ¬ w < 0 → ¬ 1 < w → fX9_least (nI s) (nI r) (nI wa) (nI no) w A1 V1 c1 = bS (fX9_plan (nI s) (nI r) (nI wa) (nI no) (0 : Int32) A1 V1 c1) (fun A7 V8 c9 => if w = 0 then (some ((V8 132 41), A7, V8, c9) : Option (Int32 × xS)) else (some ((V8 132 42), A7, V8, c9))) := by
    intro A1 V1 c1 ha h1 h2
    unfold fX9_least
    rw [ask1 s3 p3 ((ha.2 132 2 rfl).trans s2) ((ha.2 132 4 rfl).trans p2) hs hr hwa hno, bI_s, if_neg (by decide), if_neg h1, if_neg h2]
  by_cases w0 : w = 0
  · rw [if_pos w0]
    obtain ⟨A1, V1, x1, x2, x3, x4⟩ := c_run hv (agr_r A V) cu hs hr hwa hno (fun (x17 : Int32) (A18 V19 : xM) (c20 : Value) => (some ((V19 84 0), A18, V19, c20) : Option (Int32 × xS)))
    obtain ⟨A2, V2, c2, y1, y2⟩ := run A1 V1 (.ref (tref (N 3))) x2.1
    refine ⟨(pA N B tx (A 131) (A 135) s r wa no 0).1, A1, V1, .ref (tref (N 3)), ?_, A2, V2, c2, ?_, N, B, iv_agr y2 hv⟩
    · refine Eq.trans x1 ?_
      rw [x3]
    · rw [gr A1 V1 _ x2.1 (by rw [w0]; decide) (by rw [w0]; decide), y1, if_pos w0]
  rw [if_neg w0]
  by_cases w1 : w = 1
  · rw [if_pos w1]
    obtain ⟨A1, V1, x1, x2, x3, x4⟩ := c_run hv (agr_r A V) cu hs hr hwa hno (fun (x17 : Int32) (A18 V19 : xM) (c20 : Value) => (some ((V19 84 1), A18, V19, c20) : Option (Int32 × xS)))
    obtain ⟨A2, V2, c2, y1, y2⟩ := run A1 V1 (.ref (tref (N 3))) x2.1
    refine ⟨(pA N B tx (A 131) (A 135) s r wa no 0).2, A1, V1, .ref (tref (N 3)), ?_, A2, V2, c2, ?_, N, B, iv_agr y2 hv⟩
    · refine Eq.trans x1 ?_
      rw [x4]
    · rw [gr A1 V1 _ x2.1 (by rw [w1]; decide) (by rw [w1]; decide), y1, if_neg w0]
  rw [if_neg w1]
  refine ⟨-7, A, V, cu, rfl, A, V, cu, ?_, N, B, hv⟩
  unfold fX9_least
  rw [ask1 s3 p3 s2 p2 hs hr hwa hno, bI_s, if_neg (by decide)]
  rcases sp3 w 0 1 with h | h | h
  · rw [if_pos h]
  · by_cases h2 : w < 0
    · rw [if_pos h2]
    · rw [if_neg h2, if_pos h]
  · rcases sp_0_1 h with h | h
    · exact absurd h w0
    · exact absurd h w1
theorem op_why (hd : 80 ≤ d) (a b c e : Int32) : iv_op (xk_ro LL xs) d 95 194 [.int a, .int b, .int c, .int e] := by
  refine op_mk (fc := fun tx A V cu => fX8_why tx a b c e A V cu) (fm := fun tx A V cu => fX9_why a b c e A V cu) (fun tx A V cu r A' V' c' q => sX8_why (by omega) q) (fun tx A V cu r A' V' c' q => sX9_why (by omega) q) ?_
  intro N B A V tx cu hv
  obtain ⟨⟨s1, s2, s3⟩, ⟨p1, p2, p3⟩, -⟩ := id hv.1
  show ∃ (x : Int32) (A1 V1 : xM) (c1 : Value), fX8_why tx a b c e A V cu = some (x, A1, V1, c1) ∧ ∃ (A2 V2 : xM) (c2 : Value), fX9_why a b c e A1 V1 c1 = some (x, A2, V2, c2) ∧ ∃ (N' : Nat → Nat) (B' : Nat → Nat → Nat), iv N' B' A2 V2 tx c2
  unfold fX8_why
  rw [s1, p1]
  by_cases hg : good N a b c e
  rotate_left
  · rw [cg0 s3 p3 hg]
    refine ⟨-5, A, V, cu, rfl, A, V, cu, ?_, N, B, hv⟩
    unfold fX9_why
    rw [ask0 s3 p3 s2 p2 hg, bI_s, if_pos rfl]
  obtain ⟨s, r, wa, no, hs, hr, hwa, hno, rfl, rfl, rfl, rfl⟩ := hg
  rw [cg1 s3 p3 hs hr hwa hno]
  obtain ⟨A1, V1, x1, x2, x3, x4⟩ := c_run hv (agr_r A V) cu hs hr hwa hno (fun (x23 : Int32) (A24 V25 : xM) (c26 : Value) => if x23 = (-1 : Int32) then (fX8_why_L77 tx (nI wa) (nI no) (fun (l5_29 : Int32) (A37 V38 : xM) (c39 : Value) => some (l5_29, A37, V38, c39)) FU (0 : Int32) (0 : Int32) A24 V25 c26) else (some ((0 : Int32), A24, V25, c26) : Option (Int32 × xS)))
  by_cases q : (pA N B tx (A 131) (A 135) s r wa no 0).1 = -1
  · rw [if_pos q] at x1
    obtain ⟨A2, V2, y1, y2⟩ := c_whyL hv hs hr hwa hno (fun (l5_29 : Int32) (A37 V38 : xM) (c39 : Value) => some (l5_29, A37, V38, c39)) (N 1) 0 FU A1 V1 x2 (by omega) (fu_gt (by omega))
    have ha2 := y2.1
    obtain ⟨A3, V3, c3, z1, z2, z3, z4⟩ := r_planP hv ha2 (.ref (tref (N 3))) hs hr (aw' := 0) (by omega) hwa hno
    have z1 : fX9_plan (nI s) (nI r) (nI wa) (nI no) (0 : Int32) A2 V2 (.ref (tref (N 3))) = some (A3, V3, c3) := z1
    obtain ⟨A4, V4, c4, u1, u2⟩ := r_whyL hv hs hr hwa hno (fun (l5_17 : Int32) (A24 V25 : xM) (c26 : Value) => some (l5_17, A24, V25, c26)) (N 1) 0 FU A3 V3 c3 z2 (by omega) (fu_gt (by omega))
    refine ⟨_, A2, V2, .ref (tref (N 3)), Eq.trans x1 y1, A4, V4, c4, ?_, N, B, iv_agr u2 hv⟩
    unfold fX9_why
    rw [ask1 s3 p3 ((ha2.2 132 2 rfl).trans s2) ((ha2.2 132 4 rfl).trans p2) hs hr hwa hno, bI_s, if_neg (by decide), z1, bS_s, z3, if_pos q]
    exact u1
  · rw [if_neg q] at x1
    obtain ⟨A3, V3, c3, z1, z2, z3, z4⟩ := r_planP hv x2.1 (.ref (tref (N 3))) hs hr (aw' := 0) (by omega) hwa hno
    have z1 : fX9_plan (nI s) (nI r) (nI wa) (nI no) (0 : Int32) A1 V1 (.ref (tref (N 3))) = some (A3, V3, c3) := z1
    refine ⟨0, A1, V1, .ref (tref (N 3)), x1, A3, V3, c3, ?_, N, B, iv_agr z2 hv⟩
    unfold fX9_why
    rw [ask1 s3 p3 ((x2.1.2 132 2 rfl).trans s2) ((x2.1.2 132 4 rfl).trans p2) hs hr hwa hno, bI_s, if_neg (by decide), z1, bS_s, z3, if_neg q]
theorem op_place (hd : 80 ≤ d) (a c e : Int32) : iv_op (xk_ro LL xs) d 96 195 [.int a, .int c, .int e] := by
  refine op_mk (fc := fun tx A V cu => fX8_place tx a c e A V cu) (fm := fun tx A V cu => fX9_place a c e A V cu) (fun tx A V cu r A' V' c' q => sX8_place (by omega) q) (fun tx A V cu r A' V' c' q => sX9_place (by omega) q) ?_
  intro N B A V tx cu hv
  obtain ⟨⟨s1, s2, s3⟩, ⟨p1, p2, p3⟩, -⟩ := id hv.1
  show ∃ (x : Int32) (A1 V1 : xM) (c1 : Value), fX8_place tx a c e A V cu = some (x, A1, V1, c1) ∧ ∃ (A2 V2 : xM) (c2 : Value), fX9_place a c e A1 V1 c1 = some (x, A2, V2, c2) ∧ ∃ (N' : Nat → Nat) (B' : Nat → Nat → Nat), iv N' B' A2 V2 tx c2
  unfold fX8_place
  rw [s1, p1]
  by_cases hg : good N a 0 c e
  rotate_left
  · have t := cg0 s3 p3 hg (some ((-5 : Int32), A, V, cu)) (fX8_place_L36 tx a c e (fun (l4_23 : Int32) (A31 V32 : xM) (c33 : Value) => some (l4_23, A31, V32, c33)) FU (-1 : Int32) (-1 : Int32) (0 : Int32) A V cu)
    rw [if_neg (show ¬ (0 : Int32) < 0 by decide), if_neg (show ¬ (4 : Int32) ≤ 0 by decide)] at t
    refine ⟨-5, A, V, cu, t, A, V, cu, ?_, N, B, hv⟩
    unfold fX9_place
    rw [ask0 s3 p3 s2 p2 hg, bI_s, if_pos rfl]
  obtain ⟨s, r, wa, no, hs, hr, hwa, hno, rfl, er, rfl, rfl⟩ := hg
  have t := cg1 (r := 0) s3 p3 hs (by omega) hwa hno (some ((-5 : Int32), A, V, cu)) (fX8_place_L36 tx (nI s) (nI wa) (nI no) (fun (l4_23 : Int32) (A31 V32 : xM) (c33 : Value) => some (l4_23, A31, V32, c33)) FU (-1 : Int32) (-1 : Int32) (0 : Int32) A V cu)
  rw [if_neg (show ¬ nI 0 < 0 by decide), if_neg (show ¬ (4 : Int32) ≤ nI 0 by decide)] at t
  rw [t]
  obtain ⟨A1, V1, c1, x1, x2⟩ := c_placeL hv hs hwa hno (fun (l4_23 : Int32) (A31 V32 : xM) (c33 : Value) => some (l4_23, A31, V32, c33)) 4 0 FU A V cu (agr_r A V) (by omega) (fu_gt (by omega))
  obtain ⟨A2, V2, c2, y1, y2⟩ := r_placeL hv hs hwa hno (fun (l5_13 : Int32) (A20 V21 : xM) (c22 : Value) => some (l5_13, A20, V21, c22)) 4 0 FU A1 V1 c1 x2 (by omega) (fu_gt (by omega))
  refine ⟨_, A1, V1, c1, x1, A2, V2, c2, ?_, N, B, iv_agr y2 hv⟩
  unfold fX9_place
  have hq := ask1 (A1 := A1) (V1 := V1) (N := N) (s := s) (r := 0) s3 p3 ((x2.2 132 2 rfl).trans s2) ((x2.2 132 4 rfl).trans p2) hs (by omega) hwa hno
  have hq : fX9_isAsked (nI s) (0 : Int32) (nI wa) (nI no) A1 V1 = some 1 := hq
  rw [hq, bI_s, if_neg (by decide)]
  exact y1
theorem op_whole (hd : 80 ≤ d) (a b : Int32) : iv_op (xk_ro LL xs) d 97 196 [.int a, .int b] := by
  refine op_mk (fc := fun tx A V cu => fX8_whole tx a b A V cu) (fm := fun tx A V cu => fX9_whole a b A V cu) (fun tx A V cu r A' V' c' q => sX8_whole (by omega) q) (fun tx A V cu r A' V' c' q => sX9_whole (by omega) q) ?_
  intro N B A V tx cu hv
  obtain ⟨⟨s1, s2, s3⟩, ⟨p1, p2, p3⟩, -⟩ := id hv.1
  have hsp := sh_p (N 1) (by omega)
  have h32 := p2_32 _ p3
  unfold fX8_whole fX9_whole
  rcases ix3 a 4 (by omega) with h | h | ⟨r, hr, rfl⟩
  · exact ⟨-5, A, V, cu, by simp (disch := omega) only [ltI, leI, eqI, tI, tI1, ti_0, ti_1, ti_2, ti_3, ti_4, ti_5, ti_6, ti_7, ti_8, ti_9, ti_10, ti_11, ti_12, ti_14, ti_18, ti_30, ti_39, ti_40, ti_41, ti_45, ti_50, ti_59, ti_97, ti_99, ti_100, ti_122, ti_160, ti_243, ti_255, ti_399, ti_999, ti_1000, ti_1024, ti_99999, tm_1, tm_2, tm_3, tm_4, tm_5, tm_7, tm_11, tm_12, tm_13, tm_14, tm_100, if_pos, if_neg, if_true, if_false, bC_in, bI_s, bS_s, bX_s, bY_s, sO, tC], A, V, cu, by simp (disch := omega) only [ltI, leI, eqI, tI, tI1, ti_0, ti_1, ti_2, ti_3, ti_4, ti_5, ti_6, ti_7, ti_8, ti_9, ti_10, ti_11, ti_12, ti_14, ti_18, ti_30, ti_39, ti_40, ti_41, ti_45, ti_50, ti_59, ti_97, ti_99, ti_100, ti_122, ti_160, ti_243, ti_255, ti_399, ti_999, ti_1000, ti_1024, ti_99999, tm_1, tm_2, tm_3, tm_4, tm_5, tm_7, tm_11, tm_12, tm_13, tm_14, tm_100, if_pos, if_neg, if_true, if_false, bC_in, bI_s, bS_s, bX_s, bY_s, sO, tC], N, B, hv⟩
  · exact ⟨-5, A, V, cu, by simp (disch := omega) only [ltI, leI, eqI, tI, tI1, ti_0, ti_1, ti_2, ti_3, ti_4, ti_5, ti_6, ti_7, ti_8, ti_9, ti_10, ti_11, ti_12, ti_14, ti_18, ti_30, ti_39, ti_40, ti_41, ti_45, ti_50, ti_59, ti_97, ti_99, ti_100, ti_122, ti_160, ti_243, ti_255, ti_399, ti_999, ti_1000, ti_1024, ti_99999, tm_1, tm_2, tm_3, tm_4, tm_5, tm_7, tm_11, tm_12, tm_13, tm_14, tm_100, if_pos, if_neg, if_true, if_false, bC_in, bI_s, bS_s, bX_s, bY_s, sO, tC], A, V, cu, by simp (disch := omega) only [ltI, leI, eqI, tI, tI1, ti_0, ti_1, ti_2, ti_3, ti_4, ti_5, ti_6, ti_7, ti_8, ti_9, ti_10, ti_11, ti_12, ti_14, ti_18, ti_30, ti_39, ti_40, ti_41, ti_45, ti_50, ti_59, ti_97, ti_99, ti_100, ti_122, ti_160, ti_243, ti_255, ti_399, ti_999, ti_1000, ti_1024, ti_99999, tm_1, tm_2, tm_3, tm_4, tm_5, tm_7, tm_11, tm_12, tm_13, tm_14, tm_100, if_pos, if_neg, if_true, if_false, bC_in, bI_s, bS_s, bX_s, bY_s, sO, tC], N, B, hv⟩
  rw [p1]
  rcases ppl b p3 with ⟨h1, wa, hwa, rfl⟩ | ⟨h1, h2⟩
  · obtain ⟨A1, V1, c1, x1, x2⟩ := c_wholeL hv hr hwa (N 0) 0 FU 0 A V cu (agr_r A V) (by omega) (fu_gt (by omega))
    obtain ⟨A2, V2, c2, y1, y2⟩ := r_wholeL hv hr hwa (N 0) 0 FU 0 A1 V1 c1 x2 (by omega) (fu_gt (by omega))
    have e4 : V1 132 4 = nI (N 1) := (x2.2 132 4 rfl).trans p2
    refine ⟨wr (fun s => (pA N B tx (A 131) (A 135) s r wa 0 0).1) (N 0) 0 0, A1, V1, c1, ?_, A2, V2, c2, ?_, N, B, iv_agr y2 hv⟩
    · rw [if_neg (by simp (disch := omega) only [ltI, leI, eqI, tI, tI1, ti_0, ti_1, ti_2, ti_3, ti_4, ti_5, ti_6, ti_7, ti_8, ti_9, ti_10, ti_11, ti_12, ti_14, ti_18, ti_30, ti_39, ti_40, ti_41, ti_45, ti_50, ti_59, ti_97, ti_99, ti_100, ti_122, ti_160, ti_243, ti_255, ti_399, ti_999, ti_1000, ti_1024, ti_99999, tm_1, tm_2, tm_3, tm_4, tm_5, tm_7, tm_11, tm_12, tm_13, tm_14, tm_100, if_pos, if_neg, if_true, if_false, bC_in, bI_s, bS_s, bX_s, bY_s, sO, tC]; omega), if_neg (by simp (disch := omega) only [ltI, leI, eqI, tI, tI1, ti_0, ti_1, ti_2, ti_3, ti_4, ti_5, ti_6, ti_7, ti_8, ti_9, ti_10, ti_11, ti_12, ti_14, ti_18, ti_30, ti_39, ti_40, ti_41, ti_45, ti_50, ti_59, ti_97, ti_99, ti_100, ti_122, ti_160, ti_243, ti_255, ti_399, ti_999, ti_1000, ti_1024, ti_99999, tm_1, tm_2, tm_3, tm_4, tm_5, tm_7, tm_11, tm_12, tm_13, tm_14, tm_100, if_pos, if_neg, if_true, if_false, bC_in, bI_s, bS_s, bX_s, bY_s, sO, tC]; omega), if_pos h1]
      exact x1
    · rw [e4, hsp]
      generalize 2 ^ N 1 = M at *
      rw [if_neg (by simp (disch := omega) only [ltI, leI, eqI, tI, tI1, ti_0, ti_1, ti_2, ti_3, ti_4, ti_5, ti_6, ti_7, ti_8, ti_9, ti_10, ti_11, ti_12, ti_14, ti_18, ti_30, ti_39, ti_40, ti_41, ti_45, ti_50, ti_59, ti_97, ti_99, ti_100, ti_122, ti_160, ti_243, ti_255, ti_399, ti_999, ti_1000, ti_1024, ti_99999, tm_1, tm_2, tm_3, tm_4, tm_5, tm_7, tm_11, tm_12, tm_13, tm_14, tm_100, if_pos, if_neg, if_true, if_false, bC_in, bI_s, bS_s, bX_s, bY_s, sO, tC]; omega), if_neg (by simp (disch := omega) only [ltI, leI, eqI, tI, tI1, ti_0, ti_1, ti_2, ti_3, ti_4, ti_5, ti_6, ti_7, ti_8, ti_9, ti_10, ti_11, ti_12, ti_14, ti_18, ti_30, ti_39, ti_40, ti_41, ti_45, ti_50, ti_59, ti_97, ti_99, ti_100, ti_122, ti_160, ti_243, ti_255, ti_399, ti_999, ti_1000, ti_1024, ti_99999, tm_1, tm_2, tm_3, tm_4, tm_5, tm_7, tm_11, tm_12, tm_13, tm_14, tm_100, if_pos, if_neg, if_true, if_false, bC_in, bI_s, bS_s, bX_s, bY_s, sO, tC]; omega), if_neg (by simp (disch := omega) only [ltI, leI, eqI, tI, tI1, ti_0, ti_1, ti_2, ti_3, ti_4, ti_5, ti_6, ti_7, ti_8, ti_9, ti_10, ti_11, ti_12, ti_14, ti_18, ti_30, ti_39, ti_40, ti_41, ti_45, ti_50, ti_59, ti_97, ti_99, ti_100, ti_122, ti_160, ti_243, ti_255, ti_399, ti_999, ti_1000, ti_1024, ti_99999, tm_1, tm_2, tm_3, tm_4, tm_5, tm_7, tm_11, tm_12, tm_13, tm_14, tm_100, if_pos, if_neg, if_true, if_false, bC_in, bI_s, bS_s, bX_s, bY_s, sO, tC]; omega), if_neg (by simp (disch := omega) only [ltI, leI, eqI, tI, tI1, ti_0, ti_1, ti_2, ti_3, ti_4, ti_5, ti_6, ti_7, ti_8, ti_9, ti_10, ti_11, ti_12, ti_14, ti_18, ti_30, ti_39, ti_40, ti_41, ti_45, ti_50, ti_59, ti_97, ti_99, ti_100, ti_122, ti_160, ti_243, ti_255, ti_399, ti_999, ti_1000, ti_1024, ti_99999, tm_1, tm_2, tm_3, tm_4, tm_5, tm_7, tm_11, tm_12, tm_13, tm_14, tm_100, if_pos, if_neg, if_true, if_false, bC_in, bI_s, bS_s, bX_s, bY_s, sO, tC]; omega)]
      exact y1
  · refine ⟨-5, A, V, cu, ?_, A, V, cu, ?_, N, B, hv⟩
    · rw [if_neg (by simp (disch := omega) only [ltI, leI, eqI, tI, tI1, ti_0, ti_1, ti_2, ti_3, ti_4, ti_5, ti_6, ti_7, ti_8, ti_9, ti_10, ti_11, ti_12, ti_14, ti_18, ti_30, ti_39, ti_40, ti_41, ti_45, ti_50, ti_59, ti_97, ti_99, ti_100, ti_122, ti_160, ti_243, ti_255, ti_399, ti_999, ti_1000, ti_1024, ti_99999, tm_1, tm_2, tm_3, tm_4, tm_5, tm_7, tm_11, tm_12, tm_13, tm_14, tm_100, if_pos, if_neg, if_true, if_false, bC_in, bI_s, bS_s, bX_s, bY_s, sO, tC]; omega), if_neg (by simp (disch := omega) only [ltI, leI, eqI, tI, tI1, ti_0, ti_1, ti_2, ti_3, ti_4, ti_5, ti_6, ti_7, ti_8, ti_9, ti_10, ti_11, ti_12, ti_14, ti_18, ti_30, ti_39, ti_40, ti_41, ti_45, ti_50, ti_59, ti_97, ti_99, ti_100, ti_122, ti_160, ti_243, ti_255, ti_399, ti_999, ti_1000, ti_1024, ti_99999, tm_1, tm_2, tm_3, tm_4, tm_5, tm_7, tm_11, tm_12, tm_13, tm_14, tm_100, if_pos, if_neg, if_true, if_false, bC_in, bI_s, bS_s, bX_s, bY_s, sO, tC]; omega), if_neg h1]
    · rw [p2, hsp]
      generalize 2 ^ N 1 = M at *
      rcases h2 with h2 | h2
      · simp (disch := omega) only [ltI, leI, eqI, tI, tI1, ti_0, ti_1, ti_2, ti_3, ti_4, ti_5, ti_6, ti_7, ti_8, ti_9, ti_10, ti_11, ti_12, ti_14, ti_18, ti_30, ti_39, ti_40, ti_41, ti_45, ti_50, ti_59, ti_97, ti_99, ti_100, ti_122, ti_160, ti_243, ti_255, ti_399, ti_999, ti_1000, ti_1024, ti_99999, tm_1, tm_2, tm_3, tm_4, tm_5, tm_7, tm_11, tm_12, tm_13, tm_14, tm_100, if_pos, if_neg, if_true, if_false, bC_in, bI_s, bS_s, bX_s, bY_s, sO, tC]
      · by_cases h3 : b.toInt < 0
        · simp (disch := omega) only [ltI, leI, eqI, tI, tI1, ti_0, ti_1, ti_2, ti_3, ti_4, ti_5, ti_6, ti_7, ti_8, ti_9, ti_10, ti_11, ti_12, ti_14, ti_18, ti_30, ti_39, ti_40, ti_41, ti_45, ti_50, ti_59, ti_97, ti_99, ti_100, ti_122, ti_160, ti_243, ti_255, ti_399, ti_999, ti_1000, ti_1024, ti_99999, tm_1, tm_2, tm_3, tm_4, tm_5, tm_7, tm_11, tm_12, tm_13, tm_14, tm_100, if_pos, if_neg, if_true, if_false, bC_in, bI_s, bS_s, bX_s, bY_s, sO, tC]
        · simp (disch := omega) only [ltI, leI, eqI, tI, tI1, ti_0, ti_1, ti_2, ti_3, ti_4, ti_5, ti_6, ti_7, ti_8, ti_9, ti_10, ti_11, ti_12, ti_14, ti_18, ti_30, ti_39, ti_40, ti_41, ti_45, ti_50, ti_59, ti_97, ti_99, ti_100, ti_122, ti_160, ti_243, ti_255, ti_399, ti_999, ti_1000, ti_1024, ti_99999, tm_1, tm_2, tm_3, tm_4, tm_5, tm_7, tm_11, tm_12, tm_13, tm_14, tm_100, if_pos, if_neg, if_true, if_false, bC_in, bI_s, bS_s, bX_s, bY_s, sO, tC]
end OPS76
