section OPS
variable {ro : Nat → Option xq_C} {d : Nat}
set_option maxRecDepth 20000 in
set_option maxHeartbeats 4000000 in
theorem op_cell (hd : 60 ≤ d) (s i v : Int32) : iv_op ro (d + 1) 107 212 [.int s, .int i, .int v] := by
  intro N B A V tx cu hv
  obtain ⟨v1, v2, v3, v4, v5, v6, v7, v8, v9, v10, v11, v12, v13⟩ := id hv
  obtain ⟨⟨s1, s2, s3⟩, ⟨p1, p2, p3⟩, ⟨e1, e2, e3⟩, ⟨t1, t2, t3⟩, ⟨l1, l2, l3⟩, ⟨z1, z2, z3⟩⟩ := id v1
  have n0 := tI (n := N 0) (by omega)
  have n1 := tI (n := N 1) (by omega)
  have n2 := tI (n := N 2) (by omega)
  have n3 := tI (n := N 3) (by omega)
  have n4 := tI (n := N 4) (by omega)
  have n5 := tI (n := tx.length + 1) (by omega)
  have m0 := tI1 (n := N 0) (by omega)
  have m1 := tI1 (n := N 1) (by omega)
  have m2 := tI1 (n := N 2) (by omega)
  have m5 := tI1 (n := tx.length + 1) (by omega)
  refine xe_of (co := xk_107) (nl := 5) rfl rfl rfl ?_
  rcases ix3 s 4 (by omega) with c | c | ⟨js, hjs, rfl⟩
  · refine xw_yr hd 12 [1, 0] rfl (by simp (disch := omega) [Int.bmod_eq_of_le, xq_al, y_v, xq_cmp, xin_iff, fit0, up2, va_up, upd, Int32.lt_iff_toInt_lt, Int32.le_iff_toInt_le, ← Int32.toInt_inj, s1, s2, p1, p2, e1, e2, t1, t2, l1, l2, z1, z2, n0, n1, n2, n3, n4, n5, m0, m1, m2, m5] <;> omega) ?_
    refine ⟨_, _, _, _, _, rfl, rfl, xe_of (co := xk_212) (nl := 4) rfl rfl rfl (xw_yr hd 18 [1, 0] rfl (by simp (disch := omega) [Int.bmod_eq_of_le, xq_al, y_v, xq_cmp, xin_iff, fit0, up2, va_up, upd, Int32.lt_iff_toInt_lt, Int32.le_iff_toInt_le, ← Int32.toInt_inj, s1, s2, p1, p2, e1, e2, t1, t2, l1, l2, z1, z2, n0, n1, n2, n3, n4, n5, m0, m1, m2, m5] <;> omega) ⟨rfl, N, B, _, _, _, _, rfl, hv⟩)⟩
  · refine xw_yr hd 15 [0, 1, 0] rfl (by simp (disch := omega) [Int.bmod_eq_of_le, xq_al, y_v, xq_cmp, xin_iff, fit0, up2, va_up, upd, Int32.lt_iff_toInt_lt, Int32.le_iff_toInt_le, ← Int32.toInt_inj, s1, s2, p1, p2, e1, e2, t1, t2, l1, l2, z1, z2, n0, n1, n2, n3, n4, n5, m0, m1, m2, m5] <;> omega) ?_
    refine ⟨_, _, _, _, _, rfl, rfl, xe_of (co := xk_212) (nl := 4) rfl rfl rfl (xw_yr hd 21 [0, 1, 0] rfl (by simp (disch := omega) [Int.bmod_eq_of_le, xq_al, y_v, xq_cmp, xin_iff, fit0, up2, va_up, upd, Int32.lt_iff_toInt_lt, Int32.le_iff_toInt_le, ← Int32.toInt_inj, s1, s2, p1, p2, e1, e2, t1, t2, l1, l2, z1, z2, n0, n1, n2, n3, n4, n5, m0, m1, m2, m5] <;> omega) ⟨rfl, N, B, _, _, _, _, rfl, hv⟩)⟩
  have us := tI (n := js) (by omega)
  rcases (show js = 0 ∨ js = 1 ∨ js = 2 ∨ js = 3 by omega) with rfl | rfl | rfl | rfl
  · obtain ⟨g1, ⟨n, gn, g2, g3⟩, g4, g5⟩ := v10.1
    have un := tI (n := n) (by omega)
    have un1 := tI1 (n := n) (by omega)
    rcases g5 with g5 | ⟨k, hk, g5⟩
    · refine xw_yr hd 36 [0, 0, 1, 0] rfl (by simp (disch := omega) [Int.bmod_eq_of_le, xq_al, y_v, xq_cmp, xin_iff, fit0, up2, va_up, upd, Int32.lt_iff_toInt_lt, Int32.le_iff_toInt_le, ← Int32.toInt_inj, s1, s2, p1, p2, e1, e2, t1, t2, l1, l2, z1, z2, n0, n1, n2, n3, n4, n5, m0, m1, m2, m5, us, g1, g5, g2, g3, un, un1, nc_0, ni_0, ni_1, ni_2] <;> omega) ?_
      refine ⟨_, _, _, _, _, rfl, rfl, xe_of (co := xk_212) (nl := 4) rfl rfl rfl (xw_yr hd 27 [0, 0, 1, 0] rfl (by simp (disch := omega) [Int.bmod_eq_of_le, xq_al, y_v, xq_cmp, xin_iff, fit0, up2, va_up, upd, Int32.lt_iff_toInt_lt, Int32.le_iff_toInt_le, ← Int32.toInt_inj, s1, s2, p1, p2, e1, e2, t1, t2, l1, l2, z1, z2, n0, n1, n2, n3, n4, n5, m0, m1, m2, m5, us, g1, g5, g2, g3, un, un1, nc_0, ni_0, ni_1, ni_2] <;> omega) ⟨rfl, N, B, _, _, _, _, rfl, hv⟩)⟩
    rcases ix3 i n (by omega) with c | c | ⟨j, hj, rfl⟩
    · rcases (show k = 0 ∨ k = 1 ∨ k = 2 by omega) with rfl | rfl | rfl
      · refine xw_yr hd 43 [0, 0, 1, 1, 1, 0] rfl (by simp (disch := omega) [Int.bmod_eq_of_le, xq_al, y_v, xq_cmp, xin_iff, fit0, up2, va_up, upd, Int32.lt_iff_toInt_lt, Int32.le_iff_toInt_le, ← Int32.toInt_inj, s1, s2, p1, p2, e1, e2, t1, t2, l1, l2, z1, z2, n0, n1, n2, n3, n4, n5, m0, m1, m2, m5, us, g1, g5, g2, g3, un, un1, nc_0, ni_0, ni_1, ni_2] <;> omega) ?_
        refine ⟨_, _, _, _, _, rfl, rfl, xe_of (co := xk_212) (nl := 4) rfl rfl rfl (xw_yr hd 42 [0, 0, 1, 1, 1, 0] rfl (by simp (disch := omega) [Int.bmod_eq_of_le, xq_al, y_v, xq_cmp, xin_iff, fit0, up2, va_up, upd, Int32.lt_iff_toInt_lt, Int32.le_iff_toInt_le, ← Int32.toInt_inj, s1, s2, p1, p2, e1, e2, t1, t2, l1, l2, z1, z2, n0, n1, n2, n3, n4, n5, m0, m1, m2, m5, us, g1, g5, g2, g3, un, un1, nc_0, ni_0, ni_1, ni_2] <;> omega) ⟨rfl, N, B, _, _, _, _, rfl, hv⟩)⟩
      · refine xw_yr hd 43 [0, 0, 1, 1, 1, 0] rfl (by simp (disch := omega) [Int.bmod_eq_of_le, xq_al, y_v, xq_cmp, xin_iff, fit0, up2, va_up, upd, Int32.lt_iff_toInt_lt, Int32.le_iff_toInt_le, ← Int32.toInt_inj, s1, s2, p1, p2, e1, e2, t1, t2, l1, l2, z1, z2, n0, n1, n2, n3, n4, n5, m0, m1, m2, m5, us, g1, g5, g2, g3, un, un1, nc_0, ni_0, ni_1, ni_2] <;> omega) ?_
        refine ⟨_, _, _, _, _, rfl, rfl, xe_of (co := xk_212) (nl := 4) rfl rfl rfl (xw_yr hd 42 [0, 0, 1, 1, 1, 0] rfl (by simp (disch := omega) [Int.bmod_eq_of_le, xq_al, y_v, xq_cmp, xin_iff, fit0, up2, va_up, upd, Int32.lt_iff_toInt_lt, Int32.le_iff_toInt_le, ← Int32.toInt_inj, s1, s2, p1, p2, e1, e2, t1, t2, l1, l2, z1, z2, n0, n1, n2, n3, n4, n5, m0, m1, m2, m5, us, g1, g5, g2, g3, un, un1, nc_0, ni_0, ni_1, ni_2] <;> omega) ⟨rfl, N, B, _, _, _, _, rfl, hv⟩)⟩
      · refine xw_yr hd 43 [0, 0, 1, 1, 1, 0] rfl (by simp (disch := omega) [Int.bmod_eq_of_le, xq_al, y_v, xq_cmp, xin_iff, fit0, up2, va_up, upd, Int32.lt_iff_toInt_lt, Int32.le_iff_toInt_le, ← Int32.toInt_inj, s1, s2, p1, p2, e1, e2, t1, t2, l1, l2, z1, z2, n0, n1, n2, n3, n4, n5, m0, m1, m2, m5, us, g1, g5, g2, g3, un, un1, nc_0, ni_0, ni_1, ni_2] <;> omega) ?_
        refine ⟨_, _, _, _, _, rfl, rfl, xe_of (co := xk_212) (nl := 4) rfl rfl rfl (xw_yr hd 42 [0, 0, 1, 1, 1, 0] rfl (by simp (disch := omega) [Int.bmod_eq_of_le, xq_al, y_v, xq_cmp, xin_iff, fit0, up2, va_up, upd, Int32.lt_iff_toInt_lt, Int32.le_iff_toInt_le, ← Int32.toInt_inj, s1, s2, p1, p2, e1, e2, t1, t2, l1, l2, z1, z2, n0, n1, n2, n3, n4, n5, m0, m1, m2, m5, us, g1, g5, g2, g3, un, un1, nc_0, ni_0, ni_1, ni_2] <;> omega) ⟨rfl, N, B, _, _, _, _, rfl, hv⟩)⟩
    · rcases (show k = 0 ∨ k = 1 ∨ k = 2 by omega) with rfl | rfl | rfl
      · refine xw_yr hd 47 [0, 0, 1, 1, 0, 1, 0] rfl (by simp (disch := omega) [Int.bmod_eq_of_le, xq_al, y_v, xq_cmp, xin_iff, fit0, up2, va_up, upd, Int32.lt_iff_toInt_lt, Int32.le_iff_toInt_le, ← Int32.toInt_inj, s1, s2, p1, p2, e1, e2, t1, t2, l1, l2, z1, z2, n0, n1, n2, n3, n4, n5, m0, m1, m2, m5, us, g1, g5, g2, g3, un, un1, nc_0, ni_0, ni_1, ni_2] <;> omega) ?_
        refine ⟨_, _, _, _, _, rfl, rfl, xe_of (co := xk_212) (nl := 4) rfl rfl rfl (xw_yr hd 45 [0, 0, 1, 1, 0, 1, 0] rfl (by simp (disch := omega) [Int.bmod_eq_of_le, xq_al, y_v, xq_cmp, xin_iff, fit0, up2, va_up, upd, Int32.lt_iff_toInt_lt, Int32.le_iff_toInt_le, ← Int32.toInt_inj, s1, s2, p1, p2, e1, e2, t1, t2, l1, l2, z1, z2, n0, n1, n2, n3, n4, n5, m0, m1, m2, m5, us, g1, g5, g2, g3, un, un1, nc_0, ni_0, ni_1, ni_2] <;> omega) ⟨rfl, N, B, _, _, _, _, rfl, hv⟩)⟩
      · refine xw_yr hd 47 [0, 0, 1, 1, 0, 1, 0] rfl (by simp (disch := omega) [Int.bmod_eq_of_le, xq_al, y_v, xq_cmp, xin_iff, fit0, up2, va_up, upd, Int32.lt_iff_toInt_lt, Int32.le_iff_toInt_le, ← Int32.toInt_inj, s1, s2, p1, p2, e1, e2, t1, t2, l1, l2, z1, z2, n0, n1, n2, n3, n4, n5, m0, m1, m2, m5, us, g1, g5, g2, g3, un, un1, nc_0, ni_0, ni_1, ni_2] <;> omega) ?_
        refine ⟨_, _, _, _, _, rfl, rfl, xe_of (co := xk_212) (nl := 4) rfl rfl rfl (xw_yr hd 45 [0, 0, 1, 1, 0, 1, 0] rfl (by simp (disch := omega) [Int.bmod_eq_of_le, xq_al, y_v, xq_cmp, xin_iff, fit0, up2, va_up, upd, Int32.lt_iff_toInt_lt, Int32.le_iff_toInt_le, ← Int32.toInt_inj, s1, s2, p1, p2, e1, e2, t1, t2, l1, l2, z1, z2, n0, n1, n2, n3, n4, n5, m0, m1, m2, m5, us, g1, g5, g2, g3, un, un1, nc_0, ni_0, ni_1, ni_2] <;> omega) ⟨rfl, N, B, _, _, _, _, rfl, hv⟩)⟩
      · refine xw_yr hd 47 [0, 0, 1, 1, 0, 1, 0] rfl (by simp (disch := omega) [Int.bmod_eq_of_le, xq_al, y_v, xq_cmp, xin_iff, fit0, up2, va_up, upd, Int32.lt_iff_toInt_lt, Int32.le_iff_toInt_le, ← Int32.toInt_inj, s1, s2, p1, p2, e1, e2, t1, t2, l1, l2, z1, z2, n0, n1, n2, n3, n4, n5, m0, m1, m2, m5, us, g1, g5, g2, g3, un, un1, nc_0, ni_0, ni_1, ni_2] <;> omega) ?_
        refine ⟨_, _, _, _, _, rfl, rfl, xe_of (co := xk_212) (nl := 4) rfl rfl rfl (xw_yr hd 45 [0, 0, 1, 1, 0, 1, 0] rfl (by simp (disch := omega) [Int.bmod_eq_of_le, xq_al, y_v, xq_cmp, xin_iff, fit0, up2, va_up, upd, Int32.lt_iff_toInt_lt, Int32.le_iff_toInt_le, ← Int32.toInt_inj, s1, s2, p1, p2, e1, e2, t1, t2, l1, l2, z1, z2, n0, n1, n2, n3, n4, n5, m0, m1, m2, m5, us, g1, g5, g2, g3, un, un1, nc_0, ni_0, ni_1, ni_2] <;> omega) ⟨rfl, N, B, _, _, _, _, rfl, hv⟩)⟩
    have uj := tI (n := j) (by omega)
    have kj : (nI j).toNatClampNeg = j := tC (by omega)
    have qw : (40 * nI 0 + nI j).toInt = ((0 + j : Nat) : Int) := by simp (disch := omega) [Int.bmod_eq_of_le, us, uj] <;> omega
    have kw : (40 * nI 0 + nI j).toNatClampNeg = 0 + j := cl qw
    rcases (show k = 0 ∨ k = 1 ∨ k = 2 by omega) with rfl | rfl | rfl
    · refine xw_yr hd 76 [0, 0, 1, 1, 0, 0, 1, 0, 0, 0, 0] rfl (by simp (disch := omega) [Int.bmod_eq_of_le, xq_al, y_v, xq_cmp, xin_iff, fit0, up2, va_up, upd, Int32.lt_iff_toInt_lt, Int32.le_iff_toInt_le, ← Int32.toInt_inj, s1, s2, p1, p2, e1, e2, t1, t2, l1, l2, z1, z2, n0, n1, n2, n3, n4, n5, m0, m1, m2, m5, us, g1, g5, g2, g3, un, un1, nc_0, ni_0, ni_1, ni_2, uj] <;> omega) ?_
      refine ⟨_, _, _, _, _, rfl, rfl, xe_of (co := xk_212) (nl := 4) rfl rfl rfl (xw_yr hd 62 [0, 0, 1, 1, 0, 0, 1, 0] rfl (by simp (disch := omega) [Int.bmod_eq_of_le, xq_al, y_v, xq_cmp, xin_iff, fit0, up2, va_up, upd, Int32.lt_iff_toInt_lt, Int32.le_iff_toInt_le, ← Int32.toInt_inj, s1, s2, p1, p2, e1, e2, t1, t2, l1, l2, z1, z2, n0, n1, n2, n3, n4, n5, m0, m1, m2, m5, us, g1, g5, g2, g3, un, un1, nc_0, ni_0, ni_1, ni_2, uj, qw] <;> omega) ?_)⟩
      refine ⟨rfl, N, B, _, _, _, _, rfl, v1, v2, v3, v4, v5, v6, v7, v8, v9, ⟨⟨v10.1.1, v10.1.2.1, ?_, v10.1.2.2.2⟩, ⟨v10.2.1.1, v10.2.1.2.1, ?_, v10.2.1.2.2.2⟩, ⟨v10.2.2.1.1, v10.2.2.1.2.1, ?_, v10.2.2.1.2.2.2⟩, ⟨v10.2.2.2.1, v10.2.2.2.2.1, ?_, v10.2.2.2.2.2.2⟩⟩, v11, v12, v13⟩
      · intro q hq
        have w := g4 q hq
        by_cases z : q = j
        · subst z; simp [va_up, upd, kj, kw, nc_0]
        · have z2 : ¬ 0 + q = 0 + j := by omega
          simp [va_up, upd, kj, kw, z, nc_0] at w ⊢
          first | exact w | (rw [if_neg (by omega)]; exact w)
      · intro q hq
        have w := v10.2.1.2.2.1 q hq
        have z2 : ¬ 40 + q = 0 + j := by omega
        simp [va_up, upd, kw, z2] at w ⊢
        first | exact w | (rw [if_neg (by omega)]; exact w)
      · intro q hq
        have w := v10.2.2.1.2.2.1 q hq
        have z2 : ¬ 80 + q = 0 + j := by omega
        simp [va_up, upd, kw, z2] at w ⊢
        first | exact w | (rw [if_neg (by omega)]; exact w)
      · intro q hq
        have w := v10.2.2.2.2.2.1 q hq
        have z2 : ¬ 120 + q = 0 + j := by omega
        simp [va_up, upd, kw, z2] at w ⊢
        first | exact w | (rw [if_neg (by omega)]; exact w)
    · refine xw_yr hd 80 [0, 0, 1, 1, 0, 0, 1, 0, 0, 0, 1, 0] rfl (by simp (disch := omega) [Int.bmod_eq_of_le, xq_al, y_v, xq_cmp, xin_iff, fit0, up2, va_up, upd, Int32.lt_iff_toInt_lt, Int32.le_iff_toInt_le, ← Int32.toInt_inj, s1, s2, p1, p2, e1, e2, t1, t2, l1, l2, z1, z2, n0, n1, n2, n3, n4, n5, m0, m1, m2, m5, us, g1, g5, g2, g3, un, un1, nc_0, ni_0, ni_1, ni_2, uj] <;> omega) ?_
      refine ⟨_, _, _, _, _, rfl, rfl, xe_of (co := xk_212) (nl := 4) rfl rfl rfl (xw_yr hd 68 [0, 0, 1, 1, 0, 0, 1, 1, 0] rfl (by simp (disch := omega) [Int.bmod_eq_of_le, xq_al, y_v, xq_cmp, xin_iff, fit0, up2, va_up, upd, Int32.lt_iff_toInt_lt, Int32.le_iff_toInt_le, ← Int32.toInt_inj, s1, s2, p1, p2, e1, e2, t1, t2, l1, l2, z1, z2, n0, n1, n2, n3, n4, n5, m0, m1, m2, m5, us, g1, g5, g2, g3, un, un1, nc_0, ni_0, ni_1, ni_2, uj, qw] <;> omega) ?_)⟩
      refine ⟨rfl, N, B, _, _, _, _, rfl, v1, v2, v3, v4, v5, v6, v7, v8, v9, ⟨⟨v10.1.1, v10.1.2.1, ?_, v10.1.2.2.2⟩, ⟨v10.2.1.1, v10.2.1.2.1, ?_, v10.2.1.2.2.2⟩, ⟨v10.2.2.1.1, v10.2.2.1.2.1, ?_, v10.2.2.1.2.2.2⟩, ⟨v10.2.2.2.1, v10.2.2.2.2.1, ?_, v10.2.2.2.2.2.2⟩⟩, v11, v12, v13⟩
      · intro q hq
        have w := g4 q hq
        by_cases z : q = j
        · subst z; simp [va_up, upd, kj, kw, nc_0]
        · have z2 : ¬ 0 + q = 0 + j := by omega
          simp [va_up, upd, kj, kw, z, nc_0] at w ⊢
          first | exact w | (rw [if_neg (by omega)]; exact w)
      · intro q hq
        have w := v10.2.1.2.2.1 q hq
        have z2 : ¬ 40 + q = 0 + j := by omega
        simp [va_up, upd, kw, z2] at w ⊢
        first | exact w | (rw [if_neg (by omega)]; exact w)
      · intro q hq
        have w := v10.2.2.1.2.2.1 q hq
        have z2 : ¬ 80 + q = 0 + j := by omega
        simp [va_up, upd, kw, z2] at w ⊢
        first | exact w | (rw [if_neg (by omega)]; exact w)
      · intro q hq
        have w := v10.2.2.2.2.2.1 q hq
        have z2 : ¬ 120 + q = 0 + j := by omega
        simp [va_up, upd, kw, z2] at w ⊢
        first | exact w | (rw [if_neg (by omega)]; exact w)
    · refine xw_yr hd 78 [0, 0, 1, 1, 0, 0, 1, 0, 0, 0, 1, 1] rfl (by simp (disch := omega) [Int.bmod_eq_of_le, xq_al, y_v, xq_cmp, xin_iff, fit0, up2, va_up, upd, Int32.lt_iff_toInt_lt, Int32.le_iff_toInt_le, ← Int32.toInt_inj, s1, s2, p1, p2, e1, e2, t1, t2, l1, l2, z1, z2, n0, n1, n2, n3, n4, n5, m0, m1, m2, m5, us, g1, g5, g2, g3, un, un1, nc_0, ni_0, ni_1, ni_2, uj] <;> omega) ?_
      refine ⟨_, _, _, _, _, rfl, rfl, xe_of (co := xk_212) (nl := 4) rfl rfl rfl (xw_yr hd 66 [0, 0, 1, 1, 0, 0, 1, 1, 1] rfl (by simp (disch := omega) [Int.bmod_eq_of_le, xq_al, y_v, xq_cmp, xin_iff, fit0, up2, va_up, upd, Int32.lt_iff_toInt_lt, Int32.le_iff_toInt_le, ← Int32.toInt_inj, s1, s2, p1, p2, e1, e2, t1, t2, l1, l2, z1, z2, n0, n1, n2, n3, n4, n5, m0, m1, m2, m5, us, g1, g5, g2, g3, un, un1, nc_0, ni_0, ni_1, ni_2, uj, qw] <;> omega) ?_)⟩
      refine ⟨rfl, N, B, _, _, _, _, rfl, v1, v2, v3, v4, v5, v6, v7, v8, v9, ⟨⟨v10.1.1, v10.1.2.1, ?_, v10.1.2.2.2⟩, ⟨v10.2.1.1, v10.2.1.2.1, ?_, v10.2.1.2.2.2⟩, ⟨v10.2.2.1.1, v10.2.2.1.2.1, ?_, v10.2.2.1.2.2.2⟩, ⟨v10.2.2.2.1, v10.2.2.2.2.1, ?_, v10.2.2.2.2.2.2⟩⟩, v11, v12, v13⟩
      · intro q hq
        have w := g4 q hq
        by_cases z : q = j
        · subst z; simp [va_up, upd, kj, kw, nc_0]
        · have z2 : ¬ 0 + q = 0 + j := by omega
          simp [va_up, upd, kj, kw, z, nc_0] at w ⊢
          first | exact w | (rw [if_neg (by omega)]; exact w)
      · intro q hq
        have w := v10.2.1.2.2.1 q hq
        have z2 : ¬ 40 + q = 0 + j := by omega
        simp [va_up, upd, kw, z2] at w ⊢
        first | exact w | (rw [if_neg (by omega)]; exact w)
      · intro q hq
        have w := v10.2.2.1.2.2.1 q hq
        have z2 : ¬ 80 + q = 0 + j := by omega
        simp [va_up, upd, kw, z2] at w ⊢
        first | exact w | (rw [if_neg (by omega)]; exact w)
      · intro q hq
        have w := v10.2.2.2.2.2.1 q hq
        have z2 : ¬ 120 + q = 0 + j := by omega
        simp [va_up, upd, kw, z2] at w ⊢
        first | exact w | (rw [if_neg (by omega)]; exact w)
  · obtain ⟨g1, ⟨n, gn, g2, g3⟩, g4, g5⟩ := v10.2.1
    have un := tI (n := n) (by omega)
    have un1 := tI1 (n := n) (by omega)
    rcases g5 with g5 | ⟨k, hk, g5⟩
    · refine xw_yr hd 36 [0, 0, 1, 0] rfl (by simp (disch := omega) [Int.bmod_eq_of_le, xq_al, y_v, xq_cmp, xin_iff, fit0, up2, va_up, upd, Int32.lt_iff_toInt_lt, Int32.le_iff_toInt_le, ← Int32.toInt_inj, s1, s2, p1, p2, e1, e2, t1, t2, l1, l2, z1, z2, n0, n1, n2, n3, n4, n5, m0, m1, m2, m5, us, g1, g5, g2, g3, un, un1, nc_1, ni_0, ni_1, ni_2] <;> omega) ?_
      refine ⟨_, _, _, _, _, rfl, rfl, xe_of (co := xk_212) (nl := 4) rfl rfl rfl (xw_yr hd 27 [0, 0, 1, 0] rfl (by simp (disch := omega) [Int.bmod_eq_of_le, xq_al, y_v, xq_cmp, xin_iff, fit0, up2, va_up, upd, Int32.lt_iff_toInt_lt, Int32.le_iff_toInt_le, ← Int32.toInt_inj, s1, s2, p1, p2, e1, e2, t1, t2, l1, l2, z1, z2, n0, n1, n2, n3, n4, n5, m0, m1, m2, m5, us, g1, g5, g2, g3, un, un1, nc_1, ni_0, ni_1, ni_2] <;> omega) ⟨rfl, N, B, _, _, _, _, rfl, hv⟩)⟩
    rcases ix3 i n (by omega) with c | c | ⟨j, hj, rfl⟩
    · rcases (show k = 0 ∨ k = 1 ∨ k = 2 by omega) with rfl | rfl | rfl
      · refine xw_yr hd 43 [0, 0, 1, 1, 1, 0] rfl (by simp (disch := omega) [Int.bmod_eq_of_le, xq_al, y_v, xq_cmp, xin_iff, fit0, up2, va_up, upd, Int32.lt_iff_toInt_lt, Int32.le_iff_toInt_le, ← Int32.toInt_inj, s1, s2, p1, p2, e1, e2, t1, t2, l1, l2, z1, z2, n0, n1, n2, n3, n4, n5, m0, m1, m2, m5, us, g1, g5, g2, g3, un, un1, nc_1, ni_0, ni_1, ni_2] <;> omega) ?_
        refine ⟨_, _, _, _, _, rfl, rfl, xe_of (co := xk_212) (nl := 4) rfl rfl rfl (xw_yr hd 42 [0, 0, 1, 1, 1, 0] rfl (by simp (disch := omega) [Int.bmod_eq_of_le, xq_al, y_v, xq_cmp, xin_iff, fit0, up2, va_up, upd, Int32.lt_iff_toInt_lt, Int32.le_iff_toInt_le, ← Int32.toInt_inj, s1, s2, p1, p2, e1, e2, t1, t2, l1, l2, z1, z2, n0, n1, n2, n3, n4, n5, m0, m1, m2, m5, us, g1, g5, g2, g3, un, un1, nc_1, ni_0, ni_1, ni_2] <;> omega) ⟨rfl, N, B, _, _, _, _, rfl, hv⟩)⟩
      · refine xw_yr hd 43 [0, 0, 1, 1, 1, 0] rfl (by simp (disch := omega) [Int.bmod_eq_of_le, xq_al, y_v, xq_cmp, xin_iff, fit0, up2, va_up, upd, Int32.lt_iff_toInt_lt, Int32.le_iff_toInt_le, ← Int32.toInt_inj, s1, s2, p1, p2, e1, e2, t1, t2, l1, l2, z1, z2, n0, n1, n2, n3, n4, n5, m0, m1, m2, m5, us, g1, g5, g2, g3, un, un1, nc_1, ni_0, ni_1, ni_2] <;> omega) ?_
        refine ⟨_, _, _, _, _, rfl, rfl, xe_of (co := xk_212) (nl := 4) rfl rfl rfl (xw_yr hd 42 [0, 0, 1, 1, 1, 0] rfl (by simp (disch := omega) [Int.bmod_eq_of_le, xq_al, y_v, xq_cmp, xin_iff, fit0, up2, va_up, upd, Int32.lt_iff_toInt_lt, Int32.le_iff_toInt_le, ← Int32.toInt_inj, s1, s2, p1, p2, e1, e2, t1, t2, l1, l2, z1, z2, n0, n1, n2, n3, n4, n5, m0, m1, m2, m5, us, g1, g5, g2, g3, un, un1, nc_1, ni_0, ni_1, ni_2] <;> omega) ⟨rfl, N, B, _, _, _, _, rfl, hv⟩)⟩
      · refine xw_yr hd 43 [0, 0, 1, 1, 1, 0] rfl (by simp (disch := omega) [Int.bmod_eq_of_le, xq_al, y_v, xq_cmp, xin_iff, fit0, up2, va_up, upd, Int32.lt_iff_toInt_lt, Int32.le_iff_toInt_le, ← Int32.toInt_inj, s1, s2, p1, p2, e1, e2, t1, t2, l1, l2, z1, z2, n0, n1, n2, n3, n4, n5, m0, m1, m2, m5, us, g1, g5, g2, g3, un, un1, nc_1, ni_0, ni_1, ni_2] <;> omega) ?_
        refine ⟨_, _, _, _, _, rfl, rfl, xe_of (co := xk_212) (nl := 4) rfl rfl rfl (xw_yr hd 42 [0, 0, 1, 1, 1, 0] rfl (by simp (disch := omega) [Int.bmod_eq_of_le, xq_al, y_v, xq_cmp, xin_iff, fit0, up2, va_up, upd, Int32.lt_iff_toInt_lt, Int32.le_iff_toInt_le, ← Int32.toInt_inj, s1, s2, p1, p2, e1, e2, t1, t2, l1, l2, z1, z2, n0, n1, n2, n3, n4, n5, m0, m1, m2, m5, us, g1, g5, g2, g3, un, un1, nc_1, ni_0, ni_1, ni_2] <;> omega) ⟨rfl, N, B, _, _, _, _, rfl, hv⟩)⟩
    · rcases (show k = 0 ∨ k = 1 ∨ k = 2 by omega) with rfl | rfl | rfl
      · refine xw_yr hd 47 [0, 0, 1, 1, 0, 1, 0] rfl (by simp (disch := omega) [Int.bmod_eq_of_le, xq_al, y_v, xq_cmp, xin_iff, fit0, up2, va_up, upd, Int32.lt_iff_toInt_lt, Int32.le_iff_toInt_le, ← Int32.toInt_inj, s1, s2, p1, p2, e1, e2, t1, t2, l1, l2, z1, z2, n0, n1, n2, n3, n4, n5, m0, m1, m2, m5, us, g1, g5, g2, g3, un, un1, nc_1, ni_0, ni_1, ni_2] <;> omega) ?_
        refine ⟨_, _, _, _, _, rfl, rfl, xe_of (co := xk_212) (nl := 4) rfl rfl rfl (xw_yr hd 45 [0, 0, 1, 1, 0, 1, 0] rfl (by simp (disch := omega) [Int.bmod_eq_of_le, xq_al, y_v, xq_cmp, xin_iff, fit0, up2, va_up, upd, Int32.lt_iff_toInt_lt, Int32.le_iff_toInt_le, ← Int32.toInt_inj, s1, s2, p1, p2, e1, e2, t1, t2, l1, l2, z1, z2, n0, n1, n2, n3, n4, n5, m0, m1, m2, m5, us, g1, g5, g2, g3, un, un1, nc_1, ni_0, ni_1, ni_2] <;> omega) ⟨rfl, N, B, _, _, _, _, rfl, hv⟩)⟩
      · refine xw_yr hd 47 [0, 0, 1, 1, 0, 1, 0] rfl (by simp (disch := omega) [Int.bmod_eq_of_le, xq_al, y_v, xq_cmp, xin_iff, fit0, up2, va_up, upd, Int32.lt_iff_toInt_lt, Int32.le_iff_toInt_le, ← Int32.toInt_inj, s1, s2, p1, p2, e1, e2, t1, t2, l1, l2, z1, z2, n0, n1, n2, n3, n4, n5, m0, m1, m2, m5, us, g1, g5, g2, g3, un, un1, nc_1, ni_0, ni_1, ni_2] <;> omega) ?_
        refine ⟨_, _, _, _, _, rfl, rfl, xe_of (co := xk_212) (nl := 4) rfl rfl rfl (xw_yr hd 45 [0, 0, 1, 1, 0, 1, 0] rfl (by simp (disch := omega) [Int.bmod_eq_of_le, xq_al, y_v, xq_cmp, xin_iff, fit0, up2, va_up, upd, Int32.lt_iff_toInt_lt, Int32.le_iff_toInt_le, ← Int32.toInt_inj, s1, s2, p1, p2, e1, e2, t1, t2, l1, l2, z1, z2, n0, n1, n2, n3, n4, n5, m0, m1, m2, m5, us, g1, g5, g2, g3, un, un1, nc_1, ni_0, ni_1, ni_2] <;> omega) ⟨rfl, N, B, _, _, _, _, rfl, hv⟩)⟩
      · refine xw_yr hd 47 [0, 0, 1, 1, 0, 1, 0] rfl (by simp (disch := omega) [Int.bmod_eq_of_le, xq_al, y_v, xq_cmp, xin_iff, fit0, up2, va_up, upd, Int32.lt_iff_toInt_lt, Int32.le_iff_toInt_le, ← Int32.toInt_inj, s1, s2, p1, p2, e1, e2, t1, t2, l1, l2, z1, z2, n0, n1, n2, n3, n4, n5, m0, m1, m2, m5, us, g1, g5, g2, g3, un, un1, nc_1, ni_0, ni_1, ni_2] <;> omega) ?_
        refine ⟨_, _, _, _, _, rfl, rfl, xe_of (co := xk_212) (nl := 4) rfl rfl rfl (xw_yr hd 45 [0, 0, 1, 1, 0, 1, 0] rfl (by simp (disch := omega) [Int.bmod_eq_of_le, xq_al, y_v, xq_cmp, xin_iff, fit0, up2, va_up, upd, Int32.lt_iff_toInt_lt, Int32.le_iff_toInt_le, ← Int32.toInt_inj, s1, s2, p1, p2, e1, e2, t1, t2, l1, l2, z1, z2, n0, n1, n2, n3, n4, n5, m0, m1, m2, m5, us, g1, g5, g2, g3, un, un1, nc_1, ni_0, ni_1, ni_2] <;> omega) ⟨rfl, N, B, _, _, _, _, rfl, hv⟩)⟩
    have uj := tI (n := j) (by omega)
    have kj : (nI j).toNatClampNeg = j := tC (by omega)
    have qw : (40 * nI 1 + nI j).toInt = ((40 + j : Nat) : Int) := by simp (disch := omega) [Int.bmod_eq_of_le, us, uj] <;> omega
    have kw : (40 * nI 1 + nI j).toNatClampNeg = 40 + j := cl qw
    rcases (show k = 0 ∨ k = 1 ∨ k = 2 by omega) with rfl | rfl | rfl
    · refine xw_yr hd 76 [0, 0, 1, 1, 0, 0, 1, 0, 0, 0, 0] rfl (by simp (disch := omega) [Int.bmod_eq_of_le, xq_al, y_v, xq_cmp, xin_iff, fit0, up2, va_up, upd, Int32.lt_iff_toInt_lt, Int32.le_iff_toInt_le, ← Int32.toInt_inj, s1, s2, p1, p2, e1, e2, t1, t2, l1, l2, z1, z2, n0, n1, n2, n3, n4, n5, m0, m1, m2, m5, us, g1, g5, g2, g3, un, un1, nc_1, ni_0, ni_1, ni_2, uj] <;> omega) ?_
      refine ⟨_, _, _, _, _, rfl, rfl, xe_of (co := xk_212) (nl := 4) rfl rfl rfl (xw_yr hd 62 [0, 0, 1, 1, 0, 0, 1, 0] rfl (by simp (disch := omega) [Int.bmod_eq_of_le, xq_al, y_v, xq_cmp, xin_iff, fit0, up2, va_up, upd, Int32.lt_iff_toInt_lt, Int32.le_iff_toInt_le, ← Int32.toInt_inj, s1, s2, p1, p2, e1, e2, t1, t2, l1, l2, z1, z2, n0, n1, n2, n3, n4, n5, m0, m1, m2, m5, us, g1, g5, g2, g3, un, un1, nc_1, ni_0, ni_1, ni_2, uj, qw] <;> omega) ?_)⟩
      refine ⟨rfl, N, B, _, _, _, _, rfl, v1, v2, v3, v4, v5, v6, v7, v8, v9, ⟨⟨v10.1.1, v10.1.2.1, ?_, v10.1.2.2.2⟩, ⟨v10.2.1.1, v10.2.1.2.1, ?_, v10.2.1.2.2.2⟩, ⟨v10.2.2.1.1, v10.2.2.1.2.1, ?_, v10.2.2.1.2.2.2⟩, ⟨v10.2.2.2.1, v10.2.2.2.2.1, ?_, v10.2.2.2.2.2.2⟩⟩, v11, v12, v13⟩
      · intro q hq
        have w := v10.1.2.2.1 q hq
        have z2 : ¬ 0 + q = 40 + j := by omega
        simp [va_up, upd, kw, z2] at w ⊢
        first | exact w | (rw [if_neg (by omega)]; exact w)
      · intro q hq
        have w := g4 q hq
        by_cases z : q = j
        · subst z; simp [va_up, upd, kj, kw, nc_1]
        · have z2 : ¬ 40 + q = 40 + j := by omega
          simp [va_up, upd, kj, kw, z, nc_1] at w ⊢
          first | exact w | (rw [if_neg (by omega)]; exact w)
      · intro q hq
        have w := v10.2.2.1.2.2.1 q hq
        have z2 : ¬ 80 + q = 40 + j := by omega
        simp [va_up, upd, kw, z2] at w ⊢
        first | exact w | (rw [if_neg (by omega)]; exact w)
      · intro q hq
        have w := v10.2.2.2.2.2.1 q hq
        have z2 : ¬ 120 + q = 40 + j := by omega
        simp [va_up, upd, kw, z2] at w ⊢
        first | exact w | (rw [if_neg (by omega)]; exact w)
    · refine xw_yr hd 80 [0, 0, 1, 1, 0, 0, 1, 0, 0, 0, 1, 0] rfl (by simp (disch := omega) [Int.bmod_eq_of_le, xq_al, y_v, xq_cmp, xin_iff, fit0, up2, va_up, upd, Int32.lt_iff_toInt_lt, Int32.le_iff_toInt_le, ← Int32.toInt_inj, s1, s2, p1, p2, e1, e2, t1, t2, l1, l2, z1, z2, n0, n1, n2, n3, n4, n5, m0, m1, m2, m5, us, g1, g5, g2, g3, un, un1, nc_1, ni_0, ni_1, ni_2, uj] <;> omega) ?_
      refine ⟨_, _, _, _, _, rfl, rfl, xe_of (co := xk_212) (nl := 4) rfl rfl rfl (xw_yr hd 68 [0, 0, 1, 1, 0, 0, 1, 1, 0] rfl (by simp (disch := omega) [Int.bmod_eq_of_le, xq_al, y_v, xq_cmp, xin_iff, fit0, up2, va_up, upd, Int32.lt_iff_toInt_lt, Int32.le_iff_toInt_le, ← Int32.toInt_inj, s1, s2, p1, p2, e1, e2, t1, t2, l1, l2, z1, z2, n0, n1, n2, n3, n4, n5, m0, m1, m2, m5, us, g1, g5, g2, g3, un, un1, nc_1, ni_0, ni_1, ni_2, uj, qw] <;> omega) ?_)⟩
      refine ⟨rfl, N, B, _, _, _, _, rfl, v1, v2, v3, v4, v5, v6, v7, v8, v9, ⟨⟨v10.1.1, v10.1.2.1, ?_, v10.1.2.2.2⟩, ⟨v10.2.1.1, v10.2.1.2.1, ?_, v10.2.1.2.2.2⟩, ⟨v10.2.2.1.1, v10.2.2.1.2.1, ?_, v10.2.2.1.2.2.2⟩, ⟨v10.2.2.2.1, v10.2.2.2.2.1, ?_, v10.2.2.2.2.2.2⟩⟩, v11, v12, v13⟩
      · intro q hq
        have w := v10.1.2.2.1 q hq
        have z2 : ¬ 0 + q = 40 + j := by omega
        simp [va_up, upd, kw, z2] at w ⊢
        first | exact w | (rw [if_neg (by omega)]; exact w)
      · intro q hq
        have w := g4 q hq
        by_cases z : q = j
        · subst z; simp [va_up, upd, kj, kw, nc_1]
        · have z2 : ¬ 40 + q = 40 + j := by omega
          simp [va_up, upd, kj, kw, z, nc_1] at w ⊢
          first | exact w | (rw [if_neg (by omega)]; exact w)
      · intro q hq
        have w := v10.2.2.1.2.2.1 q hq
        have z2 : ¬ 80 + q = 40 + j := by omega
        simp [va_up, upd, kw, z2] at w ⊢
        first | exact w | (rw [if_neg (by omega)]; exact w)
      · intro q hq
        have w := v10.2.2.2.2.2.1 q hq
        have z2 : ¬ 120 + q = 40 + j := by omega
        simp [va_up, upd, kw, z2] at w ⊢
        first | exact w | (rw [if_neg (by omega)]; exact w)
    · refine xw_yr hd 78 [0, 0, 1, 1, 0, 0, 1, 0, 0, 0, 1, 1] rfl (by simp (disch := omega) [Int.bmod_eq_of_le, xq_al, y_v, xq_cmp, xin_iff, fit0, up2, va_up, upd, Int32.lt_iff_toInt_lt, Int32.le_iff_toInt_le, ← Int32.toInt_inj, s1, s2, p1, p2, e1, e2, t1, t2, l1, l2, z1, z2, n0, n1, n2, n3, n4, n5, m0, m1, m2, m5, us, g1, g5, g2, g3, un, un1, nc_1, ni_0, ni_1, ni_2, uj] <;> omega) ?_
      refine ⟨_, _, _, _, _, rfl, rfl, xe_of (co := xk_212) (nl := 4) rfl rfl rfl (xw_yr hd 66 [0, 0, 1, 1, 0, 0, 1, 1, 1] rfl (by simp (disch := omega) [Int.bmod_eq_of_le, xq_al, y_v, xq_cmp, xin_iff, fit0, up2, va_up, upd, Int32.lt_iff_toInt_lt, Int32.le_iff_toInt_le, ← Int32.toInt_inj, s1, s2, p1, p2, e1, e2, t1, t2, l1, l2, z1, z2, n0, n1, n2, n3, n4, n5, m0, m1, m2, m5, us, g1, g5, g2, g3, un, un1, nc_1, ni_0, ni_1, ni_2, uj, qw] <;> omega) ?_)⟩
      refine ⟨rfl, N, B, _, _, _, _, rfl, v1, v2, v3, v4, v5, v6, v7, v8, v9, ⟨⟨v10.1.1, v10.1.2.1, ?_, v10.1.2.2.2⟩, ⟨v10.2.1.1, v10.2.1.2.1, ?_, v10.2.1.2.2.2⟩, ⟨v10.2.2.1.1, v10.2.2.1.2.1, ?_, v10.2.2.1.2.2.2⟩, ⟨v10.2.2.2.1, v10.2.2.2.2.1, ?_, v10.2.2.2.2.2.2⟩⟩, v11, v12, v13⟩
      · intro q hq
        have w := v10.1.2.2.1 q hq
        have z2 : ¬ 0 + q = 40 + j := by omega
        simp [va_up, upd, kw, z2] at w ⊢
        first | exact w | (rw [if_neg (by omega)]; exact w)
      · intro q hq
        have w := g4 q hq
        by_cases z : q = j
        · subst z; simp [va_up, upd, kj, kw, nc_1]
        · have z2 : ¬ 40 + q = 40 + j := by omega
          simp [va_up, upd, kj, kw, z, nc_1] at w ⊢
          first | exact w | (rw [if_neg (by omega)]; exact w)
      · intro q hq
        have w := v10.2.2.1.2.2.1 q hq
        have z2 : ¬ 80 + q = 40 + j := by omega
        simp [va_up, upd, kw, z2] at w ⊢
        first | exact w | (rw [if_neg (by omega)]; exact w)
      · intro q hq
        have w := v10.2.2.2.2.2.1 q hq
        have z2 : ¬ 120 + q = 40 + j := by omega
        simp [va_up, upd, kw, z2] at w ⊢
        first | exact w | (rw [if_neg (by omega)]; exact w)
  · obtain ⟨g1, ⟨n, gn, g2, g3⟩, g4, g5⟩ := v10.2.2.1
    have un := tI (n := n) (by omega)
    have un1 := tI1 (n := n) (by omega)
    rcases g5 with g5 | ⟨k, hk, g5⟩
    · refine xw_yr hd 36 [0, 0, 1, 0] rfl (by simp (disch := omega) [Int.bmod_eq_of_le, xq_al, y_v, xq_cmp, xin_iff, fit0, up2, va_up, upd, Int32.lt_iff_toInt_lt, Int32.le_iff_toInt_le, ← Int32.toInt_inj, s1, s2, p1, p2, e1, e2, t1, t2, l1, l2, z1, z2, n0, n1, n2, n3, n4, n5, m0, m1, m2, m5, us, g1, g5, g2, g3, un, un1, nc_2, ni_0, ni_1, ni_2] <;> omega) ?_
      refine ⟨_, _, _, _, _, rfl, rfl, xe_of (co := xk_212) (nl := 4) rfl rfl rfl (xw_yr hd 27 [0, 0, 1, 0] rfl (by simp (disch := omega) [Int.bmod_eq_of_le, xq_al, y_v, xq_cmp, xin_iff, fit0, up2, va_up, upd, Int32.lt_iff_toInt_lt, Int32.le_iff_toInt_le, ← Int32.toInt_inj, s1, s2, p1, p2, e1, e2, t1, t2, l1, l2, z1, z2, n0, n1, n2, n3, n4, n5, m0, m1, m2, m5, us, g1, g5, g2, g3, un, un1, nc_2, ni_0, ni_1, ni_2] <;> omega) ⟨rfl, N, B, _, _, _, _, rfl, hv⟩)⟩
    rcases ix3 i n (by omega) with c | c | ⟨j, hj, rfl⟩
    · rcases (show k = 0 ∨ k = 1 ∨ k = 2 by omega) with rfl | rfl | rfl
      · refine xw_yr hd 43 [0, 0, 1, 1, 1, 0] rfl (by simp (disch := omega) [Int.bmod_eq_of_le, xq_al, y_v, xq_cmp, xin_iff, fit0, up2, va_up, upd, Int32.lt_iff_toInt_lt, Int32.le_iff_toInt_le, ← Int32.toInt_inj, s1, s2, p1, p2, e1, e2, t1, t2, l1, l2, z1, z2, n0, n1, n2, n3, n4, n5, m0, m1, m2, m5, us, g1, g5, g2, g3, un, un1, nc_2, ni_0, ni_1, ni_2] <;> omega) ?_
        refine ⟨_, _, _, _, _, rfl, rfl, xe_of (co := xk_212) (nl := 4) rfl rfl rfl (xw_yr hd 42 [0, 0, 1, 1, 1, 0] rfl (by simp (disch := omega) [Int.bmod_eq_of_le, xq_al, y_v, xq_cmp, xin_iff, fit0, up2, va_up, upd, Int32.lt_iff_toInt_lt, Int32.le_iff_toInt_le, ← Int32.toInt_inj, s1, s2, p1, p2, e1, e2, t1, t2, l1, l2, z1, z2, n0, n1, n2, n3, n4, n5, m0, m1, m2, m5, us, g1, g5, g2, g3, un, un1, nc_2, ni_0, ni_1, ni_2] <;> omega) ⟨rfl, N, B, _, _, _, _, rfl, hv⟩)⟩
      · refine xw_yr hd 43 [0, 0, 1, 1, 1, 0] rfl (by simp (disch := omega) [Int.bmod_eq_of_le, xq_al, y_v, xq_cmp, xin_iff, fit0, up2, va_up, upd, Int32.lt_iff_toInt_lt, Int32.le_iff_toInt_le, ← Int32.toInt_inj, s1, s2, p1, p2, e1, e2, t1, t2, l1, l2, z1, z2, n0, n1, n2, n3, n4, n5, m0, m1, m2, m5, us, g1, g5, g2, g3, un, un1, nc_2, ni_0, ni_1, ni_2] <;> omega) ?_
        refine ⟨_, _, _, _, _, rfl, rfl, xe_of (co := xk_212) (nl := 4) rfl rfl rfl (xw_yr hd 42 [0, 0, 1, 1, 1, 0] rfl (by simp (disch := omega) [Int.bmod_eq_of_le, xq_al, y_v, xq_cmp, xin_iff, fit0, up2, va_up, upd, Int32.lt_iff_toInt_lt, Int32.le_iff_toInt_le, ← Int32.toInt_inj, s1, s2, p1, p2, e1, e2, t1, t2, l1, l2, z1, z2, n0, n1, n2, n3, n4, n5, m0, m1, m2, m5, us, g1, g5, g2, g3, un, un1, nc_2, ni_0, ni_1, ni_2] <;> omega) ⟨rfl, N, B, _, _, _, _, rfl, hv⟩)⟩
      · refine xw_yr hd 43 [0, 0, 1, 1, 1, 0] rfl (by simp (disch := omega) [Int.bmod_eq_of_le, xq_al, y_v, xq_cmp, xin_iff, fit0, up2, va_up, upd, Int32.lt_iff_toInt_lt, Int32.le_iff_toInt_le, ← Int32.toInt_inj, s1, s2, p1, p2, e1, e2, t1, t2, l1, l2, z1, z2, n0, n1, n2, n3, n4, n5, m0, m1, m2, m5, us, g1, g5, g2, g3, un, un1, nc_2, ni_0, ni_1, ni_2] <;> omega) ?_
        refine ⟨_, _, _, _, _, rfl, rfl, xe_of (co := xk_212) (nl := 4) rfl rfl rfl (xw_yr hd 42 [0, 0, 1, 1, 1, 0] rfl (by simp (disch := omega) [Int.bmod_eq_of_le, xq_al, y_v, xq_cmp, xin_iff, fit0, up2, va_up, upd, Int32.lt_iff_toInt_lt, Int32.le_iff_toInt_le, ← Int32.toInt_inj, s1, s2, p1, p2, e1, e2, t1, t2, l1, l2, z1, z2, n0, n1, n2, n3, n4, n5, m0, m1, m2, m5, us, g1, g5, g2, g3, un, un1, nc_2, ni_0, ni_1, ni_2] <;> omega) ⟨rfl, N, B, _, _, _, _, rfl, hv⟩)⟩
    · rcases (show k = 0 ∨ k = 1 ∨ k = 2 by omega) with rfl | rfl | rfl
      · refine xw_yr hd 47 [0, 0, 1, 1, 0, 1, 0] rfl (by simp (disch := omega) [Int.bmod_eq_of_le, xq_al, y_v, xq_cmp, xin_iff, fit0, up2, va_up, upd, Int32.lt_iff_toInt_lt, Int32.le_iff_toInt_le, ← Int32.toInt_inj, s1, s2, p1, p2, e1, e2, t1, t2, l1, l2, z1, z2, n0, n1, n2, n3, n4, n5, m0, m1, m2, m5, us, g1, g5, g2, g3, un, un1, nc_2, ni_0, ni_1, ni_2] <;> omega) ?_
        refine ⟨_, _, _, _, _, rfl, rfl, xe_of (co := xk_212) (nl := 4) rfl rfl rfl (xw_yr hd 45 [0, 0, 1, 1, 0, 1, 0] rfl (by simp (disch := omega) [Int.bmod_eq_of_le, xq_al, y_v, xq_cmp, xin_iff, fit0, up2, va_up, upd, Int32.lt_iff_toInt_lt, Int32.le_iff_toInt_le, ← Int32.toInt_inj, s1, s2, p1, p2, e1, e2, t1, t2, l1, l2, z1, z2, n0, n1, n2, n3, n4, n5, m0, m1, m2, m5, us, g1, g5, g2, g3, un, un1, nc_2, ni_0, ni_1, ni_2] <;> omega) ⟨rfl, N, B, _, _, _, _, rfl, hv⟩)⟩
      · refine xw_yr hd 47 [0, 0, 1, 1, 0, 1, 0] rfl (by simp (disch := omega) [Int.bmod_eq_of_le, xq_al, y_v, xq_cmp, xin_iff, fit0, up2, va_up, upd, Int32.lt_iff_toInt_lt, Int32.le_iff_toInt_le, ← Int32.toInt_inj, s1, s2, p1, p2, e1, e2, t1, t2, l1, l2, z1, z2, n0, n1, n2, n3, n4, n5, m0, m1, m2, m5, us, g1, g5, g2, g3, un, un1, nc_2, ni_0, ni_1, ni_2] <;> omega) ?_
        refine ⟨_, _, _, _, _, rfl, rfl, xe_of (co := xk_212) (nl := 4) rfl rfl rfl (xw_yr hd 45 [0, 0, 1, 1, 0, 1, 0] rfl (by simp (disch := omega) [Int.bmod_eq_of_le, xq_al, y_v, xq_cmp, xin_iff, fit0, up2, va_up, upd, Int32.lt_iff_toInt_lt, Int32.le_iff_toInt_le, ← Int32.toInt_inj, s1, s2, p1, p2, e1, e2, t1, t2, l1, l2, z1, z2, n0, n1, n2, n3, n4, n5, m0, m1, m2, m5, us, g1, g5, g2, g3, un, un1, nc_2, ni_0, ni_1, ni_2] <;> omega) ⟨rfl, N, B, _, _, _, _, rfl, hv⟩)⟩
      · refine xw_yr hd 47 [0, 0, 1, 1, 0, 1, 0] rfl (by simp (disch := omega) [Int.bmod_eq_of_le, xq_al, y_v, xq_cmp, xin_iff, fit0, up2, va_up, upd, Int32.lt_iff_toInt_lt, Int32.le_iff_toInt_le, ← Int32.toInt_inj, s1, s2, p1, p2, e1, e2, t1, t2, l1, l2, z1, z2, n0, n1, n2, n3, n4, n5, m0, m1, m2, m5, us, g1, g5, g2, g3, un, un1, nc_2, ni_0, ni_1, ni_2] <;> omega) ?_
        refine ⟨_, _, _, _, _, rfl, rfl, xe_of (co := xk_212) (nl := 4) rfl rfl rfl (xw_yr hd 45 [0, 0, 1, 1, 0, 1, 0] rfl (by simp (disch := omega) [Int.bmod_eq_of_le, xq_al, y_v, xq_cmp, xin_iff, fit0, up2, va_up, upd, Int32.lt_iff_toInt_lt, Int32.le_iff_toInt_le, ← Int32.toInt_inj, s1, s2, p1, p2, e1, e2, t1, t2, l1, l2, z1, z2, n0, n1, n2, n3, n4, n5, m0, m1, m2, m5, us, g1, g5, g2, g3, un, un1, nc_2, ni_0, ni_1, ni_2] <;> omega) ⟨rfl, N, B, _, _, _, _, rfl, hv⟩)⟩
    have uj := tI (n := j) (by omega)
    have kj : (nI j).toNatClampNeg = j := tC (by omega)
    have qw : (40 * nI 2 + nI j).toInt = ((80 + j : Nat) : Int) := by simp (disch := omega) [Int.bmod_eq_of_le, us, uj] <;> omega
    have kw : (40 * nI 2 + nI j).toNatClampNeg = 80 + j := cl qw
    rcases (show k = 0 ∨ k = 1 ∨ k = 2 by omega) with rfl | rfl | rfl
    · refine xw_yr hd 76 [0, 0, 1, 1, 0, 0, 1, 0, 0, 0, 0] rfl (by simp (disch := omega) [Int.bmod_eq_of_le, xq_al, y_v, xq_cmp, xin_iff, fit0, up2, va_up, upd, Int32.lt_iff_toInt_lt, Int32.le_iff_toInt_le, ← Int32.toInt_inj, s1, s2, p1, p2, e1, e2, t1, t2, l1, l2, z1, z2, n0, n1, n2, n3, n4, n5, m0, m1, m2, m5, us, g1, g5, g2, g3, un, un1, nc_2, ni_0, ni_1, ni_2, uj] <;> omega) ?_
      refine ⟨_, _, _, _, _, rfl, rfl, xe_of (co := xk_212) (nl := 4) rfl rfl rfl (xw_yr hd 62 [0, 0, 1, 1, 0, 0, 1, 0] rfl (by simp (disch := omega) [Int.bmod_eq_of_le, xq_al, y_v, xq_cmp, xin_iff, fit0, up2, va_up, upd, Int32.lt_iff_toInt_lt, Int32.le_iff_toInt_le, ← Int32.toInt_inj, s1, s2, p1, p2, e1, e2, t1, t2, l1, l2, z1, z2, n0, n1, n2, n3, n4, n5, m0, m1, m2, m5, us, g1, g5, g2, g3, un, un1, nc_2, ni_0, ni_1, ni_2, uj, qw] <;> omega) ?_)⟩
      refine ⟨rfl, N, B, _, _, _, _, rfl, v1, v2, v3, v4, v5, v6, v7, v8, v9, ⟨⟨v10.1.1, v10.1.2.1, ?_, v10.1.2.2.2⟩, ⟨v10.2.1.1, v10.2.1.2.1, ?_, v10.2.1.2.2.2⟩, ⟨v10.2.2.1.1, v10.2.2.1.2.1, ?_, v10.2.2.1.2.2.2⟩, ⟨v10.2.2.2.1, v10.2.2.2.2.1, ?_, v10.2.2.2.2.2.2⟩⟩, v11, v12, v13⟩
      · intro q hq
        have w := v10.1.2.2.1 q hq
        have z2 : ¬ 0 + q = 80 + j := by omega
        simp [va_up, upd, kw, z2] at w ⊢
        first | exact w | (rw [if_neg (by omega)]; exact w)
      · intro q hq
        have w := v10.2.1.2.2.1 q hq
        have z2 : ¬ 40 + q = 80 + j := by omega
        simp [va_up, upd, kw, z2] at w ⊢
        first | exact w | (rw [if_neg (by omega)]; exact w)
      · intro q hq
        have w := g4 q hq
        by_cases z : q = j
        · subst z; simp [va_up, upd, kj, kw, nc_2]
        · have z2 : ¬ 80 + q = 80 + j := by omega
          simp [va_up, upd, kj, kw, z, nc_2] at w ⊢
          first | exact w | (rw [if_neg (by omega)]; exact w)
      · intro q hq
        have w := v10.2.2.2.2.2.1 q hq
        have z2 : ¬ 120 + q = 80 + j := by omega
        simp [va_up, upd, kw, z2] at w ⊢
        first | exact w | (rw [if_neg (by omega)]; exact w)
    · refine xw_yr hd 80 [0, 0, 1, 1, 0, 0, 1, 0, 0, 0, 1, 0] rfl (by simp (disch := omega) [Int.bmod_eq_of_le, xq_al, y_v, xq_cmp, xin_iff, fit0, up2, va_up, upd, Int32.lt_iff_toInt_lt, Int32.le_iff_toInt_le, ← Int32.toInt_inj, s1, s2, p1, p2, e1, e2, t1, t2, l1, l2, z1, z2, n0, n1, n2, n3, n4, n5, m0, m1, m2, m5, us, g1, g5, g2, g3, un, un1, nc_2, ni_0, ni_1, ni_2, uj] <;> omega) ?_
      refine ⟨_, _, _, _, _, rfl, rfl, xe_of (co := xk_212) (nl := 4) rfl rfl rfl (xw_yr hd 68 [0, 0, 1, 1, 0, 0, 1, 1, 0] rfl (by simp (disch := omega) [Int.bmod_eq_of_le, xq_al, y_v, xq_cmp, xin_iff, fit0, up2, va_up, upd, Int32.lt_iff_toInt_lt, Int32.le_iff_toInt_le, ← Int32.toInt_inj, s1, s2, p1, p2, e1, e2, t1, t2, l1, l2, z1, z2, n0, n1, n2, n3, n4, n5, m0, m1, m2, m5, us, g1, g5, g2, g3, un, un1, nc_2, ni_0, ni_1, ni_2, uj, qw] <;> omega) ?_)⟩
      refine ⟨rfl, N, B, _, _, _, _, rfl, v1, v2, v3, v4, v5, v6, v7, v8, v9, ⟨⟨v10.1.1, v10.1.2.1, ?_, v10.1.2.2.2⟩, ⟨v10.2.1.1, v10.2.1.2.1, ?_, v10.2.1.2.2.2⟩, ⟨v10.2.2.1.1, v10.2.2.1.2.1, ?_, v10.2.2.1.2.2.2⟩, ⟨v10.2.2.2.1, v10.2.2.2.2.1, ?_, v10.2.2.2.2.2.2⟩⟩, v11, v12, v13⟩
      · intro q hq
        have w := v10.1.2.2.1 q hq
        have z2 : ¬ 0 + q = 80 + j := by omega
        simp [va_up, upd, kw, z2] at w ⊢
        first | exact w | (rw [if_neg (by omega)]; exact w)
      · intro q hq
        have w := v10.2.1.2.2.1 q hq
        have z2 : ¬ 40 + q = 80 + j := by omega
        simp [va_up, upd, kw, z2] at w ⊢
        first | exact w | (rw [if_neg (by omega)]; exact w)
      · intro q hq
        have w := g4 q hq
        by_cases z : q = j
        · subst z; simp [va_up, upd, kj, kw, nc_2]
        · have z2 : ¬ 80 + q = 80 + j := by omega
          simp [va_up, upd, kj, kw, z, nc_2] at w ⊢
          first | exact w | (rw [if_neg (by omega)]; exact w)
      · intro q hq
        have w := v10.2.2.2.2.2.1 q hq
        have z2 : ¬ 120 + q = 80 + j := by omega
        simp [va_up, upd, kw, z2] at w ⊢
        first | exact w | (rw [if_neg (by omega)]; exact w)
    · refine xw_yr hd 78 [0, 0, 1, 1, 0, 0, 1, 0, 0, 0, 1, 1] rfl (by simp (disch := omega) [Int.bmod_eq_of_le, xq_al, y_v, xq_cmp, xin_iff, fit0, up2, va_up, upd, Int32.lt_iff_toInt_lt, Int32.le_iff_toInt_le, ← Int32.toInt_inj, s1, s2, p1, p2, e1, e2, t1, t2, l1, l2, z1, z2, n0, n1, n2, n3, n4, n5, m0, m1, m2, m5, us, g1, g5, g2, g3, un, un1, nc_2, ni_0, ni_1, ni_2, uj] <;> omega) ?_
      refine ⟨_, _, _, _, _, rfl, rfl, xe_of (co := xk_212) (nl := 4) rfl rfl rfl (xw_yr hd 66 [0, 0, 1, 1, 0, 0, 1, 1, 1] rfl (by simp (disch := omega) [Int.bmod_eq_of_le, xq_al, y_v, xq_cmp, xin_iff, fit0, up2, va_up, upd, Int32.lt_iff_toInt_lt, Int32.le_iff_toInt_le, ← Int32.toInt_inj, s1, s2, p1, p2, e1, e2, t1, t2, l1, l2, z1, z2, n0, n1, n2, n3, n4, n5, m0, m1, m2, m5, us, g1, g5, g2, g3, un, un1, nc_2, ni_0, ni_1, ni_2, uj, qw] <;> omega) ?_)⟩
      refine ⟨rfl, N, B, _, _, _, _, rfl, v1, v2, v3, v4, v5, v6, v7, v8, v9, ⟨⟨v10.1.1, v10.1.2.1, ?_, v10.1.2.2.2⟩, ⟨v10.2.1.1, v10.2.1.2.1, ?_, v10.2.1.2.2.2⟩, ⟨v10.2.2.1.1, v10.2.2.1.2.1, ?_, v10.2.2.1.2.2.2⟩, ⟨v10.2.2.2.1, v10.2.2.2.2.1, ?_, v10.2.2.2.2.2.2⟩⟩, v11, v12, v13⟩
      · intro q hq
        have w := v10.1.2.2.1 q hq
        have z2 : ¬ 0 + q = 80 + j := by omega
        simp [va_up, upd, kw, z2] at w ⊢
        first | exact w | (rw [if_neg (by omega)]; exact w)
      · intro q hq
        have w := v10.2.1.2.2.1 q hq
        have z2 : ¬ 40 + q = 80 + j := by omega
        simp [va_up, upd, kw, z2] at w ⊢
        first | exact w | (rw [if_neg (by omega)]; exact w)
      · intro q hq
        have w := g4 q hq
        by_cases z : q = j
        · subst z; simp [va_up, upd, kj, kw, nc_2]
        · have z2 : ¬ 80 + q = 80 + j := by omega
          simp [va_up, upd, kj, kw, z, nc_2] at w ⊢
          first | exact w | (rw [if_neg (by omega)]; exact w)
      · intro q hq
        have w := v10.2.2.2.2.2.1 q hq
        have z2 : ¬ 120 + q = 80 + j := by omega
        simp [va_up, upd, kw, z2] at w ⊢
        first | exact w | (rw [if_neg (by omega)]; exact w)
  · obtain ⟨g1, ⟨n, gn, g2, g3⟩, g4, g5⟩ := v10.2.2.2
    have un := tI (n := n) (by omega)
    have un1 := tI1 (n := n) (by omega)
    rcases g5 with g5 | ⟨k, hk, g5⟩
    · refine xw_yr hd 36 [0, 0, 1, 0] rfl (by simp (disch := omega) [Int.bmod_eq_of_le, xq_al, y_v, xq_cmp, xin_iff, fit0, up2, va_up, upd, Int32.lt_iff_toInt_lt, Int32.le_iff_toInt_le, ← Int32.toInt_inj, s1, s2, p1, p2, e1, e2, t1, t2, l1, l2, z1, z2, n0, n1, n2, n3, n4, n5, m0, m1, m2, m5, us, g1, g5, g2, g3, un, un1, nc_3, ni_0, ni_1, ni_2] <;> omega) ?_
      refine ⟨_, _, _, _, _, rfl, rfl, xe_of (co := xk_212) (nl := 4) rfl rfl rfl (xw_yr hd 27 [0, 0, 1, 0] rfl (by simp (disch := omega) [Int.bmod_eq_of_le, xq_al, y_v, xq_cmp, xin_iff, fit0, up2, va_up, upd, Int32.lt_iff_toInt_lt, Int32.le_iff_toInt_le, ← Int32.toInt_inj, s1, s2, p1, p2, e1, e2, t1, t2, l1, l2, z1, z2, n0, n1, n2, n3, n4, n5, m0, m1, m2, m5, us, g1, g5, g2, g3, un, un1, nc_3, ni_0, ni_1, ni_2] <;> omega) ⟨rfl, N, B, _, _, _, _, rfl, hv⟩)⟩
    rcases ix3 i n (by omega) with c | c | ⟨j, hj, rfl⟩
    · rcases (show k = 0 ∨ k = 1 ∨ k = 2 by omega) with rfl | rfl | rfl
      · refine xw_yr hd 43 [0, 0, 1, 1, 1, 0] rfl (by simp (disch := omega) [Int.bmod_eq_of_le, xq_al, y_v, xq_cmp, xin_iff, fit0, up2, va_up, upd, Int32.lt_iff_toInt_lt, Int32.le_iff_toInt_le, ← Int32.toInt_inj, s1, s2, p1, p2, e1, e2, t1, t2, l1, l2, z1, z2, n0, n1, n2, n3, n4, n5, m0, m1, m2, m5, us, g1, g5, g2, g3, un, un1, nc_3, ni_0, ni_1, ni_2] <;> omega) ?_
        refine ⟨_, _, _, _, _, rfl, rfl, xe_of (co := xk_212) (nl := 4) rfl rfl rfl (xw_yr hd 42 [0, 0, 1, 1, 1, 0] rfl (by simp (disch := omega) [Int.bmod_eq_of_le, xq_al, y_v, xq_cmp, xin_iff, fit0, up2, va_up, upd, Int32.lt_iff_toInt_lt, Int32.le_iff_toInt_le, ← Int32.toInt_inj, s1, s2, p1, p2, e1, e2, t1, t2, l1, l2, z1, z2, n0, n1, n2, n3, n4, n5, m0, m1, m2, m5, us, g1, g5, g2, g3, un, un1, nc_3, ni_0, ni_1, ni_2] <;> omega) ⟨rfl, N, B, _, _, _, _, rfl, hv⟩)⟩
      · refine xw_yr hd 43 [0, 0, 1, 1, 1, 0] rfl (by simp (disch := omega) [Int.bmod_eq_of_le, xq_al, y_v, xq_cmp, xin_iff, fit0, up2, va_up, upd, Int32.lt_iff_toInt_lt, Int32.le_iff_toInt_le, ← Int32.toInt_inj, s1, s2, p1, p2, e1, e2, t1, t2, l1, l2, z1, z2, n0, n1, n2, n3, n4, n5, m0, m1, m2, m5, us, g1, g5, g2, g3, un, un1, nc_3, ni_0, ni_1, ni_2] <;> omega) ?_
        refine ⟨_, _, _, _, _, rfl, rfl, xe_of (co := xk_212) (nl := 4) rfl rfl rfl (xw_yr hd 42 [0, 0, 1, 1, 1, 0] rfl (by simp (disch := omega) [Int.bmod_eq_of_le, xq_al, y_v, xq_cmp, xin_iff, fit0, up2, va_up, upd, Int32.lt_iff_toInt_lt, Int32.le_iff_toInt_le, ← Int32.toInt_inj, s1, s2, p1, p2, e1, e2, t1, t2, l1, l2, z1, z2, n0, n1, n2, n3, n4, n5, m0, m1, m2, m5, us, g1, g5, g2, g3, un, un1, nc_3, ni_0, ni_1, ni_2] <;> omega) ⟨rfl, N, B, _, _, _, _, rfl, hv⟩)⟩
      · refine xw_yr hd 43 [0, 0, 1, 1, 1, 0] rfl (by simp (disch := omega) [Int.bmod_eq_of_le, xq_al, y_v, xq_cmp, xin_iff, fit0, up2, va_up, upd, Int32.lt_iff_toInt_lt, Int32.le_iff_toInt_le, ← Int32.toInt_inj, s1, s2, p1, p2, e1, e2, t1, t2, l1, l2, z1, z2, n0, n1, n2, n3, n4, n5, m0, m1, m2, m5, us, g1, g5, g2, g3, un, un1, nc_3, ni_0, ni_1, ni_2] <;> omega) ?_
        refine ⟨_, _, _, _, _, rfl, rfl, xe_of (co := xk_212) (nl := 4) rfl rfl rfl (xw_yr hd 42 [0, 0, 1, 1, 1, 0] rfl (by simp (disch := omega) [Int.bmod_eq_of_le, xq_al, y_v, xq_cmp, xin_iff, fit0, up2, va_up, upd, Int32.lt_iff_toInt_lt, Int32.le_iff_toInt_le, ← Int32.toInt_inj, s1, s2, p1, p2, e1, e2, t1, t2, l1, l2, z1, z2, n0, n1, n2, n3, n4, n5, m0, m1, m2, m5, us, g1, g5, g2, g3, un, un1, nc_3, ni_0, ni_1, ni_2] <;> omega) ⟨rfl, N, B, _, _, _, _, rfl, hv⟩)⟩
    · rcases (show k = 0 ∨ k = 1 ∨ k = 2 by omega) with rfl | rfl | rfl
      · refine xw_yr hd 47 [0, 0, 1, 1, 0, 1, 0] rfl (by simp (disch := omega) [Int.bmod_eq_of_le, xq_al, y_v, xq_cmp, xin_iff, fit0, up2, va_up, upd, Int32.lt_iff_toInt_lt, Int32.le_iff_toInt_le, ← Int32.toInt_inj, s1, s2, p1, p2, e1, e2, t1, t2, l1, l2, z1, z2, n0, n1, n2, n3, n4, n5, m0, m1, m2, m5, us, g1, g5, g2, g3, un, un1, nc_3, ni_0, ni_1, ni_2] <;> omega) ?_
        refine ⟨_, _, _, _, _, rfl, rfl, xe_of (co := xk_212) (nl := 4) rfl rfl rfl (xw_yr hd 45 [0, 0, 1, 1, 0, 1, 0] rfl (by simp (disch := omega) [Int.bmod_eq_of_le, xq_al, y_v, xq_cmp, xin_iff, fit0, up2, va_up, upd, Int32.lt_iff_toInt_lt, Int32.le_iff_toInt_le, ← Int32.toInt_inj, s1, s2, p1, p2, e1, e2, t1, t2, l1, l2, z1, z2, n0, n1, n2, n3, n4, n5, m0, m1, m2, m5, us, g1, g5, g2, g3, un, un1, nc_3, ni_0, ni_1, ni_2] <;> omega) ⟨rfl, N, B, _, _, _, _, rfl, hv⟩)⟩
      · refine xw_yr hd 47 [0, 0, 1, 1, 0, 1, 0] rfl (by simp (disch := omega) [Int.bmod_eq_of_le, xq_al, y_v, xq_cmp, xin_iff, fit0, up2, va_up, upd, Int32.lt_iff_toInt_lt, Int32.le_iff_toInt_le, ← Int32.toInt_inj, s1, s2, p1, p2, e1, e2, t1, t2, l1, l2, z1, z2, n0, n1, n2, n3, n4, n5, m0, m1, m2, m5, us, g1, g5, g2, g3, un, un1, nc_3, ni_0, ni_1, ni_2] <;> omega) ?_
        refine ⟨_, _, _, _, _, rfl, rfl, xe_of (co := xk_212) (nl := 4) rfl rfl rfl (xw_yr hd 45 [0, 0, 1, 1, 0, 1, 0] rfl (by simp (disch := omega) [Int.bmod_eq_of_le, xq_al, y_v, xq_cmp, xin_iff, fit0, up2, va_up, upd, Int32.lt_iff_toInt_lt, Int32.le_iff_toInt_le, ← Int32.toInt_inj, s1, s2, p1, p2, e1, e2, t1, t2, l1, l2, z1, z2, n0, n1, n2, n3, n4, n5, m0, m1, m2, m5, us, g1, g5, g2, g3, un, un1, nc_3, ni_0, ni_1, ni_2] <;> omega) ⟨rfl, N, B, _, _, _, _, rfl, hv⟩)⟩
      · refine xw_yr hd 47 [0, 0, 1, 1, 0, 1, 0] rfl (by simp (disch := omega) [Int.bmod_eq_of_le, xq_al, y_v, xq_cmp, xin_iff, fit0, up2, va_up, upd, Int32.lt_iff_toInt_lt, Int32.le_iff_toInt_le, ← Int32.toInt_inj, s1, s2, p1, p2, e1, e2, t1, t2, l1, l2, z1, z2, n0, n1, n2, n3, n4, n5, m0, m1, m2, m5, us, g1, g5, g2, g3, un, un1, nc_3, ni_0, ni_1, ni_2] <;> omega) ?_
        refine ⟨_, _, _, _, _, rfl, rfl, xe_of (co := xk_212) (nl := 4) rfl rfl rfl (xw_yr hd 45 [0, 0, 1, 1, 0, 1, 0] rfl (by simp (disch := omega) [Int.bmod_eq_of_le, xq_al, y_v, xq_cmp, xin_iff, fit0, up2, va_up, upd, Int32.lt_iff_toInt_lt, Int32.le_iff_toInt_le, ← Int32.toInt_inj, s1, s2, p1, p2, e1, e2, t1, t2, l1, l2, z1, z2, n0, n1, n2, n3, n4, n5, m0, m1, m2, m5, us, g1, g5, g2, g3, un, un1, nc_3, ni_0, ni_1, ni_2] <;> omega) ⟨rfl, N, B, _, _, _, _, rfl, hv⟩)⟩
    have uj := tI (n := j) (by omega)
    have kj : (nI j).toNatClampNeg = j := tC (by omega)
    have qw : (40 * nI 3 + nI j).toInt = ((120 + j : Nat) : Int) := by simp (disch := omega) [Int.bmod_eq_of_le, us, uj] <;> omega
    have kw : (40 * nI 3 + nI j).toNatClampNeg = 120 + j := cl qw
    rcases (show k = 0 ∨ k = 1 ∨ k = 2 by omega) with rfl | rfl | rfl
    · refine xw_yr hd 76 [0, 0, 1, 1, 0, 0, 1, 0, 0, 0, 0] rfl (by simp (disch := omega) [Int.bmod_eq_of_le, xq_al, y_v, xq_cmp, xin_iff, fit0, up2, va_up, upd, Int32.lt_iff_toInt_lt, Int32.le_iff_toInt_le, ← Int32.toInt_inj, s1, s2, p1, p2, e1, e2, t1, t2, l1, l2, z1, z2, n0, n1, n2, n3, n4, n5, m0, m1, m2, m5, us, g1, g5, g2, g3, un, un1, nc_3, ni_0, ni_1, ni_2, uj] <;> omega) ?_
      refine ⟨_, _, _, _, _, rfl, rfl, xe_of (co := xk_212) (nl := 4) rfl rfl rfl (xw_yr hd 62 [0, 0, 1, 1, 0, 0, 1, 0] rfl (by simp (disch := omega) [Int.bmod_eq_of_le, xq_al, y_v, xq_cmp, xin_iff, fit0, up2, va_up, upd, Int32.lt_iff_toInt_lt, Int32.le_iff_toInt_le, ← Int32.toInt_inj, s1, s2, p1, p2, e1, e2, t1, t2, l1, l2, z1, z2, n0, n1, n2, n3, n4, n5, m0, m1, m2, m5, us, g1, g5, g2, g3, un, un1, nc_3, ni_0, ni_1, ni_2, uj, qw] <;> omega) ?_)⟩
      refine ⟨rfl, N, B, _, _, _, _, rfl, v1, v2, v3, v4, v5, v6, v7, v8, v9, ⟨⟨v10.1.1, v10.1.2.1, ?_, v10.1.2.2.2⟩, ⟨v10.2.1.1, v10.2.1.2.1, ?_, v10.2.1.2.2.2⟩, ⟨v10.2.2.1.1, v10.2.2.1.2.1, ?_, v10.2.2.1.2.2.2⟩, ⟨v10.2.2.2.1, v10.2.2.2.2.1, ?_, v10.2.2.2.2.2.2⟩⟩, v11, v12, v13⟩
      · intro q hq
        have w := v10.1.2.2.1 q hq
        have z2 : ¬ 0 + q = 120 + j := by omega
        simp [va_up, upd, kw, z2] at w ⊢
        first | exact w | (rw [if_neg (by omega)]; exact w)
      · intro q hq
        have w := v10.2.1.2.2.1 q hq
        have z2 : ¬ 40 + q = 120 + j := by omega
        simp [va_up, upd, kw, z2] at w ⊢
        first | exact w | (rw [if_neg (by omega)]; exact w)
      · intro q hq
        have w := v10.2.2.1.2.2.1 q hq
        have z2 : ¬ 80 + q = 120 + j := by omega
        simp [va_up, upd, kw, z2] at w ⊢
        first | exact w | (rw [if_neg (by omega)]; exact w)
      · intro q hq
        have w := g4 q hq
        by_cases z : q = j
        · subst z; simp [va_up, upd, kj, kw, nc_3]
        · have z2 : ¬ 120 + q = 120 + j := by omega
          simp [va_up, upd, kj, kw, z, nc_3] at w ⊢
          first | exact w | (rw [if_neg (by omega)]; exact w)
    · refine xw_yr hd 80 [0, 0, 1, 1, 0, 0, 1, 0, 0, 0, 1, 0] rfl (by simp (disch := omega) [Int.bmod_eq_of_le, xq_al, y_v, xq_cmp, xin_iff, fit0, up2, va_up, upd, Int32.lt_iff_toInt_lt, Int32.le_iff_toInt_le, ← Int32.toInt_inj, s1, s2, p1, p2, e1, e2, t1, t2, l1, l2, z1, z2, n0, n1, n2, n3, n4, n5, m0, m1, m2, m5, us, g1, g5, g2, g3, un, un1, nc_3, ni_0, ni_1, ni_2, uj] <;> omega) ?_
      refine ⟨_, _, _, _, _, rfl, rfl, xe_of (co := xk_212) (nl := 4) rfl rfl rfl (xw_yr hd 68 [0, 0, 1, 1, 0, 0, 1, 1, 0] rfl (by simp (disch := omega) [Int.bmod_eq_of_le, xq_al, y_v, xq_cmp, xin_iff, fit0, up2, va_up, upd, Int32.lt_iff_toInt_lt, Int32.le_iff_toInt_le, ← Int32.toInt_inj, s1, s2, p1, p2, e1, e2, t1, t2, l1, l2, z1, z2, n0, n1, n2, n3, n4, n5, m0, m1, m2, m5, us, g1, g5, g2, g3, un, un1, nc_3, ni_0, ni_1, ni_2, uj, qw] <;> omega) ?_)⟩
      refine ⟨rfl, N, B, _, _, _, _, rfl, v1, v2, v3, v4, v5, v6, v7, v8, v9, ⟨⟨v10.1.1, v10.1.2.1, ?_, v10.1.2.2.2⟩, ⟨v10.2.1.1, v10.2.1.2.1, ?_, v10.2.1.2.2.2⟩, ⟨v10.2.2.1.1, v10.2.2.1.2.1, ?_, v10.2.2.1.2.2.2⟩, ⟨v10.2.2.2.1, v10.2.2.2.2.1, ?_, v10.2.2.2.2.2.2⟩⟩, v11, v12, v13⟩
      · intro q hq
        have w := v10.1.2.2.1 q hq
        have z2 : ¬ 0 + q = 120 + j := by omega
        simp [va_up, upd, kw, z2] at w ⊢
        first | exact w | (rw [if_neg (by omega)]; exact w)
      · intro q hq
        have w := v10.2.1.2.2.1 q hq
        have z2 : ¬ 40 + q = 120 + j := by omega
        simp [va_up, upd, kw, z2] at w ⊢
        first | exact w | (rw [if_neg (by omega)]; exact w)
      · intro q hq
        have w := v10.2.2.1.2.2.1 q hq
        have z2 : ¬ 80 + q = 120 + j := by omega
        simp [va_up, upd, kw, z2] at w ⊢
        first | exact w | (rw [if_neg (by omega)]; exact w)
      · intro q hq
        have w := g4 q hq
        by_cases z : q = j
        · subst z; simp [va_up, upd, kj, kw, nc_3]
        · have z2 : ¬ 120 + q = 120 + j := by omega
          simp [va_up, upd, kj, kw, z, nc_3] at w ⊢
          first | exact w | (rw [if_neg (by omega)]; exact w)
    · refine xw_yr hd 78 [0, 0, 1, 1, 0, 0, 1, 0, 0, 0, 1, 1] rfl (by simp (disch := omega) [Int.bmod_eq_of_le, xq_al, y_v, xq_cmp, xin_iff, fit0, up2, va_up, upd, Int32.lt_iff_toInt_lt, Int32.le_iff_toInt_le, ← Int32.toInt_inj, s1, s2, p1, p2, e1, e2, t1, t2, l1, l2, z1, z2, n0, n1, n2, n3, n4, n5, m0, m1, m2, m5, us, g1, g5, g2, g3, un, un1, nc_3, ni_0, ni_1, ni_2, uj] <;> omega) ?_
      refine ⟨_, _, _, _, _, rfl, rfl, xe_of (co := xk_212) (nl := 4) rfl rfl rfl (xw_yr hd 66 [0, 0, 1, 1, 0, 0, 1, 1, 1] rfl (by simp (disch := omega) [Int.bmod_eq_of_le, xq_al, y_v, xq_cmp, xin_iff, fit0, up2, va_up, upd, Int32.lt_iff_toInt_lt, Int32.le_iff_toInt_le, ← Int32.toInt_inj, s1, s2, p1, p2, e1, e2, t1, t2, l1, l2, z1, z2, n0, n1, n2, n3, n4, n5, m0, m1, m2, m5, us, g1, g5, g2, g3, un, un1, nc_3, ni_0, ni_1, ni_2, uj, qw] <;> omega) ?_)⟩
      refine ⟨rfl, N, B, _, _, _, _, rfl, v1, v2, v3, v4, v5, v6, v7, v8, v9, ⟨⟨v10.1.1, v10.1.2.1, ?_, v10.1.2.2.2⟩, ⟨v10.2.1.1, v10.2.1.2.1, ?_, v10.2.1.2.2.2⟩, ⟨v10.2.2.1.1, v10.2.2.1.2.1, ?_, v10.2.2.1.2.2.2⟩, ⟨v10.2.2.2.1, v10.2.2.2.2.1, ?_, v10.2.2.2.2.2.2⟩⟩, v11, v12, v13⟩
      · intro q hq
        have w := v10.1.2.2.1 q hq
        have z2 : ¬ 0 + q = 120 + j := by omega
        simp [va_up, upd, kw, z2] at w ⊢
        first | exact w | (rw [if_neg (by omega)]; exact w)
      · intro q hq
        have w := v10.2.1.2.2.1 q hq
        have z2 : ¬ 40 + q = 120 + j := by omega
        simp [va_up, upd, kw, z2] at w ⊢
        first | exact w | (rw [if_neg (by omega)]; exact w)
      · intro q hq
        have w := v10.2.2.1.2.2.1 q hq
        have z2 : ¬ 80 + q = 120 + j := by omega
        simp [va_up, upd, kw, z2] at w ⊢
        first | exact w | (rw [if_neg (by omega)]; exact w)
      · intro q hq
        have w := g4 q hq
        by_cases z : q = j
        · subst z; simp [va_up, upd, kj, kw, nc_3]
        · have z2 : ¬ 120 + q = 120 + j := by omega
          simp [va_up, upd, kj, kw, z, nc_3] at w ⊢
          first | exact w | (rw [if_neg (by omega)]; exact w)
end OPS