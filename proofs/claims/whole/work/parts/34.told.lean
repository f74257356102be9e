section OPS
variable {ro : Nat → Option xq_C} {d : Nat}
set_option maxRecDepth 20000 in
set_option maxHeartbeats 4000000 in
theorem op_told (hd : 60 ≤ d) (p w : Int32) : iv_op ro (d + 1) 82 166 [.int p, .int w] := by
  intro N B A V tx cu hv
  obtain ⟨v1, v2, v3, v4, v5, v6, v7, v8, v9, v10, v11, v12, v13⟩ := id hv
  obtain ⟨⟨s1, s2, s3⟩, ⟨p1, p2, p3⟩, ⟨e1, e2, e3⟩, ⟨t1, t2, t3⟩, ⟨l1, l2, l3⟩, ⟨z1, z2, z3⟩⟩ := id v1
  have n0 := tI (n := N 0) (by omega)
  have n1 := tI (n := N 1) (by omega)
  have n2 := tI (n := N 2) (by omega)
  have n3 := tI (n := N 3) (by omega)
  have n4 := tI (n := N 4) (by omega)
  have n5 := tI (n := tx.length + 1) (by omega)
  have m0 := tI1 (n := N 0) (by omega)
  have m1 := tI1 (n := N 1) (by omega)
  have m2 := tI1 (n := N 2) (by omega)
  have m5 := tI1 (n := tx.length + 1) (by omega)
  refine xe_of (co := xk_82) (nl := 3) rfl rfl rfl ?_
  rcases ix3 p (N 1) (by omega) with c | c | ⟨jp, hjp, rfl⟩
  · refine xw_yr hd 13 [1, 0] rfl (by simp (disch := omega) [Int.bmod_eq_of_le, xq_al, y_v, xq_cmp, xin_iff, fit0, up2, va_up, upd, Int32.lt_iff_toInt_lt, Int32.le_iff_toInt_le, ← Int32.toInt_inj, s1, s2, p1, p2, e1, e2, t1, t2, l1, l2, z1, z2, n0, n1, n2, n3, n4, n5, m0, m1, m2, m5] <;> omega) ?_
    refine ⟨_, _, _, _, _, rfl, rfl, xe_of (co := xk_166) (nl := 3) rfl rfl rfl (xw_yr hd 22 [1, 0] rfl (by simp (disch := omega) [Int.bmod_eq_of_le, xq_al, y_v, xq_cmp, xin_iff, fit0, up2, va_up, upd, Int32.lt_iff_toInt_lt, Int32.le_iff_toInt_le, ← Int32.toInt_inj, s1, s2, p1, p2, e1, e2, t1, t2, l1, l2, z1, z2, n0, n1, n2, n3, n4, n5, m0, m1, m2, m5] <;> omega) ⟨rfl, N, B, _, _, _, _, rfl, hv⟩)⟩
  · refine xw_yr hd 18 [0, 1, 0] rfl (by simp (disch := omega) [Int.bmod_eq_of_le, xq_al, y_v, xq_cmp, xin_iff, fit0, up2, va_up, upd, Int32.lt_iff_toInt_lt, Int32.le_iff_toInt_le, ← Int32.toInt_inj, s1, s2, p1, p2, e1, e2, t1, t2, l1, l2, z1, z2, n0, n1, n2, n3, n4, n5, m0, m1, m2, m5] <;> omega) ?_
    refine ⟨_, _, _, _, _, rfl, rfl, xe_of (co := xk_166) (nl := 3) rfl rfl rfl (xw_yr hd 25 [0, 1, 0] rfl (by simp (disch := omega) [Int.bmod_eq_of_le, xq_al, y_v, xq_cmp, xin_iff, fit0, up2, va_up, upd, Int32.lt_iff_toInt_lt, Int32.le_iff_toInt_le, ← Int32.toInt_inj, s1, s2, p1, p2, e1, e2, t1, t2, l1, l2, z1, z2, n0, n1, n2, n3, n4, n5, m0, m1, m2, m5] <;> omega) ⟨rfl, N, B, _, _, _, _, rfl, hv⟩)⟩
  have up := tI (n := jp) (by omega)
  rcases ix3 w 9 (by omega) with c | c | ⟨jw, hjw, rfl⟩
  · refine xw_yr hd 24 [0, 0, 0, 1, 1] rfl (by simp (disch := omega) [Int.bmod_eq_of_le, xq_al, y_v, xq_cmp, xin_iff, fit0, up2, va_up, upd, Int32.lt_iff_toInt_lt, Int32.le_iff_toInt_le, ← Int32.toInt_inj, s1, s2, p1, p2, e1, e2, t1, t2, l1, l2, z1, z2, n0, n1, n2, n3, n4, n5, m0, m1, m2, m5, up] <;> omega) ?_
    refine ⟨_, _, _, _, _, rfl, rfl, xe_of (co := xk_166) (nl := 3) rfl rfl rfl (xw_yr hd 36 [0, 0, 1, 1, 0] rfl (by simp (disch := omega) [Int.bmod_eq_of_le, xq_al, y_v, xq_cmp, xin_iff, fit0, up2, va_up, upd, Int32.lt_iff_toInt_lt, Int32.le_iff_toInt_le, ← Int32.toInt_inj, s1, s2, p1, p2, e1, e2, t1, t2, l1, l2, z1, z2, n0, n1, n2, n3, n4, n5, m0, m1, m2, m5, up] <;> omega) ⟨rfl, N, B, _, _, _, _, rfl, hv⟩)⟩
  · refine xw_yr hd 27 [0, 0, 0, 1, 0, 0] rfl (by simp (disch := omega) [Int.bmod_eq_of_le, xq_al, y_v, xq_cmp, xin_iff, fit0, up2, va_up, upd, Int32.lt_iff_toInt_lt, Int32.le_iff_toInt_le, ← Int32.toInt_inj, s1, s2, p1, p2, e1, e2, t1, t2, l1, l2, z1, z2, n0, n1, n2, n3, n4, n5, m0, m1, m2, m5, up] <;> omega) ?_
    refine ⟨_, _, _, _, _, rfl, rfl, xe_of (co := xk_166) (nl := 3) rfl rfl rfl (xw_yr hd 39 [0, 0, 1, 0, 1, 0] rfl (by simp (disch := omega) [Int.bmod_eq_of_le, xq_al, y_v, xq_cmp, xin_iff, fit0, up2, va_up, upd, Int32.lt_iff_toInt_lt, Int32.le_iff_toInt_le, ← Int32.toInt_inj, s1, s2, p1, p2, e1, e2, t1, t2, l1, l2, z1, z2, n0, n1, n2, n3, n4, n5, m0, m1, m2, m5, up] <;> omega) ⟨rfl, N, B, _, _, _, _, rfl, hv⟩)⟩
  have uw := tI (n := jw) (by omega)
  have kp : (nI jp).toNatClampNeg = jp := tC (by omega)
  have g5 := v5 jp hjp
  rcases (show jw = 0 ∨ jw = 1 ∨ jw = 2 ∨ ∃ t, t < 6 ∧ jw = 3 + t by rcases (show jw = 0 ∨ jw = 1 ∨ jw = 2 ∨ 3 ≤ jw by omega) with q | q | q | q; exact Or.inl q; exact Or.inr (Or.inl q); exact Or.inr (Or.inr (Or.inl q)); exact Or.inr (Or.inr (Or.inr ⟨jw - 3, by omega, by omega⟩))) with rfl | rfl | rfl | ⟨t, ht, rfl⟩
  · refine xw_yr hd 33 [0, 0, 0, 1, 0, 1, 1] rfl (by simp (disch := omega) [Int.bmod_eq_of_le, xq_al, y_v, xq_cmp, xin_iff, fit0, up2, va_up, upd, Int32.lt_iff_toInt_lt, Int32.le_iff_toInt_le, ← Int32.toInt_inj, s1, s2, p1, p2, e1, e2, t1, t2, l1, l2, z1, z2, n0, n1, n2, n3, n4, n5, m0, m1, m2, m5, up, uw] <;> omega) ?_
    refine ⟨_, _, _, _, _, rfl, rfl, xe_of (co := xk_166) (nl := 3) rfl rfl rfl (xw_yr hd 46 [0, 0, 1, 0, 0, 1, 0] rfl (by simp (disch := omega) [Int.bmod_eq_of_le, xq_al, y_v, xq_cmp, xin_iff, fit0, up2, va_up, upd, Int32.lt_iff_toInt_lt, Int32.le_iff_toInt_le, ← Int32.toInt_inj, s1, s2, p1, p2, e1, e2, t1, t2, l1, l2, z1, z2, n0, n1, n2, n3, n4, n5, m0, m1, m2, m5, up, uw] <;> omega) ⟨by simp [kp, g5], N, B, _, _, _, _, rfl, hv⟩)⟩
  · refine xw_yr hd 33 [0, 0, 0, 1, 0, 1, 2] rfl (by simp (disch := omega) [Int.bmod_eq_of_le, xq_al, y_v, xq_cmp, xin_iff, fit0, up2, va_up, upd, Int32.lt_iff_toInt_lt, Int32.le_iff_toInt_le, ← Int32.toInt_inj, s1, s2, p1, p2, e1, e2, t1, t2, l1, l2, z1, z2, n0, n1, n2, n3, n4, n5, m0, m1, m2, m5, up, uw] <;> omega) ?_
    refine ⟨_, _, _, _, _, rfl, rfl, xe_of (co := xk_166) (nl := 3) rfl rfl rfl (xw_yr hd 49 [0, 0, 1, 0, 0, 1, 1, 0] rfl (by simp (disch := omega) [Int.bmod_eq_of_le, xq_al, y_v, xq_cmp, xin_iff, fit0, up2, va_up, upd, Int32.lt_iff_toInt_lt, Int32.le_iff_toInt_le, ← Int32.toInt_inj, s1, s2, p1, p2, e1, e2, t1, t2, l1, l2, z1, z2, n0, n1, n2, n3, n4, n5, m0, m1, m2, m5, up, uw] <;> omega) ⟨by simp [kp, g5], N, B, _, _, _, _, rfl, hv⟩)⟩
  · refine xw_yr hd 33 [0, 0, 0, 1, 0, 1, 3] rfl (by simp (disch := omega) [Int.bmod_eq_of_le, xq_al, y_v, xq_cmp, xin_iff, fit0, up2, va_up, upd, Int32.lt_iff_toInt_lt, Int32.le_iff_toInt_le, ← Int32.toInt_inj, s1, s2, p1, p2, e1, e2, t1, t2, l1, l2, z1, z2, n0, n1, n2, n3, n4, n5, m0, m1, m2, m5, up, uw] <;> omega) ?_
    refine ⟨_, _, _, _, _, rfl, rfl, xe_of (co := xk_166) (nl := 3) rfl rfl rfl (xw_yr hd 52 [0, 0, 1, 0, 0, 1, 1, 1, 0] rfl (by simp (disch := omega) [Int.bmod_eq_of_le, xq_al, y_v, xq_cmp, xin_iff, fit0, up2, va_up, upd, Int32.lt_iff_toInt_lt, Int32.le_iff_toInt_le, ← Int32.toInt_inj, s1, s2, p1, p2, e1, e2, t1, t2, l1, l2, z1, z2, n0, n1, n2, n3, n4, n5, m0, m1, m2, m5, up, uw] <;> omega) ⟨by simp [kp, g5], N, B, _, _, _, _, rfl, hv⟩)⟩
  have q3 : (nI (3 + t) - 3).toInt = ((t : Nat) : Int) := by simp (disch := omega) [Int.bmod_eq_of_le, uw] <;> omega
  have k3 : (nI (3 + t) - 3).toNatClampNeg = t := cl q3
  have q6 : (6 * nI jp + nI (3 + t) - 3).toInt = ((6 * jp + t : Nat) : Int) := by simp (disch := omega) [Int.bmod_eq_of_le, uw, up] <;> omega
  have k6 : (6 * nI jp + nI (3 + t) - 3).toNatClampNeg = 6 * jp + t := cl q6
  have b := fun f => mk5_bit f (p := jp) (by omega)
  have f74 := (v7.2.1 t ht).1
  have f75 := (v7.2.1 t ht).2.1
  have f76 := (v7.2.1 t ht).2.2
  have g138 := v7.2.2 (6 * jp + t) (by omega)
  have hF := (v7.1 jp t (by omega) ht)
  by_cases c : t < N 0
  · rcases (show B 5 (6 * jp + t) = 0 ∨ B 5 (6 * jp + t) = 1 ∨ B 5 (6 * jp + t) = 2 ∨ B 5 (6 * jp + t) = 3 by omega) with h | h | h | h
    · refine xw_yr hd 62 [0, 0, 0, 1, 0, 1, 0, 1, 1, 1] rfl (by simp (disch := omega) [Int.bmod_eq_of_le, xq_al, y_v, xq_cmp, xin_iff, fit0, up2, va_up, upd, Int32.lt_iff_toInt_lt, Int32.le_iff_toInt_le, s1, s2, p1, p2, e1, e2, t1, t2, l1, l2, z1, z2, n0, n1, n2, n3, n4, n5, m0, m1, m2, m5, up, uw, q3, k3, f74, f75, f76, b, h, nb0, nb1, nb2, nb3] <;> omega) ?_
      refine ⟨_, _, _, _, _, rfl, rfl, xe_of (co := xk_166) (nl := 3) rfl rfl rfl (xw_yr hd 81 [0, 0, 1, 0, 0, 1, 1, 1, 1, 0, 0, 0] rfl (by simp (disch := omega) [Int.bmod_eq_of_le, xq_al, y_v, xq_cmp, xin_iff, fit0, up2, va_up, upd, Int32.lt_iff_toInt_lt, Int32.le_iff_toInt_le, ← Int32.toInt_inj, s1, s2, p1, p2, e1, e2, t1, t2, l1, l2, z1, z2, n0, n1, n2, n3, n4, n5, m0, m1, m2, m5, up, uw, q3, q6] <;> omega) ⟨by simp [k6, g138, h]; rfl, N, B, _, _, _, _, rfl, hv⟩)⟩
    · refine xw_yr hd 63 [0, 0, 0, 1, 0, 1, 0, 1, 1, 0] rfl (by simp (disch := omega) [Int.bmod_eq_of_le, xq_al, y_v, xq_cmp, xin_iff, fit0, up2, va_up, upd, Int32.lt_iff_toInt_lt, Int32.le_iff_toInt_le, s1, s2, p1, p2, e1, e2, t1, t2, l1, l2, z1, z2, n0, n1, n2, n3, n4, n5, m0, m1, m2, m5, up, uw, q3, k3, f74, f75, f76, b, h, nb0, nb1, nb2, nb3] <;> omega) ?_
      refine ⟨_, _, _, _, _, rfl, rfl, xe_of (co := xk_166) (nl := 3) rfl rfl rfl (xw_yr hd 81 [0, 0, 1, 0, 0, 1, 1, 1, 1, 0, 0, 0] rfl (by simp (disch := omega) [Int.bmod_eq_of_le, xq_al, y_v, xq_cmp, xin_iff, fit0, up2, va_up, upd, Int32.lt_iff_toInt_lt, Int32.le_iff_toInt_le, ← Int32.toInt_inj, s1, s2, p1, p2, e1, e2, t1, t2, l1, l2, z1, z2, n0, n1, n2, n3, n4, n5, m0, m1, m2, m5, up, uw, q3, q6] <;> omega) ⟨by simp [k6, g138, h]; rfl, N, B, _, _, _, _, rfl, hv⟩)⟩
    · refine xw_yr hd 55 [0, 0, 0, 1, 0, 1, 0, 1, 0] rfl (by simp (disch := omega) [Int.bmod_eq_of_le, xq_al, y_v, xq_cmp, xin_iff, fit0, up2, va_up, upd, Int32.lt_iff_toInt_lt, Int32.le_iff_toInt_le, s1, s2, p1, p2, e1, e2, t1, t2, l1, l2, z1, z2, n0, n1, n2, n3, n4, n5, m0, m1, m2, m5, up, uw, q3, k3, f74, f75, f76, b, h, nb0, nb1, nb2, nb3] <;> omega) ?_
      refine ⟨_, _, _, _, _, rfl, rfl, xe_of (co := xk_166) (nl := 3) rfl rfl rfl (xw_yr hd 81 [0, 0, 1, 0, 0, 1, 1, 1, 1, 0, 0, 0] rfl (by simp (disch := omega) [Int.bmod_eq_of_le, xq_al, y_v, xq_cmp, xin_iff, fit0, up2, va_up, upd, Int32.lt_iff_toInt_lt, Int32.le_iff_toInt_le, ← Int32.toInt_inj, s1, s2, p1, p2, e1, e2, t1, t2, l1, l2, z1, z2, n0, n1, n2, n3, n4, n5, m0, m1, m2, m5, up, uw, q3, q6] <;> omega) ⟨by simp [k6, g138, h]; rfl, N, B, _, _, _, _, rfl, hv⟩)⟩
    · refine xw_yr hd 48 [0, 0, 0, 1, 0, 1, 0, 0] rfl (by simp (disch := omega) [Int.bmod_eq_of_le, xq_al, y_v, xq_cmp, xin_iff, fit0, up2, va_up, upd, Int32.lt_iff_toInt_lt, Int32.le_iff_toInt_le, s1, s2, p1, p2, e1, e2, t1, t2, l1, l2, z1, z2, n0, n1, n2, n3, n4, n5, m0, m1, m2, m5, up, uw, q3, k3, f74, f75, f76, b, h, nb0, nb1, nb2, nb3] <;> omega) ?_
      refine ⟨_, _, _, _, _, rfl, rfl, xe_of (co := xk_166) (nl := 3) rfl rfl rfl (xw_yr hd 81 [0, 0, 1, 0, 0, 1, 1, 1, 1, 0, 0, 0] rfl (by simp (disch := omega) [Int.bmod_eq_of_le, xq_al, y_v, xq_cmp, xin_iff, fit0, up2, va_up, upd, Int32.lt_iff_toInt_lt, Int32.le_iff_toInt_le, ← Int32.toInt_inj, s1, s2, p1, p2, e1, e2, t1, t2, l1, l2, z1, z2, n0, n1, n2, n3, n4, n5, m0, m1, m2, m5, up, uw, q3, q6] <;> omega) ⟨by simp [k6, g138, h]; rfl, N, B, _, _, _, _, rfl, hv⟩)⟩
  have h := hF.2 (Or.inr (by omega))
  refine xw_yr hd 62 [0, 0, 0, 1, 0, 1, 0, 1, 1, 1] rfl (by simp (disch := omega) [Int.bmod_eq_of_le, xq_al, y_v, xq_cmp, xin_iff, fit0, up2, va_up, upd, Int32.lt_iff_toInt_lt, Int32.le_iff_toInt_le, s1, s2, p1, p2, e1, e2, t1, t2, l1, l2, z1, z2, n0, n1, n2, n3, n4, n5, m0, m1, m2, m5, up, uw, q3, k3, f74, f75, f76, b, h, nb0, nb1, nb2, nb3] <;> omega) ?_
  refine ⟨_, _, _, _, _, rfl, rfl, xe_of (co := xk_166) (nl := 3) rfl rfl rfl (xw_yr hd 70 [0, 0, 1, 0, 0, 1, 1, 1, 1, 0, 1, 1] rfl (by simp (disch := omega) [Int.bmod_eq_of_le, xq_al, y_v, xq_cmp, xin_iff, fit0, up2, va_up, upd, Int32.lt_iff_toInt_lt, Int32.le_iff_toInt_le, ← Int32.toInt_inj, s1, s2, p1, p2, e1, e2, t1, t2, l1, l2, z1, z2, n0, n1, n2, n3, n4, n5, m0, m1, m2, m5, up, uw, q3, q6] <;> omega) ⟨rfl, N, B, _, _, _, _, rfl, hv⟩)⟩
end OPS