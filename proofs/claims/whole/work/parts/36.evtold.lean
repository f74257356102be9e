section OPS
variable {ro : Nat → Option xq_C} {d : Nat}
set_option maxRecDepth 20000 in
set_option maxHeartbeats 4000000 in
theorem op_eveningTold (hd : 60 ≤ d) (e w : Int32) : iv_op ro (d + 1) 85 176 [.int e, .int w] := by
  intro N B A V tx cu hv
  obtain ⟨v1, v2, v3, v4, v5, v6, v7, v8, v9, v10, v11, v12, v13⟩ := id hv
  obtain ⟨⟨s1, s2, s3⟩, ⟨p1, p2, p3⟩, ⟨e1, e2, e3⟩, ⟨t1, t2, t3⟩, ⟨l1, l2, l3⟩, ⟨z1, z2, z3⟩⟩ := id v1
  have n0 := tI (n := N 0) (by omega)
  have n1 := tI (n := N 1) (by omega)
  have n2 := tI (n := N 2) (by omega)
  have n3 := tI (n := N 3) (by omega)
  have n4 := tI (n := N 4) (by omega)
  have n5 := tI (n := tx.length + 1) (by omega)
  have m0 := tI1 (n := N 0) (by omega)
  have m1 := tI1 (n := N 1) (by omega)
  have m2 := tI1 (n := N 2) (by omega)
  have m5 := tI1 (n := tx.length + 1) (by omega)
  refine xe_of (co := xk_85) (nl := 3) rfl rfl rfl ?_
  rcases ix3 e (N 2) (by omega) with c | c | ⟨je, hje, rfl⟩
  · refine xw_yr hd 7 [1] rfl (by simp (disch := omega) [Int.bmod_eq_of_le, xq_al, y_v, xq_cmp, xin_iff, fit0, up2, va_up, upd, Int32.lt_iff_toInt_lt, Int32.le_iff_toInt_le, ← Int32.toInt_inj, s1, s2, p1, p2, e1, e2, t1, t2, l1, l2, z1, z2, n0, n1, n2, n3, n4, n5, m0, m1, m2, m5] <;> omega) ?_
    refine ⟨_, _, _, _, _, rfl, rfl, xe_of (co := xk_176) (nl := 3) rfl rfl rfl (xw_yr hd 18 [1, 0] rfl (by simp (disch := omega) [Int.bmod_eq_of_le, xq_al, y_v, xq_cmp, xin_iff, fit0, up2, va_up, upd, Int32.lt_iff_toInt_lt, Int32.le_iff_toInt_le, ← Int32.toInt_inj, s1, s2, p1, p2, e1, e2, t1, t2, l1, l2, z1, z2, n0, n1, n2, n3, n4, n5, m0, m1, m2, m5] <;> omega) ⟨rfl, N, B, _, _, _, _, rfl, hv⟩)⟩
  · refine xw_yr hd 11 [0, 1] rfl (by simp (disch := omega) [Int.bmod_eq_of_le, xq_al, y_v, xq_cmp, xin_iff, fit0, up2, va_up, upd, Int32.lt_iff_toInt_lt, Int32.le_iff_toInt_le, ← Int32.toInt_inj, s1, s2, p1, p2, e1, e2, t1, t2, l1, l2, z1, z2, n0, n1, n2, n3, n4, n5, m0, m1, m2, m5] <;> omega) ?_
    refine ⟨_, _, _, _, _, rfl, rfl, xe_of (co := xk_176) (nl := 3) rfl rfl rfl (xw_yr hd 21 [0, 1, 0] rfl (by simp (disch := omega) [Int.bmod_eq_of_le, xq_al, y_v, xq_cmp, xin_iff, fit0, up2, va_up, upd, Int32.lt_iff_toInt_lt, Int32.le_iff_toInt_le, ← Int32.toInt_inj, s1, s2, p1, p2, e1, e2, t1, t2, l1, l2, z1, z2, n0, n1, n2, n3, n4, n5, m0, m1, m2, m5] <;> omega) ⟨rfl, N, B, _, _, _, _, rfl, hv⟩)⟩
  have ue := tI (n := je) (by omega)
  have bw := iL w
  rcases ix3 w (N 1 + 2) (by omega) with c | c | ⟨jw, hjw, rfl⟩
  · by_cases cw : w.toInt < -2147483646
    · refine xw_yr hd 16 [0, 0, 1, 1] rfl (by simp (disch := omega) [Int.bmod_eq_of_le, xq_al, y_v, xq_cmp, xin_iff, fit0, up2, va_up, upd, Int32.lt_iff_toInt_lt, Int32.le_iff_toInt_le, ← Int32.toInt_inj, s1, s2, p1, p2, e1, e2, t1, t2, l1, l2, z1, z2, n0, n1, n2, n3, n4, n5, m0, m1, m2, m5, ue] <;> omega) ?_
      refine ⟨_, _, _, _, _, rfl, rfl, xe_of (co := xk_176) (nl := 3) rfl rfl rfl (xw_yr hd 54 [0, 0, 1, 1, 0, 0, 1, 0] rfl (by simp (disch := omega) [Int.bmod_eq_of_le, xq_al, y_v, xq_cmp, xin_iff, fit0, up2, va_up, upd, Int32.lt_iff_toInt_lt, Int32.le_iff_toInt_le, ← Int32.toInt_inj, s1, s2, p1, p2, e1, e2, t1, t2, l1, l2, z1, z2, n0, n1, n2, n3, n4, n5, m0, m1, m2, m5, ue, bwl] <;> omega) ⟨rfl, N, B, _, _, _, _, rfl, hv⟩)⟩
    refine xw_yr hd 16 [0, 0, 1, 1] rfl (by simp (disch := omega) [Int.bmod_eq_of_le, xq_al, y_v, xq_cmp, xin_iff, fit0, up2, va_up, upd, Int32.lt_iff_toInt_lt, Int32.le_iff_toInt_le, ← Int32.toInt_inj, s1, s2, p1, p2, e1, e2, t1, t2, l1, l2, z1, z2, n0, n1, n2, n3, n4, n5, m0, m1, m2, m5, ue] <;> omega) ?_
    refine ⟨_, _, _, _, _, rfl, rfl, xe_of (co := xk_176) (nl := 3) rfl rfl rfl (xw_yr hd 51 [0, 0, 1, 1, 0, 1, 0] rfl (by simp (disch := omega) [Int.bmod_eq_of_le, xq_al, y_v, xq_cmp, xin_iff, fit0, up2, va_up, upd, Int32.lt_iff_toInt_lt, Int32.le_iff_toInt_le, ← Int32.toInt_inj, s1, s2, p1, p2, e1, e2, t1, t2, l1, l2, z1, z2, n0, n1, n2, n3, n4, n5, m0, m1, m2, m5, ue] <;> omega) ⟨rfl, N, B, _, _, _, _, rfl, hv⟩)⟩
  · refine xw_yr hd 34 [0, 0, 1, 0, 0, 0, 1, 0] rfl (by simp (disch := omega) [Int.bmod_eq_of_le, xq_al, y_v, xq_cmp, xin_iff, fit0, up2, va_up, upd, Int32.lt_iff_toInt_lt, Int32.le_iff_toInt_le, ← Int32.toInt_inj, s1, s2, p1, p2, e1, e2, t1, t2, l1, l2, z1, z2, n0, n1, n2, n3, n4, n5, m0, m1, m2, m5, ue] <;> omega) ?_
    refine ⟨_, _, _, _, _, rfl, rfl, xe_of (co := xk_176) (nl := 3) rfl rfl rfl (xw_yr hd 57 [0, 0, 1, 0, 1, 0, 0, 1, 0] rfl (by simp (disch := omega) [Int.bmod_eq_of_le, xq_al, y_v, xq_cmp, xin_iff, fit0, up2, va_up, upd, Int32.lt_iff_toInt_lt, Int32.le_iff_toInt_le, ← Int32.toInt_inj, s1, s2, p1, p2, e1, e2, t1, t2, l1, l2, z1, z2, n0, n1, n2, n3, n4, n5, m0, m1, m2, m5, ue] <;> omega) ⟨rfl, N, B, _, _, _, _, rfl, hv⟩)⟩
  have uw := tI (n := jw) (by omega)
  have hr := v8.1
  rcases (show jw = 0 ∨ jw = 1 ∨ ∃ t, t < 5 ∧ jw = 2 + t by rcases (show jw = 0 ∨ jw = 1 ∨ 2 ≤ jw by omega) with q | q | q; exact Or.inl q; exact Or.inr (Or.inl q); exact Or.inr (Or.inr ⟨jw - 2, by omega, by omega⟩)) with rfl | rfl | ⟨t, ht, rfl⟩
  · rcases (show je = 0 ∨ je = 1 ∨ je = 2 ∨ je = 3 ∨ je = 4 ∨ je = 5 ∨ je = 6 ∨ je = 7 ∨ je = 8 ∨ je = 9 ∨ je = 10 ∨ je = 11 by omega) with rfl | rfl | rfl | rfl | rfl | rfl | rfl | rfl | rfl | rfl | rfl | rfl
    · have hk := hr.1
      refine xw_yr hd 24 [0, 0, 1, 0, 1] rfl (by simp (disch := omega) [Int.bmod_eq_of_le, xq_al, y_v, xq_cmp, xin_iff, fit0, up2, va_up, upd, Int32.lt_iff_toInt_lt, Int32.le_iff_toInt_le, ← Int32.toInt_inj, s1, s2, p1, p2, e1, e2, t1, t2, l1, l2, z1, z2, n0, n1, n2, n3, n4, n5, m0, m1, m2, m5, ue, uw] <;> omega) ?_
      refine ⟨_, _, _, _, _, rfl, rfl, xe_of (co := xk_176) (nl := 3) rfl rfl rfl (xw_yr hd 42 [0, 0, 1, 0, 0, 1, 0] rfl (by simp (disch := omega) [Int.bmod_eq_of_le, xq_al, y_v, xq_cmp, xin_iff, fit0, up2, va_up, upd, Int32.lt_iff_toInt_lt, Int32.le_iff_toInt_le, ← Int32.toInt_inj, s1, s2, p1, p2, e1, e2, t1, t2, l1, l2, z1, z2, n0, n1, n2, n3, n4, n5, m0, m1, m2, m5, ue, uw] <;> omega) ⟨by simp [nc_0, nc_1, nc_0, hk.1, hk.2.1], N, B, _, _, _, _, rfl, hv⟩)⟩
    · have hk := hr.2.1
      refine xw_yr hd 24 [0, 0, 1, 0, 1] rfl (by simp (disch := omega) [Int.bmod_eq_of_le, xq_al, y_v, xq_cmp, xin_iff, fit0, up2, va_up, upd, Int32.lt_iff_toInt_lt, Int32.le_iff_toInt_le, ← Int32.toInt_inj, s1, s2, p1, p2, e1, e2, t1, t2, l1, l2, z1, z2, n0, n1, n2, n3, n4, n5, m0, m1, m2, m5, ue, uw] <;> omega) ?_
      refine ⟨_, _, _, _, _, rfl, rfl, xe_of (co := xk_176) (nl := 3) rfl rfl rfl (xw_yr hd 42 [0, 0, 1, 0, 0, 1, 0] rfl (by simp (disch := omega) [Int.bmod_eq_of_le, xq_al, y_v, xq_cmp, xin_iff, fit0, up2, va_up, upd, Int32.lt_iff_toInt_lt, Int32.le_iff_toInt_le, ← Int32.toInt_inj, s1, s2, p1, p2, e1, e2, t1, t2, l1, l2, z1, z2, n0, n1, n2, n3, n4, n5, m0, m1, m2, m5, ue, uw] <;> omega) ⟨by simp [nc_0, nc_1, nc_1, hk.1, hk.2.1], N, B, _, _, _, _, rfl, hv⟩)⟩
    · have hk := hr.2.2.1
      refine xw_yr hd 24 [0, 0, 1, 0, 1] rfl (by simp (disch := omega) [Int.bmod_eq_of_le, xq_al, y_v, xq_cmp, xin_iff, fit0, up2, va_up, upd, Int32.lt_iff_toInt_lt, Int32.le_iff_toInt_le, ← Int32.toInt_inj, s1, s2, p1, p2, e1, e2, t1, t2, l1, l2, z1, z2, n0, n1, n2, n3, n4, n5, m0, m1, m2, m5, ue, uw] <;> omega) ?_
      refine ⟨_, _, _, _, _, rfl, rfl, xe_of (co := xk_176) (nl := 3) rfl rfl rfl (xw_yr hd 42 [0, 0, 1, 0, 0, 1, 0] rfl (by simp (disch := omega) [Int.bmod_eq_of_le, xq_al, y_v, xq_cmp, xin_iff, fit0, up2, va_up, upd, Int32.lt_iff_toInt_lt, Int32.le_iff_toInt_le, ← Int32.toInt_inj, s1, s2, p1, p2, e1, e2, t1, t2, l1, l2, z1, z2, n0, n1, n2, n3, n4, n5, m0, m1, m2, m5, ue, uw] <;> omega) ⟨by simp [nc_0, nc_1, nc_2, hk.1, hk.2.1], N, B, _, _, _, _, rfl, hv⟩)⟩
    · have hk := hr.2.2.2.1
      refine xw_yr hd 24 [0, 0, 1, 0, 1] rfl (by simp (disch := omega) [Int.bmod_eq_of_le, xq_al, y_v, xq_cmp, xin_iff, fit0, up2, va_up, upd, Int32.lt_iff_toInt_lt, Int32.le_iff_toInt_le, ← Int32.toInt_inj, s1, s2, p1, p2, e1, e2, t1, t2, l1, l2, z1, z2, n0, n1, n2, n3, n4, n5, m0, m1, m2, m5, ue, uw] <;> omega) ?_
      refine ⟨_, _, _, _, _, rfl, rfl, xe_of (co := xk_176) (nl := 3) rfl rfl rfl (xw_yr hd 42 [0, 0, 1, 0, 0, 1, 0] rfl (by simp (disch := omega) [Int.bmod_eq_of_le, xq_al, y_v, xq_cmp, xin_iff, fit0, up2, va_up, upd, Int32.lt_iff_toInt_lt, Int32.le_iff_toInt_le, ← Int32.toInt_inj, s1, s2, p1, p2, e1, e2, t1, t2, l1, l2, z1, z2, n0, n1, n2, n3, n4, n5, m0, m1, m2, m5, ue, uw] <;> omega) ⟨by simp [nc_0, nc_1, nc_3, hk.1, hk.2.1], N, B, _, _, _, _, rfl, hv⟩)⟩
    · have hk := hr.2.2.2.2.1
      refine xw_yr hd 24 [0, 0, 1, 0, 1] rfl (by simp (disch := omega) [Int.bmod_eq_of_le, xq_al, y_v, xq_cmp, xin_iff, fit0, up2, va_up, upd, Int32.lt_iff_toInt_lt, Int32.le_iff_toInt_le, ← Int32.toInt_inj, s1, s2, p1, p2, e1, e2, t1, t2, l1, l2, z1, z2, n0, n1, n2, n3, n4, n5, m0, m1, m2, m5, ue, uw] <;> omega) ?_
      refine ⟨_, _, _, _, _, rfl, rfl, xe_of (co := xk_176) (nl := 3) rfl rfl rfl (xw_yr hd 42 [0, 0, 1, 0, 0, 1, 0] rfl (by simp (disch := omega) [Int.bmod_eq_of_le, xq_al, y_v, xq_cmp, xin_iff, fit0, up2, va_up, upd, Int32.lt_iff_toInt_lt, Int32.le_iff_toInt_le, ← Int32.toInt_inj, s1, s2, p1, p2, e1, e2, t1, t2, l1, l2, z1, z2, n0, n1, n2, n3, n4, n5, m0, m1, m2, m5, ue, uw] <;> omega) ⟨by simp [nc_0, nc_1, nc_4, hk.1, hk.2.1], N, B, _, _, _, _, rfl, hv⟩)⟩
    · have hk := hr.2.2.2.2.2.1
      refine xw_yr hd 24 [0, 0, 1, 0, 1] rfl (by simp (disch := omega) [Int.bmod_eq_of_le, xq_al, y_v, xq_cmp, xin_iff, fit0, up2, va_up, upd, Int32.lt_iff_toInt_lt, Int32.le_iff_toInt_le, ← Int32.toInt_inj, s1, s2, p1, p2, e1, e2, t1, t2, l1, l2, z1, z2, n0, n1, n2, n3, n4, n5, m0, m1, m2, m5, ue, uw] <;> omega) ?_
      refine ⟨_, _, _, _, _, rfl, rfl, xe_of (co := xk_176) (nl := 3) rfl rfl rfl (xw_yr hd 42 [0, 0, 1, 0, 0, 1, 0] rfl (by simp (disch := omega) [Int.bmod_eq_of_le, xq_al, y_v, xq_cmp, xin_iff, fit0, up2, va_up, upd, Int32.lt_iff_toInt_lt, Int32.le_iff_toInt_le, ← Int32.toInt_inj, s1, s2, p1, p2, e1, e2, t1, t2, l1, l2, z1, z2, n0, n1, n2, n3, n4, n5, m0, m1, m2, m5, ue, uw] <;> omega) ⟨by simp [nc_0, nc_1, nc_5, hk.1, hk.2.1], N, B, _, _, _, _, rfl, hv⟩)⟩
    · have hk := hr.2.2.2.2.2.2.1
      refine xw_yr hd 24 [0, 0, 1, 0, 1] rfl (by simp (disch := omega) [Int.bmod_eq_of_le, xq_al, y_v, xq_cmp, xin_iff, fit0, up2, va_up, upd, Int32.lt_iff_toInt_lt, Int32.le_iff_toInt_le, ← Int32.toInt_inj, s1, s2, p1, p2, e1, e2, t1, t2, l1, l2, z1, z2, n0, n1, n2, n3, n4, n5, m0, m1, m2, m5, ue, uw] <;> omega) ?_
      refine ⟨_, _, _, _, _, rfl, rfl, xe_of (co := xk_176) (nl := 3) rfl rfl rfl (xw_yr hd 42 [0, 0, 1, 0, 0, 1, 0] rfl (by simp (disch := omega) [Int.bmod_eq_of_le, xq_al, y_v, xq_cmp, xin_iff, fit0, up2, va_up, upd, Int32.lt_iff_toInt_lt, Int32.le_iff_toInt_le, ← Int32.toInt_inj, s1, s2, p1, p2, e1, e2, t1, t2, l1, l2, z1, z2, n0, n1, n2, n3, n4, n5, m0, m1, m2, m5, ue, uw] <;> omega) ⟨by simp [nc_0, nc_1, nc_6, hk.1, hk.2.1], N, B, _, _, _, _, rfl, hv⟩)⟩
    · have hk := hr.2.2.2.2.2.2.2.1
      refine xw_yr hd 24 [0, 0, 1, 0, 1] rfl (by simp (disch := omega) [Int.bmod_eq_of_le, xq_al, y_v, xq_cmp, xin_iff, fit0, up2, va_up, upd, Int32.lt_iff_toInt_lt, Int32.le_iff_toInt_le, ← Int32.toInt_inj, s1, s2, p1, p2, e1, e2, t1, t2, l1, l2, z1, z2, n0, n1, n2, n3, n4, n5, m0, m1, m2, m5, ue, uw] <;> omega) ?_
      refine ⟨_, _, _, _, _, rfl, rfl, xe_of (co := xk_176) (nl := 3) rfl rfl rfl (xw_yr hd 42 [0, 0, 1, 0, 0, 1, 0] rfl (by simp (disch := omega) [Int.bmod_eq_of_le, xq_al, y_v, xq_cmp, xin_iff, fit0, up2, va_up, upd, Int32.lt_iff_toInt_lt, Int32.le_iff_toInt_le, ← Int32.toInt_inj, s1, s2, p1, p2, e1, e2, t1, t2, l1, l2, z1, z2, n0, n1, n2, n3, n4, n5, m0, m1, m2, m5, ue, uw] <;> omega) ⟨by simp [nc_0, nc_1, nc_7, hk.1, hk.2.1], N, B, _, _, _, _, rfl, hv⟩)⟩
    · have hk := hr.2.2.2.2.2.2.2.2.1
      refine xw_yr hd 24 [0, 0, 1, 0, 1] rfl (by simp (disch := omega) [Int.bmod_eq_of_le, xq_al, y_v, xq_cmp, xin_iff, fit0, up2, va_up, upd, Int32.lt_iff_toInt_lt, Int32.le_iff_toInt_le, ← Int32.toInt_inj, s1, s2, p1, p2, e1, e2, t1, t2, l1, l2, z1, z2, n0, n1, n2, n3, n4, n5, m0, m1, m2, m5, ue, uw] <;> omega) ?_
      refine ⟨_, _, _, _, _, rfl, rfl, xe_of (co := xk_176) (nl := 3) rfl rfl rfl (xw_yr hd 42 [0, 0, 1, 0, 0, 1, 0] rfl (by simp (disch := omega) [Int.bmod_eq_of_le, xq_al, y_v, xq_cmp, xin_iff, fit0, up2, va_up, upd, Int32.lt_iff_toInt_lt, Int32.le_iff_toInt_le, ← Int32.toInt_inj, s1, s2, p1, p2, e1, e2, t1, t2, l1, l2, z1, z2, n0, n1, n2, n3, n4, n5, m0, m1, m2, m5, ue, uw] <;> omega) ⟨by simp [nc_0, nc_1, nc_8, hk.1, hk.2.1], N, B, _, _, _, _, rfl, hv⟩)⟩
    · have hk := hr.2.2.2.2.2.2.2.2.2.1
      refine xw_yr hd 24 [0, 0, 1, 0, 1] rfl (by simp (disch := omega) [Int.bmod_eq_of_le, xq_al, y_v, xq_cmp, xin_iff, fit0, up2, va_up, upd, Int32.lt_iff_toInt_lt, Int32.le_iff_toInt_le, ← Int32.toInt_inj, s1, s2, p1, p2, e1, e2, t1, t2, l1, l2, z1, z2, n0, n1, n2, n3, n4, n5, m0, m1, m2, m5, ue, uw] <;> omega) ?_
      refine ⟨_, _, _, _, _, rfl, rfl, xe_of (co := xk_176) (nl := 3) rfl rfl rfl (xw_yr hd 42 [0, 0, 1, 0, 0, 1, 0] rfl (by simp (disch := omega) [Int.bmod_eq_of_le, xq_al, y_v, xq_cmp, xin_iff, fit0, up2, va_up, upd, Int32.lt_iff_toInt_lt, Int32.le_iff_toInt_le, ← Int32.toInt_inj, s1, s2, p1, p2, e1, e2, t1, t2, l1, l2, z1, z2, n0, n1, n2, n3, n4, n5, m0, m1, m2, m5, ue, uw] <;> omega) ⟨by simp [nc_0, nc_1, nc_9, hk.1, hk.2.1], N, B, _, _, _, _, rfl, hv⟩)⟩
    · have hk := hr.2.2.2.2.2.2.2.2.2.2.1
      refine xw_yr hd 24 [0, 0, 1, 0, 1] rfl (by simp (disch := omega) [Int.bmod_eq_of_le, xq_al, y_v, xq_cmp, xin_iff, fit0, up2, va_up, upd, Int32.lt_iff_toInt_lt, Int32.le_iff_toInt_le, ← Int32.toInt_inj, s1, s2, p1, p2, e1, e2, t1, t2, l1, l2, z1, z2, n0, n1, n2, n3, n4, n5, m0, m1, m2, m5, ue, uw] <;> omega) ?_
      refine ⟨_, _, _, _, _, rfl, rfl, xe_of (co := xk_176) (nl := 3) rfl rfl rfl (xw_yr hd 42 [0, 0, 1, 0, 0, 1, 0] rfl (by simp (disch := omega) [Int.bmod_eq_of_le, xq_al, y_v, xq_cmp, xin_iff, fit0, up2, va_up, upd, Int32.lt_iff_toInt_lt, Int32.le_iff_toInt_le, ← Int32.toInt_inj, s1, s2, p1, p2, e1, e2, t1, t2, l1, l2, z1, z2, n0, n1, n2, n3, n4, n5, m0, m1, m2, m5, ue, uw] <;> omega) ⟨by simp [nc_0, nc_1, nc_10, hk.1, hk.2.1], N, B, _, _, _, _, rfl, hv⟩)⟩
    · have hk := hr.2.2.2.2.2.2.2.2.2.2.2
      refine xw_yr hd 24 [0, 0, 1, 0, 1] rfl (by simp (disch := omega) [Int.bmod_eq_of_le, xq_al, y_v, xq_cmp, xin_iff, fit0, up2, va_up, upd, Int32.lt_iff_toInt_lt, Int32.le_iff_toInt_le, ← Int32.toInt_inj, s1, s2, p1, p2, e1, e2, t1, t2, l1, l2, z1, z2, n0, n1, n2, n3, n4, n5, m0, m1, m2, m5, ue, uw] <;> omega) ?_
      refine ⟨_, _, _, _, _, rfl, rfl, xe_of (co := xk_176) (nl := 3) rfl rfl rfl (xw_yr hd 42 [0, 0, 1, 0, 0, 1, 0] rfl (by simp (disch := omega) [Int.bmod_eq_of_le, xq_al, y_v, xq_cmp, xin_iff, fit0, up2, va_up, upd, Int32.lt_iff_toInt_lt, Int32.le_iff_toInt_le, ← Int32.toInt_inj, s1, s2, p1, p2, e1, e2, t1, t2, l1, l2, z1, z2, n0, n1, n2, n3, n4, n5, m0, m1, m2, m5, ue, uw] <;> omega) ⟨by simp [nc_0, nc_1, nc_11, hk.1, hk.2.1], N, B, _, _, _, _, rfl, hv⟩)⟩
  · rcases (show je = 0 ∨ je = 1 ∨ je = 2 ∨ je = 3 ∨ je = 4 ∨ je = 5 ∨ je = 6 ∨ je = 7 ∨ je = 8 ∨ je = 9 ∨ je = 10 ∨ je = 11 by omega) with rfl | rfl | rfl | rfl | rfl | rfl | rfl | rfl | rfl | rfl | rfl | rfl
    · have hk := hr.1
      refine xw_yr hd 24 [0, 0, 1, 0, 1] rfl (by simp (disch := omega) [Int.bmod_eq_of_le, xq_al, y_v, xq_cmp, xin_iff, fit0, up2, va_up, upd, Int32.lt_iff_toInt_lt, Int32.le_iff_toInt_le, ← Int32.toInt_inj, s1, s2, p1, p2, e1, e2, t1, t2, l1, l2, z1, z2, n0, n1, n2, n3, n4, n5, m0, m1, m2, m5, ue, uw] <;> omega) ?_
      refine ⟨_, _, _, _, _, rfl, rfl, xe_of (co := xk_176) (nl := 3) rfl rfl rfl (xw_yr hd 45 [0, 0, 1, 0, 0, 1, 1, 0] rfl (by simp (disch := omega) [Int.bmod_eq_of_le, xq_al, y_v, xq_cmp, xin_iff, fit0, up2, va_up, upd, Int32.lt_iff_toInt_lt, Int32.le_iff_toInt_le, ← Int32.toInt_inj, s1, s2, p1, p2, e1, e2, t1, t2, l1, l2, z1, z2, n0, n1, n2, n3, n4, n5, m0, m1, m2, m5, ue, uw] <;> omega) ⟨by simp [nc_0, nc_1, nc_0, hk.1, hk.2.1], N, B, _, _, _, _, rfl, hv⟩)⟩
    · have hk := hr.2.1
      refine xw_yr hd 24 [0, 0, 1, 0, 1] rfl (by simp (disch := omega) [Int.bmod_eq_of_le, xq_al, y_v, xq_cmp, xin_iff, fit0, up2, va_up, upd, Int32.lt_iff_toInt_lt, Int32.le_iff_toInt_le, ← Int32.toInt_inj, s1, s2, p1, p2, e1, e2, t1, t2, l1, l2, z1, z2, n0, n1, n2, n3, n4, n5, m0, m1, m2, m5, ue, uw] <;> omega) ?_
      refine ⟨_, _, _, _, _, rfl, rfl, xe_of (co := xk_176) (nl := 3) rfl rfl rfl (xw_yr hd 45 [0, 0, 1, 0, 0, 1, 1, 0] rfl (by simp (disch := omega) [Int.bmod_eq_of_le, xq_al, y_v, xq_cmp, xin_iff, fit0, up2, va_up, upd, Int32.lt_iff_toInt_lt, Int32.le_iff_toInt_le, ← Int32.toInt_inj, s1, s2, p1, p2, e1, e2, t1, t2, l1, l2, z1, z2, n0, n1, n2, n3, n4, n5, m0, m1, m2, m5, ue, uw] <;> omega) ⟨by simp [nc_0, nc_1, nc_1, hk.1, hk.2.1], N, B, _, _, _, _, rfl, hv⟩)⟩
    · have hk := hr.2.2.1
      refine xw_yr hd 24 [0, 0, 1, 0, 1] rfl (by simp (disch := omega) [Int.bmod_eq_of_le, xq_al, y_v, xq_cmp, xin_iff, fit0, up2, va_up, upd, Int32.lt_iff_toInt_lt, Int32.le_iff_toInt_le, ← Int32.toInt_inj, s1, s2, p1, p2, e1, e2, t1, t2, l1, l2, z1, z2, n0, n1, n2, n3, n4, n5, m0, m1, m2, m5, ue, uw] <;> omega) ?_
      refine ⟨_, _, _, _, _, rfl, rfl, xe_of (co := xk_176) (nl := 3) rfl rfl rfl (xw_yr hd 45 [0, 0, 1, 0, 0, 1, 1, 0] rfl (by simp (disch := omega) [Int.bmod_eq_of_le, xq_al, y_v, xq_cmp, xin_iff, fit0, up2, va_up, upd, Int32.lt_iff_toInt_lt, Int32.le_iff_toInt_le, ← Int32.toInt_inj, s1, s2, p1, p2, e1, e2, t1, t2, l1, l2, z1, z2, n0, n1, n2, n3, n4, n5, m0, m1, m2, m5, ue, uw] <;> omega) ⟨by simp [nc_0, nc_1, nc_2, hk.1, hk.2.1], N, B, _, _, _, _, rfl, hv⟩)⟩
    · have hk := hr.2.2.2.1
      refine xw_yr hd 24 [0, 0, 1, 0, 1] rfl (by simp (disch := omega) [Int.bmod_eq_of_le, xq_al, y_v, xq_cmp, xin_iff, fit0, up2, va_up, upd, Int32.lt_iff_toInt_lt, Int32.le_iff_toInt_le, ← Int32.toInt_inj, s1, s2, p1, p2, e1, e2, t1, t2, l1, l2, z1, z2, n0, n1, n2, n3, n4, n5, m0, m1, m2, m5, ue, uw] <;> omega) ?_
      refine ⟨_, _, _, _, _, rfl, rfl, xe_of (co := xk_176) (nl := 3) rfl rfl rfl (xw_yr hd 45 [0, 0, 1, 0, 0, 1, 1, 0] rfl (by simp (disch := omega) [Int.bmod_eq_of_le, xq_al, y_v, xq_cmp, xin_iff, fit0, up2, va_up, upd, Int32.lt_iff_toInt_lt, Int32.le_iff_toInt_le, ← Int32.toInt_inj, s1, s2, p1, p2, e1, e2, t1, t2, l1, l2, z1, z2, n0, n1, n2, n3, n4, n5, m0, m1, m2, m5, ue, uw] <;> omega) ⟨by simp [nc_0, nc_1, nc_3, hk.1, hk.2.1], N, B, _, _, _, _, rfl, hv⟩)⟩
    · have hk := hr.2.2.2.2.1
      refine xw_yr hd 24 [0, 0, 1, 0, 1] rfl (by simp (disch := omega) [Int.bmod_eq_of_le, xq_al, y_v, xq_cmp, xin_iff, fit0, up2, va_up, upd, Int32.lt_iff_toInt_lt, Int32.le_iff_toInt_le, ← Int32.toInt_inj, s1, s2, p1, p2, e1, e2, t1, t2, l1, l2, z1, z2, n0, n1, n2, n3, n4, n5, m0, m1, m2, m5, ue, uw] <;> omega) ?_
      refine ⟨_, _, _, _, _, rfl, rfl, xe_of (co := xk_176) (nl := 3) rfl rfl rfl (xw_yr hd 45 [0, 0, 1, 0, 0, 1, 1, 0] rfl (by simp (disch := omega) [Int.bmod_eq_of_le, xq_al, y_v, xq_cmp, xin_iff, fit0, up2, va_up, upd, Int32.lt_iff_toInt_lt, Int32.le_iff_toInt_le, ← Int32.toInt_inj, s1, s2, p1, p2, e1, e2, t1, t2, l1, l2, z1, z2, n0, n1, n2, n3, n4, n5, m0, m1, m2, m5, ue, uw] <;> omega) ⟨by simp [nc_0, nc_1, nc_4, hk.1, hk.2.1], N, B, _, _, _, _, rfl, hv⟩)⟩
    · have hk := hr.2.2.2.2.2.1
      refine xw_yr hd 24 [0, 0, 1, 0, 1] rfl (by simp (disch := omega) [Int.bmod_eq_of_le, xq_al, y_v, xq_cmp, xin_iff, fit0, up2, va_up, upd, Int32.lt_iff_toInt_lt, Int32.le_iff_toInt_le, ← Int32.toInt_inj, s1, s2, p1, p2, e1, e2, t1, t2, l1, l2, z1, z2, n0, n1, n2, n3, n4, n5, m0, m1, m2, m5, ue, uw] <;> omega) ?_
      refine ⟨_, _, _, _, _, rfl, rfl, xe_of (co := xk_176) (nl := 3) rfl rfl rfl (xw_yr hd 45 [0, 0, 1, 0, 0, 1, 1, 0] rfl (by simp (disch := omega) [Int.bmod_eq_of_le, xq_al, y_v, xq_cmp, xin_iff, fit0, up2, va_up, upd, Int32.lt_iff_toInt_lt, Int32.le_iff_toInt_le, ← Int32.toInt_inj, s1, s2, p1, p2, e1, e2, t1, t2, l1, l2, z1, z2, n0, n1, n2, n3, n4, n5, m0, m1, m2, m5, ue, uw] <;> omega) ⟨by simp [nc_0, nc_1, nc_5, hk.1, hk.2.1], N, B, _, _, _, _, rfl, hv⟩)⟩
    · have hk := hr.2.2.2.2.2.2.1
      refine xw_yr hd 24 [0, 0, 1, 0, 1] rfl (by simp (disch := omega) [Int.bmod_eq_of_le, xq_al, y_v, xq_cmp, xin_iff, fit0, up2, va_up, upd, Int32.lt_iff_toInt_lt, Int32.le_iff_toInt_le, ← Int32.toInt_inj, s1, s2, p1, p2, e1, e2, t1, t2, l1, l2, z1, z2, n0, n1, n2, n3, n4, n5, m0, m1, m2, m5, ue, uw] <;> omega) ?_
      refine ⟨_, _, _, _, _, rfl, rfl, xe_of (co := xk_176) (nl := 3) rfl rfl rfl (xw_yr hd 45 [0, 0, 1, 0, 0, 1, 1, 0] rfl (by simp (disch := omega) [Int.bmod_eq_of_le, xq_al, y_v, xq_cmp, xin_iff, fit0, up2, va_up, upd, Int32.lt_iff_toInt_lt, Int32.le_iff_toInt_le, ← Int32.toInt_inj, s1, s2, p1, p2, e1, e2, t1, t2, l1, l2, z1, z2, n0, n1, n2, n3, n4, n5, m0, m1, m2, m5, ue, uw] <;> omega) ⟨by simp [nc_0, nc_1, nc_6, hk.1, hk.2.1], N, B, _, _, _, _, rfl, hv⟩)⟩
    · have hk := hr.2.2.2.2.2.2.2.1
      refine xw_yr hd 24 [0, 0, 1, 0, 1] rfl (by simp (disch := omega) [Int.bmod_eq_of_le, xq_al, y_v, xq_cmp, xin_iff, fit0, up2, va_up, upd, Int32.lt_iff_toInt_lt, Int32.le_iff_toInt_le, ← Int32.toInt_inj, s1, s2, p1, p2, e1, e2, t1, t2, l1, l2, z1, z2, n0, n1, n2, n3, n4, n5, m0, m1, m2, m5, ue, uw] <;> omega) ?_
      refine ⟨_, _, _, _, _, rfl, rfl, xe_of (co := xk_176) (nl := 3) rfl rfl rfl (xw_yr hd 45 [0, 0, 1, 0, 0, 1, 1, 0] rfl (by simp (disch := omega) [Int.bmod_eq_of_le, xq_al, y_v, xq_cmp, xin_iff, fit0, up2, va_up, upd, Int32.lt_iff_toInt_lt, Int32.le_iff_toInt_le, ← Int32.toInt_inj, s1, s2, p1, p2, e1, e2, t1, t2, l1, l2, z1, z2, n0, n1, n2, n3, n4, n5, m0, m1, m2, m5, ue, uw] <;> omega) ⟨by simp [nc_0, nc_1, nc_7, hk.1, hk.2.1], N, B, _, _, _, _, rfl, hv⟩)⟩
    · have hk := hr.2.2.2.2.2.2.2.2.1
      refine xw_yr hd 24 [0, 0, 1, 0, 1] rfl (by simp (disch := omega) [Int.bmod_eq_of_le, xq_al, y_v, xq_cmp, xin_iff, fit0, up2, va_up, upd, Int32.lt_iff_toInt_lt, Int32.le_iff_toInt_le, ← Int32.toInt_inj, s1, s2, p1, p2, e1, e2, t1, t2, l1, l2, z1, z2, n0, n1, n2, n3, n4, n5, m0, m1, m2, m5, ue, uw] <;> omega) ?_
      refine ⟨_, _, _, _, _, rfl, rfl, xe_of (co := xk_176) (nl := 3) rfl rfl rfl (xw_yr hd 45 [0, 0, 1, 0, 0, 1, 1, 0] rfl (by simp (disch := omega) [Int.bmod_eq_of_le, xq_al, y_v, xq_cmp, xin_iff, fit0, up2, va_up, upd, Int32.lt_iff_toInt_lt, Int32.le_iff_toInt_le, ← Int32.toInt_inj, s1, s2, p1, p2, e1, e2, t1, t2, l1, l2, z1, z2, n0, n1, n2, n3, n4, n5, m0, m1, m2, m5, ue, uw] <;> omega) ⟨by simp [nc_0, nc_1, nc_8, hk.1, hk.2.1], N, B, _, _, _, _, rfl, hv⟩)⟩
    · have hk := hr.2.2.2.2.2.2.2.2.2.1
      refine xw_yr hd 24 [0, 0, 1, 0, 1] rfl (by simp (disch := omega) [Int.bmod_eq_of_le, xq_al, y_v, xq_cmp, xin_iff, fit0, up2, va_up, upd, Int32.lt_iff_toInt_lt, Int32.le_iff_toInt_le, ← Int32.toInt_inj, s1, s2, p1, p2, e1, e2, t1, t2, l1, l2, z1, z2, n0, n1, n2, n3, n4, n5, m0, m1, m2, m5, ue, uw] <;> omega) ?_
      refine ⟨_, _, _, _, _, rfl, rfl, xe_of (co := xk_176) (nl := 3) rfl rfl rfl (xw_yr hd 45 [0, 0, 1, 0, 0, 1, 1, 0] rfl (by simp (disch := omega) [Int.bmod_eq_of_le, xq_al, y_v, xq_cmp, xin_iff, fit0, up2, va_up, upd, Int32.lt_iff_toInt_lt, Int32.le_iff_toInt_le, ← Int32.toInt_inj, s1, s2, p1, p2, e1, e2, t1, t2, l1, l2, z1, z2, n0, n1, n2, n3, n4, n5, m0, m1, m2, m5, ue, uw] <;> omega) ⟨by simp [nc_0, nc_1, nc_9, hk.1, hk.2.1], N, B, _, _, _, _, rfl, hv⟩)⟩
    · have hk := hr.2.2.2.2.2.2.2.2.2.2.1
      refine xw_yr hd 24 [0, 0, 1, 0, 1] rfl (by simp (disch := omega) [Int.bmod_eq_of_le, xq_al, y_v, xq_cmp, xin_iff, fit0, up2, va_up, upd, Int32.lt_iff_toInt_lt, Int32.le_iff_toInt_le, ← Int32.toInt_inj, s1, s2, p1, p2, e1, e2, t1, t2, l1, l2, z1, z2, n0, n1, n2, n3, n4, n5, m0, m1, m2, m5, ue, uw] <;> omega) ?_
      refine ⟨_, _, _, _, _, rfl, rfl, xe_of (co := xk_176) (nl := 3) rfl rfl rfl (xw_yr hd 45 [0, 0, 1, 0, 0, 1, 1, 0] rfl (by simp (disch := omega) [Int.bmod_eq_of_le, xq_al, y_v, xq_cmp, xin_iff, fit0, up2, va_up, upd, Int32.lt_iff_toInt_lt, Int32.le_iff_toInt_le, ← Int32.toInt_inj, s1, s2, p1, p2, e1, e2, t1, t2, l1, l2, z1, z2, n0, n1, n2, n3, n4, n5, m0, m1, m2, m5, ue, uw] <;> omega) ⟨by simp [nc_0, nc_1, nc_10, hk.1, hk.2.1], N, B, _, _, _, _, rfl, hv⟩)⟩
    · have hk := hr.2.2.2.2.2.2.2.2.2.2.2
      refine xw_yr hd 24 [0, 0, 1, 0, 1] rfl (by simp (disch := omega) [Int.bmod_eq_of_le, xq_al, y_v, xq_cmp, xin_iff, fit0, up2, va_up, upd, Int32.lt_iff_toInt_lt, Int32.le_iff_toInt_le, ← Int32.toInt_inj, s1, s2, p1, p2, e1, e2, t1, t2, l1, l2, z1, z2, n0, n1, n2, n3, n4, n5, m0, m1, m2, m5, ue, uw] <;> omega) ?_
      refine ⟨_, _, _, _, _, rfl, rfl, xe_of (co := xk_176) (nl := 3) rfl rfl rfl (xw_yr hd 45 [0, 0, 1, 0, 0, 1, 1, 0] rfl (by simp (disch := omega) [Int.bmod_eq_of_le, xq_al, y_v, xq_cmp, xin_iff, fit0, up2, va_up, upd, Int32.lt_iff_toInt_lt, Int32.le_iff_toInt_le, ← Int32.toInt_inj, s1, s2, p1, p2, e1, e2, t1, t2, l1, l2, z1, z2, n0, n1, n2, n3, n4, n5, m0, m1, m2, m5, ue, uw] <;> omega) ⟨by simp [nc_0, nc_1, nc_11, hk.1, hk.2.1], N, B, _, _, _, _, rfl, hv⟩)⟩
  · rcases (show je = 0 ∨ je = 1 ∨ je = 2 ∨ je = 3 ∨ je = 4 ∨ je = 5 ∨ je = 6 ∨ je = 7 ∨ je = 8 ∨ je = 9 ∨ je = 10 ∨ je = 11 by omega) with rfl | rfl | rfl | rfl | rfl | rfl | rfl | rfl | rfl | rfl | rfl | rfl
    · have hk := hr.1
      have qw : (5 * nI 0 + nI (2 + t) - 2).toInt = ((0 + t : Nat) : Int) := by simp (disch := omega) [Int.bmod_eq_of_le, ue, uw] <;> omega
      have kw : (5 * nI 0 + nI (2 + t) - 2).toNatClampNeg = 0 + t := cl qw
      have kt : (nI (2 + t)).toNatClampNeg = 2 + t := tC (by omega)
      have hk2 := hk.2.2 t ht
      refine xw_yr hd 43 [0, 0, 1, 0, 0, 0, 0, 0, 1] rfl (by simp (disch := omega) [Int.bmod_eq_of_le, xq_al, y_v, xq_cmp, xin_iff, fit0, up2, va_up, upd, Int32.lt_iff_toInt_lt, Int32.le_iff_toInt_le, ← Int32.toInt_inj, s1, s2, p1, p2, e1, e2, t1, t2, l1, l2, z1, z2, n0, n1, n2, n3, n4, n5, m0, m1, m2, m5, ue, uw] <;> omega) ?_
      refine ⟨_, _, _, _, _, rfl, rfl, xe_of (co := xk_176) (nl := 3) rfl rfl rfl (xw_yr hd 72 [0, 0, 1, 0, 1, 0, 0, 0, 1, 1, 1] rfl (by simp (disch := omega) [Int.bmod_eq_of_le, xq_al, y_v, xq_cmp, xin_iff, fit0, up2, va_up, upd, Int32.lt_iff_toInt_lt, Int32.le_iff_toInt_le, ← Int32.toInt_inj, s1, s2, p1, p2, e1, e2, t1, t2, l1, l2, z1, z2, n0, n1, n2, n3, n4, n5, m0, m1, m2, m5, ue, uw, qw] <;> omega) ⟨by simp [kw, kt, hk2, nc_0], N, B, _, _, _, _, rfl, hv⟩)⟩
    · have hk := hr.2.1
      have qw : (5 * nI 1 + nI (2 + t) - 2).toInt = ((5 + t : Nat) : Int) := by simp (disch := omega) [Int.bmod_eq_of_le, ue, uw] <;> omega
      have kw : (5 * nI 1 + nI (2 + t) - 2).toNatClampNeg = 5 + t := cl qw
      have kt : (nI (2 + t)).toNatClampNeg = 2 + t := tC (by omega)
      have hk2 := hk.2.2 t ht
      refine xw_yr hd 43 [0, 0, 1, 0, 0, 0, 0, 0, 1] rfl (by simp (disch := omega) [Int.bmod_eq_of_le, xq_al, y_v, xq_cmp, xin_iff, fit0, up2, va_up, upd, Int32.lt_iff_toInt_lt, Int32.le_iff_toInt_le, ← Int32.toInt_inj, s1, s2, p1, p2, e1, e2, t1, t2, l1, l2, z1, z2, n0, n1, n2, n3, n4, n5, m0, m1, m2, m5, ue, uw] <;> omega) ?_
      refine ⟨_, _, _, _, _, rfl, rfl, xe_of (co := xk_176) (nl := 3) rfl rfl rfl (xw_yr hd 72 [0, 0, 1, 0, 1, 0, 0, 0, 1, 1, 1] rfl (by simp (disch := omega) [Int.bmod_eq_of_le, xq_al, y_v, xq_cmp, xin_iff, fit0, up2, va_up, upd, Int32.lt_iff_toInt_lt, Int32.le_iff_toInt_le, ← Int32.toInt_inj, s1, s2, p1, p2, e1, e2, t1, t2, l1, l2, z1, z2, n0, n1, n2, n3, n4, n5, m0, m1, m2, m5, ue, uw, qw] <;> omega) ⟨by simp [kw, kt, hk2, nc_1], N, B, _, _, _, _, rfl, hv⟩)⟩
    · have hk := hr.2.2.1
      have qw : (5 * nI 2 + nI (2 + t) - 2).toInt = ((10 + t : Nat) : Int) := by simp (disch := omega) [Int.bmod_eq_of_le, ue, uw] <;> omega
      have kw : (5 * nI 2 + nI (2 + t) - 2).toNatClampNeg = 10 + t := cl qw
      have kt : (nI (2 + t)).toNatClampNeg = 2 + t := tC (by omega)
      have hk2 := hk.2.2 t ht
      refine xw_yr hd 43 [0, 0, 1, 0, 0, 0, 0, 0, 1] rfl (by simp (disch := omega) [Int.bmod_eq_of_le, xq_al, y_v, xq_cmp, xin_iff, fit0, up2, va_up, upd, Int32.lt_iff_toInt_lt, Int32.le_iff_toInt_le, ← Int32.toInt_inj, s1, s2, p1, p2, e1, e2, t1, t2, l1, l2, z1, z2, n0, n1, n2, n3, n4, n5, m0, m1, m2, m5, ue, uw] <;> omega) ?_
      refine ⟨_, _, _, _, _, rfl, rfl, xe_of (co := xk_176) (nl := 3) rfl rfl rfl (xw_yr hd 72 [0, 0, 1, 0, 1, 0, 0, 0, 1, 1, 1] rfl (by simp (disch := omega) [Int.bmod_eq_of_le, xq_al, y_v, xq_cmp, xin_iff, fit0, up2, va_up, upd, Int32.lt_iff_toInt_lt, Int32.le_iff_toInt_le, ← Int32.toInt_inj, s1, s2, p1, p2, e1, e2, t1, t2, l1, l2, z1, z2, n0, n1, n2, n3, n4, n5, m0, m1, m2, m5, ue, uw, qw] <;> omega) ⟨by simp [kw, kt, hk2, nc_2], N, B, _, _, _, _, rfl, hv⟩)⟩
    · have hk := hr.2.2.2.1
      have qw : (5 * nI 3 + nI (2 + t) - 2).toInt = ((15 + t : Nat) : Int) := by simp (disch := omega) [Int.bmod_eq_of_le, ue, uw] <;> omega
      have kw : (5 * nI 3 + nI (2 + t) - 2).toNatClampNeg = 15 + t := cl qw
      have kt : (nI (2 + t)).toNatClampNeg = 2 + t := tC (by omega)
      have hk2 := hk.2.2 t ht
      refine xw_yr hd 43 [0, 0, 1, 0, 0, 0, 0, 0, 1] rfl (by simp (disch := omega) [Int.bmod_eq_of_le, xq_al, y_v, xq_cmp, xin_iff, fit0, up2, va_up, upd, Int32.lt_iff_toInt_lt, Int32.le_iff_toInt_le, ← Int32.toInt_inj, s1, s2, p1, p2, e1, e2, t1, t2, l1, l2, z1, z2, n0, n1, n2, n3, n4, n5, m0, m1, m2, m5, ue, uw] <;> omega) ?_
      refine ⟨_, _, _, _, _, rfl, rfl, xe_of (co := xk_176) (nl := 3) rfl rfl rfl (xw_yr hd 72 [0, 0, 1, 0, 1, 0, 0, 0, 1, 1, 1] rfl (by simp (disch := omega) [Int.bmod_eq_of_le, xq_al, y_v, xq_cmp, xin_iff, fit0, up2, va_up, upd, Int32.lt_iff_toInt_lt, Int32.le_iff_toInt_le, ← Int32.toInt_inj, s1, s2, p1, p2, e1, e2, t1, t2, l1, l2, z1, z2, n0, n1, n2, n3, n4, n5, m0, m1, m2, m5, ue, uw, qw] <;> omega) ⟨by simp [kw, kt, hk2, nc_3], N, B, _, _, _, _, rfl, hv⟩)⟩
    · have hk := hr.2.2.2.2.1
      have qw : (5 * nI 4 + nI (2 + t) - 2).toInt = ((20 + t : Nat) : Int) := by simp (disch := omega) [Int.bmod_eq_of_le, ue, uw] <;> omega
      have kw : (5 * nI 4 + nI (2 + t) - 2).toNatClampNeg = 20 + t := cl qw
      have kt : (nI (2 + t)).toNatClampNeg = 2 + t := tC (by omega)
      have hk2 := hk.2.2 t ht
      refine xw_yr hd 43 [0, 0, 1, 0, 0, 0, 0, 0, 1] rfl (by simp (disch := omega) [Int.bmod_eq_of_le, xq_al, y_v, xq_cmp, xin_iff, fit0, up2, va_up, upd, Int32.lt_iff_toInt_lt, Int32.le_iff_toInt_le, ← Int32.toInt_inj, s1, s2, p1, p2, e1, e2, t1, t2, l1, l2, z1, z2, n0, n1, n2, n3, n4, n5, m0, m1, m2, m5, ue, uw] <;> omega) ?_
      refine ⟨_, _, _, _, _, rfl, rfl, xe_of (co := xk_176) (nl := 3) rfl rfl rfl (xw_yr hd 72 [0, 0, 1, 0, 1, 0, 0, 0, 1, 1, 1] rfl (by simp (disch := omega) [Int.bmod_eq_of_le, xq_al, y_v, xq_cmp, xin_iff, fit0, up2, va_up, upd, Int32.lt_iff_toInt_lt, Int32.le_iff_toInt_le, ← Int32.toInt_inj, s1, s2, p1, p2, e1, e2, t1, t2, l1, l2, z1, z2, n0, n1, n2, n3, n4, n5, m0, m1, m2, m5, ue, uw, qw] <;> omega) ⟨by simp [kw, kt, hk2, nc_4], N, B, _, _, _, _, rfl, hv⟩)⟩
    · have hk := hr.2.2.2.2.2.1
      have qw : (5 * nI 5 + nI (2 + t) - 2).toInt = ((25 + t : Nat) : Int) := by simp (disch := omega) [Int.bmod_eq_of_le, ue, uw] <;> omega
      have kw : (5 * nI 5 + nI (2 + t) - 2).toNatClampNeg = 25 + t := cl qw
      have kt : (nI (2 + t)).toNatClampNeg = 2 + t := tC (by omega)
      have hk2 := hk.2.2 t ht
      refine xw_yr hd 43 [0, 0, 1, 0, 0, 0, 0, 0, 1] rfl (by simp (disch := omega) [Int.bmod_eq_of_le, xq_al, y_v, xq_cmp, xin_iff, fit0, up2, va_up, upd, Int32.lt_iff_toInt_lt, Int32.le_iff_toInt_le, ← Int32.toInt_inj, s1, s2, p1, p2, e1, e2, t1, t2, l1, l2, z1, z2, n0, n1, n2, n3, n4, n5, m0, m1, m2, m5, ue, uw] <;> omega) ?_
      refine ⟨_, _, _, _, _, rfl, rfl, xe_of (co := xk_176) (nl := 3) rfl rfl rfl (xw_yr hd 72 [0, 0, 1, 0, 1, 0, 0, 0, 1, 1, 1] rfl (by simp (disch := omega) [Int.bmod_eq_of_le, xq_al, y_v, xq_cmp, xin_iff, fit0, up2, va_up, upd, Int32.lt_iff_toInt_lt, Int32.le_iff_toInt_le, ← Int32.toInt_inj, s1, s2, p1, p2, e1, e2, t1, t2, l1, l2, z1, z2, n0, n1, n2, n3, n4, n5, m0, m1, m2, m5, ue, uw, qw] <;> omega) ⟨by simp [kw, kt, hk2, nc_5], N, B, _, _, _, _, rfl, hv⟩)⟩
    · have hk := hr.2.2.2.2.2.2.1
      have qw : (5 * nI 6 + nI (2 + t) - 2).toInt = ((30 + t : Nat) : Int) := by simp (disch := omega) [Int.bmod_eq_of_le, ue, uw] <;> omega
      have kw : (5 * nI 6 + nI (2 + t) - 2).toNatClampNeg = 30 + t := cl qw
      have kt : (nI (2 + t)).toNatClampNeg = 2 + t := tC (by omega)
      have hk2 := hk.2.2 t ht
      refine xw_yr hd 43 [0, 0, 1, 0, 0, 0, 0, 0, 1] rfl (by simp (disch := omega) [Int.bmod_eq_of_le, xq_al, y_v, xq_cmp, xin_iff, fit0, up2, va_up, upd, Int32.lt_iff_toInt_lt, Int32.le_iff_toInt_le, ← Int32.toInt_inj, s1, s2, p1, p2, e1, e2, t1, t2, l1, l2, z1, z2, n0, n1, n2, n3, n4, n5, m0, m1, m2, m5, ue, uw] <;> omega) ?_
      refine ⟨_, _, _, _, _, rfl, rfl, xe_of (co := xk_176) (nl := 3) rfl rfl rfl (xw_yr hd 72 [0, 0, 1, 0, 1, 0, 0, 0, 1, 1, 1] rfl (by simp (disch := omega) [Int.bmod_eq_of_le, xq_al, y_v, xq_cmp, xin_iff, fit0, up2, va_up, upd, Int32.lt_iff_toInt_lt, Int32.le_iff_toInt_le, ← Int32.toInt_inj, s1, s2, p1, p2, e1, e2, t1, t2, l1, l2, z1, z2, n0, n1, n2, n3, n4, n5, m0, m1, m2, m5, ue, uw, qw] <;> omega) ⟨by simp [kw, kt, hk2, nc_6], N, B, _, _, _, _, rfl, hv⟩)⟩
    · have hk := hr.2.2.2.2.2.2.2.1
      have qw : (5 * nI 7 + nI (2 + t) - 2).toInt = ((35 + t : Nat) : Int) := by simp (disch := omega) [Int.bmod_eq_of_le, ue, uw] <;> omega
      have kw : (5 * nI 7 + nI (2 + t) - 2).toNatClampNeg = 35 + t := cl qw
      have kt : (nI (2 + t)).toNatClampNeg = 2 + t := tC (by omega)
      have hk2 := hk.2.2 t ht
      refine xw_yr hd 43 [0, 0, 1, 0, 0, 0, 0, 0, 1] rfl (by simp (disch := omega) [Int.bmod_eq_of_le, xq_al, y_v, xq_cmp, xin_iff, fit0, up2, va_up, upd, Int32.lt_iff_toInt_lt, Int32.le_iff_toInt_le, ← Int32.toInt_inj, s1, s2, p1, p2, e1, e2, t1, t2, l1, l2, z1, z2, n0, n1, n2, n3, n4, n5, m0, m1, m2, m5, ue, uw] <;> omega) ?_
      refine ⟨_, _, _, _, _, rfl, rfl, xe_of (co := xk_176) (nl := 3) rfl rfl rfl (xw_yr hd 72 [0, 0, 1, 0, 1, 0, 0, 0, 1, 1, 1] rfl (by simp (disch := omega) [Int.bmod_eq_of_le, xq_al, y_v, xq_cmp, xin_iff, fit0, up2, va_up, upd, Int32.lt_iff_toInt_lt, Int32.le_iff_toInt_le, ← Int32.toInt_inj, s1, s2, p1, p2, e1, e2, t1, t2, l1, l2, z1, z2, n0, n1, n2, n3, n4, n5, m0, m1, m2, m5, ue, uw, qw] <;> omega) ⟨by simp [kw, kt, hk2, nc_7], N, B, _, _, _, _, rfl, hv⟩)⟩
    · have hk := hr.2.2.2.2.2.2.2.2.1
      have qw : (5 * nI 8 + nI (2 + t) - 2).toInt = ((40 + t : Nat) : Int) := by simp (disch := omega) [Int.bmod_eq_of_le, ue, uw] <;> omega
      have kw : (5 * nI 8 + nI (2 + t) - 2).toNatClampNeg = 40 + t := cl qw
      have kt : (nI (2 + t)).toNatClampNeg = 2 + t := tC (by omega)
      have hk2 := hk.2.2 t ht
      refine xw_yr hd 43 [0, 0, 1, 0, 0, 0, 0, 0, 1] rfl (by simp (disch := omega) [Int.bmod_eq_of_le, xq_al, y_v, xq_cmp, xin_iff, fit0, up2, va_up, upd, Int32.lt_iff_toInt_lt, Int32.le_iff_toInt_le, ← Int32.toInt_inj, s1, s2, p1, p2, e1, e2, t1, t2, l1, l2, z1, z2, n0, n1, n2, n3, n4, n5, m0, m1, m2, m5, ue, uw] <;> omega) ?_
      refine ⟨_, _, _, _, _, rfl, rfl, xe_of (co := xk_176) (nl := 3) rfl rfl rfl (xw_yr hd 72 [0, 0, 1, 0, 1, 0, 0, 0, 1, 1, 1] rfl (by simp (disch := omega) [Int.bmod_eq_of_le, xq_al, y_v, xq_cmp, xin_iff, fit0, up2, va_up, upd, Int32.lt_iff_toInt_lt, Int32.le_iff_toInt_le, ← Int32.toInt_inj, s1, s2, p1, p2, e1, e2, t1, t2, l1, l2, z1, z2, n0, n1, n2, n3, n4, n5, m0, m1, m2, m5, ue, uw, qw] <;> omega) ⟨by simp [kw, kt, hk2, nc_8], N, B, _, _, _, _, rfl, hv⟩)⟩
    · have hk := hr.2.2.2.2.2.2.2.2.2.1
      have qw : (5 * nI 9 + nI (2 + t) - 2).toInt = ((45 + t : Nat) : Int) := by simp (disch := omega) [Int.bmod_eq_of_le, ue, uw] <;> omega
      have kw : (5 * nI 9 + nI (2 + t) - 2).toNatClampNeg = 45 + t := cl qw
      have kt : (nI (2 + t)).toNatClampNeg = 2 + t := tC (by omega)
      have hk2 := hk.2.2 t ht
      refine xw_yr hd 43 [0, 0, 1, 0, 0, 0, 0, 0, 1] rfl (by simp (disch := omega) [Int.bmod_eq_of_le, xq_al, y_v, xq_cmp, xin_iff, fit0, up2, va_up, upd, Int32.lt_iff_toInt_lt, Int32.le_iff_toInt_le, ← Int32.toInt_inj, s1, s2, p1, p2, e1, e2, t1, t2, l1, l2, z1, z2, n0, n1, n2, n3, n4, n5, m0, m1, m2, m5, ue, uw] <;> omega) ?_
      refine ⟨_, _, _, _, _, rfl, rfl, xe_of (co := xk_176) (nl := 3) rfl rfl rfl (xw_yr hd 72 [0, 0, 1, 0, 1, 0, 0, 0, 1, 1, 1] rfl (by simp (disch := omega) [Int.bmod_eq_of_le, xq_al, y_v, xq_cmp, xin_iff, fit0, up2, va_up, upd, Int32.lt_iff_toInt_lt, Int32.le_iff_toInt_le, ← Int32.toInt_inj, s1, s2, p1, p2, e1, e2, t1, t2, l1, l2, z1, z2, n0, n1, n2, n3, n4, n5, m0, m1, m2, m5, ue, uw, qw] <;> omega) ⟨by simp [kw, kt, hk2, nc_9], N, B, _, _, _, _, rfl, hv⟩)⟩
    · have hk := hr.2.2.2.2.2.2.2.2.2.2.1
      have qw : (5 * nI 10 + nI (2 + t) - 2).toInt = ((50 + t : Nat) : Int) := by simp (disch := omega) [Int.bmod_eq_of_le, ue, uw] <;> omega
      have kw : (5 * nI 10 + nI (2 + t) - 2).toNatClampNeg = 50 + t := cl qw
      have kt : (nI (2 + t)).toNatClampNeg = 2 + t := tC (by omega)
      have hk2 := hk.2.2 t ht
      refine xw_yr hd 43 [0, 0, 1, 0, 0, 0, 0, 0, 1] rfl (by simp (disch := omega) [Int.bmod_eq_of_le, xq_al, y_v, xq_cmp, xin_iff, fit0, up2, va_up, upd, Int32.lt_iff_toInt_lt, Int32.le_iff_toInt_le, ← Int32.toInt_inj, s1, s2, p1, p2, e1, e2, t1, t2, l1, l2, z1, z2, n0, n1, n2, n3, n4, n5, m0, m1, m2, m5, ue, uw] <;> omega) ?_
      refine ⟨_, _, _, _, _, rfl, rfl, xe_of (co := xk_176) (nl := 3) rfl rfl rfl (xw_yr hd 72 [0, 0, 1, 0, 1, 0, 0, 0, 1, 1, 1] rfl (by simp (disch := omega) [Int.bmod_eq_of_le, xq_al, y_v, xq_cmp, xin_iff, fit0, up2, va_up, upd, Int32.lt_iff_toInt_lt, Int32.le_iff_toInt_le, ← Int32.toInt_inj, s1, s2, p1, p2, e1, e2, t1, t2, l1, l2, z1, z2, n0, n1, n2, n3, n4, n5, m0, m1, m2, m5, ue, uw, qw] <;> omega) ⟨by simp [kw, kt, hk2, nc_10], N, B, _, _, _, _, rfl, hv⟩)⟩
    · have hk := hr.2.2.2.2.2.2.2.2.2.2.2
      have qw : (5 * nI 11 + nI (2 + t) - 2).toInt = ((55 + t : Nat) : Int) := by simp (disch := omega) [Int.bmod_eq_of_le, ue, uw] <;> omega
      have kw : (5 * nI 11 + nI (2 + t) - 2).toNatClampNeg = 55 + t := cl qw
      have kt : (nI (2 + t)).toNatClampNeg = 2 + t := tC (by omega)
      have hk2 := hk.2.2 t ht
      refine xw_yr hd 43 [0, 0, 1, 0, 0, 0, 0, 0, 1] rfl (by simp (disch := omega) [Int.bmod_eq_of_le, xq_al, y_v, xq_cmp, xin_iff, fit0, up2, va_up, upd, Int32.lt_iff_toInt_lt, Int32.le_iff_toInt_le, ← Int32.toInt_inj, s1, s2, p1, p2, e1, e2, t1, t2, l1, l2, z1, z2, n0, n1, n2, n3, n4, n5, m0, m1, m2, m5, ue, uw] <;> omega) ?_
      refine ⟨_, _, _, _, _, rfl, rfl, xe_of (co := xk_176) (nl := 3) rfl rfl rfl (xw_yr hd 72 [0, 0, 1, 0, 1, 0, 0, 0, 1, 1, 1] rfl (by simp (disch := omega) [Int.bmod_eq_of_le, xq_al, y_v, xq_cmp, xin_iff, fit0, up2, va_up, upd, Int32.lt_iff_toInt_lt, Int32.le_iff_toInt_le, ← Int32.toInt_inj, s1, s2, p1, p2, e1, e2, t1, t2, l1, l2, z1, z2, n0, n1, n2, n3, n4, n5, m0, m1, m2, m5, ue, uw, qw] <;> omega) ⟨by simp [kw, kt, hk2, nc_11], N, B, _, _, _, _, rfl, hv⟩)⟩
end OPS