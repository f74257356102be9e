theorem fir_set {n s : Nat} {F : Nat → Nat} (k : iv_fir n s F) {p t v : Nat} (hp : p < n) (ht : t < s) (hs : s ≤ 6) (hv : v ≤ 3) : iv_fir n s (va_up F (6 * p + t) v) := by
  intro p' t' hp' ht'
  by_cases q : 6 * p' + t' = 6 * p + t
  · rw [q, va_up_self]
    exact ⟨hv, fun z => by exfalso; omega⟩
  · rw [show va_up F (6 * p + t) v (6 * p' + t') = F (6 * p' + t') from if_neg q]
    exact k p' t' hp' ht'
theorem kno_set {F : Nat → Nat} {w h g : Nat → Int32} (k : iv_kno F w h g) {p t v : Nat} (hp : p < 5) (ht : t < 6) {w' h' g' : Nat → Int32} (hw : w' = upd w t (nI (mk5 (fs (fun q => Nat.ble 2 (F (6 * q + t))) p (Nat.ble 2 v))))) (hh : h' = upd h t (nI (mk5 (fs (fun q => F (6 * q + t) == 1) p (v == 1))))) (hg : g' = upd g t (nI (mk5 (fs (fun q => F (6 * q + t) == 3) p (v == 3))))) : iv_kno (va_up F (6 * p + t) v) w' h' g' := by
  intro t' ht'
  subst hw hh hg
  have e : ∀ q, q < 5 → va_up F (6 * p + t) v (6 * q + t') = if q = p ∧ t' = t then v else F (6 * q + t') := by
    intro q hq
    unfold va_up
    by_cases z : q = p ∧ t' = t
    · rw [if_pos z, if_pos (by omega)]
    · rw [if_neg z, if_neg (by omega)]
  by_cases q : t' = t
  · subst q
    rw [pk_us, pk_us, pk_us]
    refine ⟨?_, ?_, ?_⟩
    all_goals (
      congr 1
      apply mk5_c
      intro q hq
      rw [e q hq]
      unfold fs
      by_cases z : q = p
      · rw [if_pos z, if_pos ⟨z, rfl⟩]
      · rw [if_neg z, if_neg (fun y => z y.1)])
  · rw [pk_un q, pk_un q, pk_un q]
    obtain ⟨k1, k2, k3⟩ := k t' ht'
    refine ⟨k1.trans ?_, k2.trans ?_, k3.trans ?_⟩
    all_goals (
      congr 1
      apply mk5_c
      intro r hr
      rw [e r hr, if_neg (fun y => q y.2)])
section OPS
variable {ro : Nat → Option xq_C} {d : Nat}
set_option maxRecDepth 20000 in
set_option maxHeartbeats 4000000 in
theorem op_teach (hd : 60 ≤ d) (p s v : Int32) : iv_op ro (d + 1) 81 165 [.int p, .int s, .int v] := by
  intro N B A V tx cu hv
  obtain ⟨v1, v2, v3, v4, v5, v6, v7, v8, v9, v10, v11, v12, v13⟩ := id hv
  obtain ⟨⟨s1, s2, s3⟩, ⟨p1, p2, p3⟩, ⟨e1, e2, e3⟩, ⟨t1, t2, t3⟩, ⟨l1, l2, l3⟩, ⟨z1, z2, z3⟩⟩ := id v1
  have n0 := tI (n := N 0) (by omega)
  have n1 := tI (n := N 1) (by omega)
  have n2 := tI (n := N 2) (by omega)
  have n3 := tI (n := N 3) (by omega)
  have n4 := tI (n := N 4) (by omega)
  have n5 := tI (n := tx.length + 1) (by omega)
  have m0 := tI1 (n := N 0) (by omega)
  have m1 := tI1 (n := N 1) (by omega)
  have m2 := tI1 (n := N 2) (by omega)
  have m5 := tI1 (n := tx.length + 1) (by omega)
  refine xe_of (co := xk_81) (nl := 5) rfl rfl rfl ?_
  rcases ix3 p (N 1) (by omega) with c | c | ⟨jp, hjp, rfl⟩
  · refine xw_yr hd 13 [1, 1] rfl (by simp (disch := omega) [Int.bmod_eq_of_le, xq_al, y_v, xq_cmp, xin_iff, fit0, up2, va_up, upd, Int32.lt_iff_toInt_lt, Int32.le_iff_toInt_le, ← Int32.toInt_inj, s1, s2, p1, p2, e1, e2, t1, t2, l1, l2, z1, z2, n0, n1, n2, n3, n4, n5, m0, m1, m2, m5] <;> omega) ?_
    refine ⟨_, _, _, _, _, rfl, rfl, xe_of (co := xk_165) (nl := 5) rfl rfl rfl (xw_yr hd 22 [1, 1] rfl (by simp (disch := omega) [Int.bmod_eq_of_le, xq_al, y_v, xq_cmp, xin_iff, fit0, up2, va_up, upd, Int32.lt_iff_toInt_lt, Int32.le_iff_toInt_le, ← Int32.toInt_inj, s1, s2, p1, p2, e1, e2, t1, t2, l1, l2, z1, z2, n0, n1, n2, n3, n4, n5, m0, m1, m2, m5] <;> omega) ⟨rfl, N, B, _, _, _, _, rfl, hv⟩)⟩
  · refine xw_yr hd 18 [0, 1, 1] rfl (by simp (disch := omega) [Int.bmod_eq_of_le, xq_al, y_v, xq_cmp, xin_iff, fit0, up2, va_up, upd, Int32.lt_iff_toInt_lt, Int32.le_iff_toInt_le, ← Int32.toInt_inj, s1, s2, p1, p2, e1, e2, t1, t2, l1, l2, z1, z2, n0, n1, n2, n3, n4, n5, m0, m1, m2, m5] <;> omega) ?_
    refine ⟨_, _, _, _, _, rfl, rfl, xe_of (co := xk_165) (nl := 5) rfl rfl rfl (xw_yr hd 25 [0, 1, 1] rfl (by simp (disch := omega) [Int.bmod_eq_of_le, xq_al, y_v, xq_cmp, xin_iff, fit0, up2, va_up, upd, Int32.lt_iff_toInt_lt, Int32.le_iff_toInt_le, ← Int32.toInt_inj, s1, s2, p1, p2, e1, e2, t1, t2, l1, l2, z1, z2, n0, n1, n2, n3, n4, n5, m0, m1, m2, m5] <;> omega) ⟨rfl, N, B, _, _, _, _, rfl, hv⟩)⟩
  have up := tI (n := jp) (by omega)
  rcases ix3 s (N 0) (by omega) with c | c | ⟨js, hjs, rfl⟩
  · refine xw_yr hd 30 [0, 0, 0, 0, 1, 0] rfl (by simp (disch := omega) [Int.bmod_eq_of_le, xq_al, y_v, xq_cmp, xin_iff, fit0, up2, va_up, upd, Int32.lt_iff_toInt_lt, Int32.le_iff_toInt_le, ← Int32.toInt_inj, s1, s2, p1, p2, e1, e2, t1, t2, l1, l2, z1, z2, n0, n1, n2, n3, n4, n5, m0, m1, m2, m5, up] <;> omega) ?_
    refine ⟨_, _, _, _, _, rfl, rfl, xe_of (co := xk_165) (nl := 5) rfl rfl rfl (xw_yr hd 43 [0, 0, 0, 1, 0] rfl (by simp (disch := omega) [Int.bmod_eq_of_le, xq_al, y_v, xq_cmp, xin_iff, fit0, up2, va_up, upd, Int32.lt_iff_toInt_lt, Int32.le_iff_toInt_le, ← Int32.toInt_inj, s1, s2, p1, p2, e1, e2, t1, t2, l1, l2, z1, z2, n0, n1, n2, n3, n4, n5, m0, m1, m2, m5, up] <;> omega) ⟨rfl, N, B, _, _, _, _, rfl, hv⟩)⟩
  · refine xw_yr hd 34 [0, 0, 0, 0, 0, 1, 0] rfl (by simp (disch := omega) [Int.bmod_eq_of_le, xq_al, y_v, xq_cmp, xin_iff, fit0, up2, va_up, upd, Int32.lt_iff_toInt_lt, Int32.le_iff_toInt_le, ← Int32.toInt_inj, s1, s2, p1, p2, e1, e2, t1, t2, l1, l2, z1, z2, n0, n1, n2, n3, n4, n5, m0, m1, m2, m5, up] <;> omega) ?_
    refine ⟨_, _, _, _, _, rfl, rfl, xe_of (co := xk_165) (nl := 5) rfl rfl rfl (xw_yr hd 46 [0, 0, 0, 0, 1, 0] rfl (by simp (disch := omega) [Int.bmod_eq_of_le, xq_al, y_v, xq_cmp, xin_iff, fit0, up2, va_up, upd, Int32.lt_iff_toInt_lt, Int32.le_iff_toInt_le, ← Int32.toInt_inj, s1, s2, p1, p2, e1, e2, t1, t2, l1, l2, z1, z2, n0, n1, n2, n3, n4, n5, m0, m1, m2, m5, up] <;> omega) ⟨rfl, N, B, _, _, _, _, rfl, hv⟩)⟩
  have us := tI (n := js) (by omega)
  rcases ix3 v 4 (by omega) with c | c | ⟨jv, hjv, rfl⟩
  · refine xw_yr hd 40 [0, 0, 0, 0, 0, 0, 0, 1, 1] rfl (by simp (disch := omega) [Int.bmod_eq_of_le, xq_al, y_v, xq_cmp, xin_iff, fit0, up2, va_up, upd, Int32.lt_iff_toInt_lt, Int32.le_iff_toInt_le, ← Int32.toInt_inj, s1, s2, p1, p2, e1, e2, t1, t2, l1, l2, z1, z2, n0, n1, n2, n3, n4, n5, m0, m1, m2, m5, up, us] <;> omega) ?_
    refine ⟨_, _, _, _, _, rfl, rfl, xe_of (co := xk_165) (nl := 5) rfl rfl rfl (xw_yr hd 57 [0, 0, 0, 0, 0, 1, 1, 0] rfl (by simp (disch := omega) [Int.bmod_eq_of_le, xq_al, y_v, xq_cmp, xin_iff, fit0, up2, va_up, upd, Int32.lt_iff_toInt_lt, Int32.le_iff_toInt_le, ← Int32.toInt_inj, s1, s2, p1, p2, e1, e2, t1, t2, l1, l2, z1, z2, n0, n1, n2, n3, n4, n5, m0, m1, m2, m5, up, us] <;> omega) ⟨rfl, N, B, _, _, _, _, rfl, hv⟩)⟩
  · refine xw_yr hd 43 [0, 0, 0, 0, 0, 0, 0, 1, 0, 0] rfl (by simp (disch := omega) [Int.bmod_eq_of_le, xq_al, y_v, xq_cmp, xin_iff, fit0, up2, va_up, upd, Int32.lt_iff_toInt_lt, Int32.le_iff_toInt_le, ← Int32.toInt_inj, s1, s2, p1, p2, e1, e2, t1, t2, l1, l2, z1, z2, n0, n1, n2, n3, n4, n5, m0, m1, m2, m5, up, us] <;> omega) ?_
    refine ⟨_, _, _, _, _, rfl, rfl, xe_of (co := xk_165) (nl := 5) rfl rfl rfl (xw_yr hd 60 [0, 0, 0, 0, 0, 1, 0, 1, 0] rfl (by simp (disch := omega) [Int.bmod_eq_of_le, xq_al, y_v, xq_cmp, xin_iff, fit0, up2, va_up, upd, Int32.lt_iff_toInt_lt, Int32.le_iff_toInt_le, ← Int32.toInt_inj, s1, s2, p1, p2, e1, e2, t1, t2, l1, l2, z1, z2, n0, n1, n2, n3, n4, n5, m0, m1, m2, m5, up, us] <;> omega) ⟨rfl, N, B, _, _, _, _, rfl, hv⟩)⟩
  have uv := tI (n := jv) (by omega)
  have kp : (nI jp).toNatClampNeg = jp := tC (by omega)
  have ks : (nI js).toNatClampNeg = js := tC (by omega)
  have q6 : (6 * nI jp + nI js).toInt = ((6 * jp + js : Nat) : Int) := by simp (disch := omega) [Int.bmod_eq_of_le, up, us] <;> omega
  have k6 : (6 * nI jp + nI js).toNatClampNeg = 6 * jp + js := cl q6
  have b := fun f => mk5_bit f (p := jp) (by omega)
  have bo := fun f => mk5_or f (p := jp) (by omega)
  have ba := fun f => mk5_an2 f (p := jp) (by omega)
  have f74 := (v7.2.1 js (by omega)).1
  have f75 := (v7.2.1 js (by omega)).2.1
  have f76 := (v7.2.1 js (by omega)).2.2
  have g138 := v7.2.2 (6 * jp + js) (by omega)
  have hF := (v7.1 jp js (by omega) (by omega))
  rcases (show B 5 (6 * jp + js) = 0 ∨ B 5 (6 * jp + js) = 1 ∨ B 5 (6 * jp + js) = 2 ∨ B 5 (6 * jp + js) = 3 by omega) with h | h | h | h
  · rcases (show jv = 0 ∨ jv = 1 ∨ jv = 2 ∨ jv = 3 by omega) with rfl | rfl | rfl | rfl
    · refine xw_yr hd 132 [0, 0, 0, 0, 0, 0, 0, 1, 0, 1, 1, 1, 1, 1, 1, 1] rfl (by simp (disch := omega) [Int.bmod_eq_of_le, xq_al, y_v, xq_cmp, xin_iff, fit0, up2, va_up, upd, Int32.lt_iff_toInt_lt, Int32.le_iff_toInt_le, s1, s2, p1, p2, e1, e2, t1, t2, l1, l2, z1, z2, n0, n1, n2, n3, n4, n5, m0, m1, m2, m5, up, us, uv, ks, kp, f74, f75, f76, b, h, nb0, nb1, nb2, nb3, nq_0_1, nq_0_3] <;> omega) ?_
      refine ⟨_, _, _, _, _, rfl, rfl, xe_of (co := xk_165) (nl := 5) rfl rfl rfl (xw_yr hd 79 [0, 0, 0, 0, 0, 1, 0, 0, 1] rfl (by simp (disch := omega) [Int.bmod_eq_of_le, xq_al, y_v, xq_cmp, xin_iff, fit0, up2, va_up, upd, Int32.lt_iff_toInt_lt, Int32.le_iff_toInt_le, ← Int32.toInt_inj, s1, s2, p1, p2, e1, e2, t1, t2, l1, l2, z1, z2, n0, n1, n2, n3, n4, n5, m0, m1, m2, m5, up, us, uv, q6] <;> omega) ?_)⟩
      refine ⟨by simp [va_up, k6, g138, h]; rfl, N, va_up B 5 (va_up (B 5) (6 * jp + js) 0), _, _, _, _, rfl, v1, v2, v3, v4, v5, v6, ⟨fir_set v7.1 hjp hjs s3 (by decide), kno_set v7.2.1 (by omega) (by omega) ?_ ?_ ?_, ?_⟩, v8, v9, v10, v11, v12, v13⟩
      · simp [va_up, ks, f74, bo, ba, nb0, nb1, nb2, nb3]
      · simp [va_up, ks, f75, bo, ba, nb0, nb1, nb2, nb3]
      · simp [va_up, ks, f76, bo, ba, nb0, nb1, nb2, nb3]
      · intro j hj
        have w := v7.2.2 j hj
        by_cases q : j = 6 * jp + js
        · subst q; simp [va_up, k6, upd]
        · simp [va_up, k6, upd, q, w]
    · refine xw_yr hd 131 [0, 0, 0, 0, 0, 0, 0, 1, 0, 1, 1, 1, 1, 1, 0, 1] rfl (by simp (disch := omega) [Int.bmod_eq_of_le, xq_al, y_v, xq_cmp, xin_iff, fit0, up2, va_up, upd, Int32.lt_iff_toInt_lt, Int32.le_iff_toInt_le, s1, s2, p1, p2, e1, e2, t1, t2, l1, l2, z1, z2, n0, n1, n2, n3, n4, n5, m0, m1, m2, m5, up, us, uv, ks, kp, f74, f75, f76, b, h, nb0, nb1, nb2, nb3, nq_1_1, nq_1_3] <;> omega) ?_
      refine ⟨_, _, _, _, _, rfl, rfl, xe_of (co := xk_165) (nl := 5) rfl rfl rfl (xw_yr hd 79 [0, 0, 0, 0, 0, 1, 0, 0, 1] rfl (by simp (disch := omega) [Int.bmod_eq_of_le, xq_al, y_v, xq_cmp, xin_iff, fit0, up2, va_up, upd, Int32.lt_iff_toInt_lt, Int32.le_iff_toInt_le, ← Int32.toInt_inj, s1, s2, p1, p2, e1, e2, t1, t2, l1, l2, z1, z2, n0, n1, n2, n3, n4, n5, m0, m1, m2, m5, up, us, uv, q6] <;> omega) ?_)⟩
      refine ⟨by simp [va_up, k6, g138, h]; rfl, N, va_up B 5 (va_up (B 5) (6 * jp + js) 1), _, _, _, _, rfl, v1, v2, v3, v4, v5, v6, ⟨fir_set v7.1 hjp hjs s3 (by decide), kno_set v7.2.1 (by omega) (by omega) ?_ ?_ ?_, ?_⟩, v8, v9, v10, v11, v12, v13⟩
      · simp [va_up, ks, f74, bo, ba, nb0, nb1, nb2, nb3]
      · simp [va_up, ks, f75, bo, ba, nb0, nb1, nb2, nb3]
      · simp [va_up, ks, f76, bo, ba, nb0, nb1, nb2, nb3]
      · intro j hj
        have w := v7.2.2 j hj
        by_cases q : j = 6 * jp + js
        · subst q; simp [va_up, k6, upd]
        · simp [va_up, k6, upd, q, w]
    · refine xw_yr hd 131 [0, 0, 0, 0, 0, 0, 0, 1, 0, 1, 1, 1, 1, 0, 1, 1] rfl (by simp (disch := omega) [Int.bmod_eq_of_le, xq_al, y_v, xq_cmp, xin_iff, fit0, up2, va_up, upd, Int32.lt_iff_toInt_lt, Int32.le_iff_toInt_le, s1, s2, p1, p2, e1, e2, t1, t2, l1, l2, z1, z2, n0, n1, n2, n3, n4, n5, m0, m1, m2, m5, up, us, uv, ks, kp, f74, f75, f76, b, h, nb0, nb1, nb2, nb3, nq_2_1, nq_2_3] <;> omega) ?_
      refine ⟨_, _, _, _, _, rfl, rfl, xe_of (co := xk_165) (nl := 5) rfl rfl rfl (xw_yr hd 79 [0, 0, 0, 0, 0, 1, 0, 0, 1] rfl (by simp (disch := omega) [Int.bmod_eq_of_le, xq_al, y_v, xq_cmp, xin_iff, fit0, up2, va_up, upd, Int32.lt_iff_toInt_lt, Int32.le_iff_toInt_le, ← Int32.toInt_inj, s1, s2, p1, p2, e1, e2, t1, t2, l1, l2, z1, z2, n0, n1, n2, n3, n4, n5, m0, m1, m2, m5, up, us, uv, q6] <;> omega) ?_)⟩
      refine ⟨by simp [va_up, k6, g138, h]; rfl, N, va_up B 5 (va_up (B 5) (6 * jp + js) 2), _, _, _, _, rfl, v1, v2, v3, v4, v5, v6, ⟨fir_set v7.1 hjp hjs s3 (by decide), kno_set v7.2.1 (by omega) (by omega) ?_ ?_ ?_, ?_⟩, v8, v9, v10, v11, v12, v13⟩
      · simp [va_up, ks, f74, bo, ba, nb0, nb1, nb2, nb3]
      · simp [va_up, ks, f75, bo, ba, nb0, nb1, nb2, nb3]
      · simp [va_up, ks, f76, bo, ba, nb0, nb1, nb2, nb3]
      · intro j hj
        have w := v7.2.2 j hj
        by_cases q : j = 6 * jp + js
        · subst q; simp [va_up, k6, upd]
        · simp [va_up, k6, upd, q, w]
    · refine xw_yr hd 130 [0, 0, 0, 0, 0, 0, 0, 1, 0, 1, 1, 1, 1, 0, 1, 0] rfl (by simp (disch := omega) [Int.bmod_eq_of_le, xq_al, y_v, xq_cmp, xin_iff, fit0, up2, va_up, upd, Int32.lt_iff_toInt_lt, Int32.le_iff_toInt_le, s1, s2, p1, p2, e1, e2, t1, t2, l1, l2, z1, z2, n0, n1, n2, n3, n4, n5, m0, m1, m2, m5, up, us, uv, ks, kp, f74, f75, f76, b, h, nb0, nb1, nb2, nb3, nq_3_1, nq_3_3] <;> omega) ?_
      refine ⟨_, _, _, _, _, rfl, rfl, xe_of (co := xk_165) (nl := 5) rfl rfl rfl (xw_yr hd 79 [0, 0, 0, 0, 0, 1, 0, 0, 1] rfl (by simp (disch := omega) [Int.bmod_eq_of_le, xq_al, y_v, xq_cmp, xin_iff, fit0, up2, va_up, upd, Int32.lt_iff_toInt_lt, Int32.le_iff_toInt_le, ← Int32.toInt_inj, s1, s2, p1, p2, e1, e2, t1, t2, l1, l2, z1, z2, n0, n1, n2, n3, n4, n5, m0, m1, m2, m5, up, us, uv, q6] <;> omega) ?_)⟩
      refine ⟨by simp [va_up, k6, g138, h]; rfl, N, va_up B 5 (va_up (B 5) (6 * jp + js) 3), _, _, _, _, rfl, v1, v2, v3, v4, v5, v6, ⟨fir_set v7.1 hjp hjs s3 (by decide), kno_set v7.2.1 (by omega) (by omega) ?_ ?_ ?_, ?_⟩, v8, v9, v10, v11, v12, v13⟩
      · simp [va_up, ks, f74, bo, ba, nb0, nb1, nb2, nb3]
      · simp [va_up, ks, f75, bo, ba, nb0, nb1, nb2, nb3]
      · simp [va_up, ks, f76, bo, ba, nb0, nb1, nb2, nb3]
      · intro j hj
        have w := v7.2.2 j hj
        by_cases q : j = 6 * jp + js
        · subst q; simp [va_up, k6, upd]
        · simp [va_up, k6, upd, q, w]
  · rcases (show jv = 0 ∨ jv = 1 ∨ jv = 2 ∨ jv = 3 by omega) with rfl | rfl | rfl | rfl
    · refine xw_yr hd 133 [0, 0, 0, 0, 0, 0, 0, 1, 0, 1, 1, 1, 0, 1, 1, 1] rfl (by simp (disch := omega) [Int.bmod_eq_of_le, xq_al, y_v, xq_cmp, xin_iff, fit0, up2, va_up, upd, Int32.lt_iff_toInt_lt, Int32.le_iff_toInt_le, s1, s2, p1, p2, e1, e2, t1, t2, l1, l2, z1, z2, n0, n1, n2, n3, n4, n5, m0, m1, m2, m5, up, us, uv, ks, kp, f74, f75, f76, b, h, nb0, nb1, nb2, nb3, nq_0_1, nq_0_3] <;> omega) ?_
      refine ⟨_, _, _, _, _, rfl, rfl, xe_of (co := xk_165) (nl := 5) rfl rfl rfl (xw_yr hd 79 [0, 0, 0, 0, 0, 1, 0, 0, 1] rfl (by simp (disch := omega) [Int.bmod_eq_of_le, xq_al, y_v, xq_cmp, xin_iff, fit0, up2, va_up, upd, Int32.lt_iff_toInt_lt, Int32.le_iff_toInt_le, ← Int32.toInt_inj, s1, s2, p1, p2, e1, e2, t1, t2, l1, l2, z1, z2, n0, n1, n2, n3, n4, n5, m0, m1, m2, m5, up, us, uv, q6] <;> omega) ?_)⟩
      refine ⟨by simp [va_up, k6, g138, h]; rfl, N, va_up B 5 (va_up (B 5) (6 * jp + js) 0), _, _, _, _, rfl, v1, v2, v3, v4, v5, v6, ⟨fir_set v7.1 hjp hjs s3 (by decide), kno_set v7.2.1 (by omega) (by omega) ?_ ?_ ?_, ?_⟩, v8, v9, v10, v11, v12, v13⟩
      · simp [va_up, ks, f74, bo, ba, nb0, nb1, nb2, nb3]
      · simp [va_up, ks, f75, bo, ba, nb0, nb1, nb2, nb3]
      · simp [va_up, ks, f76, bo, ba, nb0, nb1, nb2, nb3]
      · intro j hj
        have w := v7.2.2 j hj
        by_cases q : j = 6 * jp + js
        · subst q; simp [va_up, k6, upd]
        · simp [va_up, k6, upd, q, w]
    · refine xw_yr hd 132 [0, 0, 0, 0, 0, 0, 0, 1, 0, 1, 1, 1, 0, 1, 0, 1] rfl (by simp (disch := omega) [Int.bmod_eq_of_le, xq_al, y_v, xq_cmp, xin_iff, fit0, up2, va_up, upd, Int32.lt_iff_toInt_lt, Int32.le_iff_toInt_le, s1, s2, p1, p2, e1, e2, t1, t2, l1, l2, z1, z2, n0, n1, n2, n3, n4, n5, m0, m1, m2, m5, up, us, uv, ks, kp, f74, f75, f76, b, h, nb0, nb1, nb2, nb3, nq_1_1, nq_1_3] <;> omega) ?_
      refine ⟨_, _, _, _, _, rfl, rfl, xe_of (co := xk_165) (nl := 5) rfl rfl rfl (xw_yr hd 79 [0, 0, 0, 0, 0, 1, 0, 0, 1] rfl (by simp (disch := omega) [Int.bmod_eq_of_le, xq_al, y_v, xq_cmp, xin_iff, fit0, up2, va_up, upd, Int32.lt_iff_toInt_lt, Int32.le_iff_toInt_le, ← Int32.toInt_inj, s1, s2, p1, p2, e1, e2, t1, t2, l1, l2, z1, z2, n0, n1, n2, n3, n4, n5, m0, m1, m2, m5, up, us, uv, q6] <;> omega) ?_)⟩
      refine ⟨by simp [va_up, k6, g138, h]; rfl, N, va_up B 5 (va_up (B 5) (6 * jp + js) 1), _, _, _, _, rfl, v1, v2, v3, v4, v5, v6, ⟨fir_set v7.1 hjp hjs s3 (by decide), kno_set v7.2.1 (by omega) (by omega) ?_ ?_ ?_, ?_⟩, v8, v9, v10, v11, v12, v13⟩
      · simp [va_up, ks, f74, bo, ba, nb0, nb1, nb2, nb3]
      · simp [va_up, ks, f75, bo, ba, nb0, nb1, nb2, nb3]
      · simp [va_up, ks, f76, bo, ba, nb0, nb1, nb2, nb3]
      · intro j hj
        have w := v7.2.2 j hj
        by_cases q : j = 6 * jp + js
        · subst q; simp [va_up, k6, upd]
        · simp [va_up, k6, upd, q, w]
    · refine xw_yr hd 132 [0, 0, 0, 0, 0, 0, 0, 1, 0, 1, 1, 1, 0, 0, 1, 1] rfl (by simp (disch := omega) [Int.bmod_eq_of_le, xq_al, y_v, xq_cmp, xin_iff, fit0, up2, va_up, upd, Int32.lt_iff_toInt_lt, Int32.le_iff_toInt_le, s1, s2, p1, p2, e1, e2, t1, t2, l1, l2, z1, z2, n0, n1, n2, n3, n4, n5, m0, m1, m2, m5, up, us, uv, ks, kp, f74, f75, f76, b, h, nb0, nb1, nb2, nb3, nq_2_1, nq_2_3] <;> omega) ?_
      refine ⟨_, _, _, _, _, rfl, rfl, xe_of (co := xk_165) (nl := 5) rfl rfl rfl (xw_yr hd 79 [0, 0, 0, 0, 0, 1, 0, 0, 1] rfl (by simp (disch := omega) [Int.bmod_eq_of_le, xq_al, y_v, xq_cmp, xin_iff, fit0, up2, va_up, upd, Int32.lt_iff_toInt_lt, Int32.le_iff_toInt_le, ← Int32.toInt_inj, s1, s2, p1, p2, e1, e2, t1, t2, l1, l2, z1, z2, n0, n1, n2, n3, n4, n5, m0, m1, m2, m5, up, us, uv, q6] <;> omega) ?_)⟩
      refine ⟨by simp [va_up, k6, g138, h]; rfl, N, va_up B 5 (va_up (B 5) (6 * jp + js) 2), _, _, _, _, rfl, v1, v2, v3, v4, v5, v6, ⟨fir_set v7.1 hjp hjs s3 (by decide), kno_set v7.2.1 (by omega) (by omega) ?_ ?_ ?_, ?_⟩, v8, v9, v10, v11, v12, v13⟩
      · simp [va_up, ks, f74, bo, ba, nb0, nb1, nb2, nb3]
      · simp [va_up, ks, f75, bo, ba, nb0, nb1, nb2, nb3]
      · simp [va_up, ks, f76, bo, ba, nb0, nb1, nb2, nb3]
      · intro j hj
        have w := v7.2.2 j hj
        by_cases q : j = 6 * jp + js
        · subst q; simp [va_up, k6, upd]
        · simp [va_up, k6, upd, q, w]
    · refine xw_yr hd 131 [0, 0, 0, 0, 0, 0, 0, 1, 0, 1, 1, 1, 0, 0, 1, 0] rfl (by simp (disch := omega) [Int.bmod_eq_of_le, xq_al, y_v, xq_cmp, xin_iff, fit0, up2, va_up, upd, Int32.lt_iff_toInt_lt, Int32.le_iff_toInt_le, s1, s2, p1, p2, e1, e2, t1, t2, l1, l2, z1, z2, n0, n1, n2, n3, n4, n5, m0, m1, m2, m5, up, us, uv, ks, kp, f74, f75, f76, b, h, nb0, nb1, nb2, nb3, nq_3_1, nq_3_3] <;> omega) ?_
      refine ⟨_, _, _, _, _, rfl, rfl, xe_of (co := xk_165) (nl := 5) rfl rfl rfl (xw_yr hd 79 [0, 0, 0, 0, 0, 1, 0, 0, 1] rfl (by simp (disch := omega) [Int.bmod_eq_of_le, xq_al, y_v, xq_cmp, xin_iff, fit0, up2, va_up, upd, Int32.lt_iff_toInt_lt, Int32.le_iff_toInt_le, ← Int32.toInt_inj, s1, s2, p1, p2, e1, e2, t1, t2, l1, l2, z1, z2, n0, n1, n2, n3, n4, n5, m0, m1, m2, m5, up, us, uv, q6] <;> omega) ?_)⟩
      refine ⟨by simp [va_up, k6, g138, h]; rfl, N, va_up B 5 (va_up (B 5) (6 * jp + js) 3), _, _, _, _, rfl, v1, v2, v3, v4, v5, v6, ⟨fir_set v7.1 hjp hjs s3 (by decide), kno_set v7.2.1 (by omega) (by omega) ?_ ?_ ?_, ?_⟩, v8, v9, v10, v11, v12, v13⟩
      · simp [va_up, ks, f74, bo, ba, nb0, nb1, nb2, nb3]
      · simp [va_up, ks, f75, bo, ba, nb0, nb1, nb2, nb3]
      · simp [va_up, ks, f76, bo, ba, nb0, nb1, nb2, nb3]
      · intro j hj
        have w := v7.2.2 j hj
        by_cases q : j = 6 * jp + js
        · subst q; simp [va_up, k6, upd]
        · simp [va_up, k6, upd, q, w]
  · rcases (show jv = 0 ∨ jv = 1 ∨ jv = 2 ∨ jv = 3 by omega) with rfl | rfl | rfl | rfl
    · refine xw_yr hd 125 [0, 0, 0, 0, 0, 0, 0, 1, 0, 1, 1, 0, 1, 1, 1] rfl (by simp (disch := omega) [Int.bmod_eq_of_le, xq_al, y_v, xq_cmp, xin_iff, fit0, up2, va_up, upd, Int32.lt_iff_toInt_lt, Int32.le_iff_toInt_le, s1, s2, p1, p2, e1, e2, t1, t2, l1, l2, z1, z2, n0, n1, n2, n3, n4, n5, m0, m1, m2, m5, up, us, uv, ks, kp, f74, f75, f76, b, h, nb0, nb1, nb2, nb3, nq_0_1, nq_0_3] <;> omega) ?_
      refine ⟨_, _, _, _, _, rfl, rfl, xe_of (co := xk_165) (nl := 5) rfl rfl rfl (xw_yr hd 79 [0, 0, 0, 0, 0, 1, 0, 0, 1] rfl (by simp (disch := omega) [Int.bmod_eq_of_le, xq_al, y_v, xq_cmp, xin_iff, fit0, up2, va_up, upd, Int32.lt_iff_toInt_lt, Int32.le_iff_toInt_le, ← Int32.toInt_inj, s1, s2, p1, p2, e1, e2, t1, t2, l1, l2, z1, z2, n0, n1, n2, n3, n4, n5, m0, m1, m2, m5, up, us, uv, q6] <;> omega) ?_)⟩
      refine ⟨by simp [va_up, k6, g138, h]; rfl, N, va_up B 5 (va_up (B 5) (6 * jp + js) 0), _, _, _, _, rfl, v1, v2, v3, v4, v5, v6, ⟨fir_set v7.1 hjp hjs s3 (by decide), kno_set v7.2.1 (by omega) (by omega) ?_ ?_ ?_, ?_⟩, v8, v9, v10, v11, v12, v13⟩
      · simp [va_up, ks, f74, bo, ba, nb0, nb1, nb2, nb3]
      · simp [va_up, ks, f75, bo, ba, nb0, nb1, nb2, nb3]
      · simp [va_up, ks, f76, bo, ba, nb0, nb1, nb2, nb3]
      · intro j hj
        have w := v7.2.2 j hj
        by_cases q : j = 6 * jp + js
        · subst q; simp [va_up, k6, upd]
        · simp [va_up, k6, upd, q, w]
    · refine xw_yr hd 124 [0, 0, 0, 0, 0, 0, 0, 1, 0, 1, 1, 0, 1, 0, 1] rfl (by simp (disch := omega) [Int.bmod_eq_of_le, xq_al, y_v, xq_cmp, xin_iff, fit0, up2, va_up, upd, Int32.lt_iff_toInt_lt, Int32.le_iff_toInt_le, s1, s2, p1, p2, e1, e2, t1, t2, l1, l2, z1, z2, n0, n1, n2, n3, n4, n5, m0, m1, m2, m5, up, us, uv, ks, kp, f74, f75, f76, b, h, nb0, nb1, nb2, nb3, nq_1_1, nq_1_3] <;> omega) ?_
      refine ⟨_, _, _, _, _, rfl, rfl, xe_of (co := xk_165) (nl := 5) rfl rfl rfl (xw_yr hd 79 [0, 0, 0, 0, 0, 1, 0, 0, 1] rfl (by simp (disch := omega) [Int.bmod_eq_of_le, xq_al, y_v, xq_cmp, xin_iff, fit0, up2, va_up, upd, Int32.lt_iff_toInt_lt, Int32.le_iff_toInt_le, ← Int32.toInt_inj, s1, s2, p1, p2, e1, e2, t1, t2, l1, l2, z1, z2, n0, n1, n2, n3, n4, n5, m0, m1, m2, m5, up, us, uv, q6] <;> omega) ?_)⟩
      refine ⟨by simp [va_up, k6, g138, h]; rfl, N, va_up B 5 (va_up (B 5) (6 * jp + js) 1), _, _, _, _, rfl, v1, v2, v3, v4, v5, v6, ⟨fir_set v7.1 hjp hjs s3 (by decide), kno_set v7.2.1 (by omega) (by omega) ?_ ?_ ?_, ?_⟩, v8, v9, v10, v11, v12, v13⟩
      · simp [va_up, ks, f74, bo, ba, nb0, nb1, nb2, nb3]
      · simp [va_up, ks, f75, bo, ba, nb0, nb1, nb2, nb3]
      · simp [va_up, ks, f76, bo, ba, nb0, nb1, nb2, nb3]
      · intro j hj
        have w := v7.2.2 j hj
        by_cases q : j = 6 * jp + js
        · subst q; simp [va_up, k6, upd]
        · simp [va_up, k6, upd, q, w]
    · refine xw_yr hd 124 [0, 0, 0, 0, 0, 0, 0, 1, 0, 1, 1, 0, 0, 1, 1] rfl (by simp (disch := omega) [Int.bmod_eq_of_le, xq_al, y_v, xq_cmp, xin_iff, fit0, up2, va_up, upd, Int32.lt_iff_toInt_lt, Int32.le_iff_toInt_le, s1, s2, p1, p2, e1, e2, t1, t2, l1, l2, z1, z2, n0, n1, n2, n3, n4, n5, m0, m1, m2, m5, up, us, uv, ks, kp, f74, f75, f76, b, h, nb0, nb1, nb2, nb3, nq_2_1, nq_2_3] <;> omega) ?_
      refine ⟨_, _, _, _, _, rfl, rfl, xe_of (co := xk_165) (nl := 5) rfl rfl rfl (xw_yr hd 79 [0, 0, 0, 0, 0, 1, 0, 0, 1] rfl (by simp (disch := omega) [Int.bmod_eq_of_le, xq_al, y_v, xq_cmp, xin_iff, fit0, up2, va_up, upd, Int32.lt_iff_toInt_lt, Int32.le_iff_toInt_le, ← Int32.toInt_inj, s1, s2, p1, p2, e1, e2, t1, t2, l1, l2, z1, z2, n0, n1, n2, n3, n4, n5, m0, m1, m2, m5, up, us, uv, q6] <;> omega) ?_)⟩
      refine ⟨by simp [va_up, k6, g138, h]; rfl, N, va_up B 5 (va_up (B 5) (6 * jp + js) 2), _, _, _, _, rfl, v1, v2, v3, v4, v5, v6, ⟨fir_set v7.1 hjp hjs s3 (by decide), kno_set v7.2.1 (by omega) (by omega) ?_ ?_ ?_, ?_⟩, v8, v9, v10, v11, v12, v13⟩
      · simp [va_up, ks, f74, bo, ba, nb0, nb1, nb2, nb3]
      · simp [va_up, ks, f75, bo, ba, nb0, nb1, nb2, nb3]
      · simp [va_up, ks, f76, bo, ba, nb0, nb1, nb2, nb3]
      · intro j hj
        have w := v7.2.2 j hj
        by_cases q : j = 6 * jp + js
        · subst q; simp [va_up, k6, upd]
        · simp [va_up, k6, upd, q, w]
    · refine xw_yr hd 123 [0, 0, 0, 0, 0, 0, 0, 1, 0, 1, 1, 0, 0, 1, 0] rfl (by simp (disch := omega) [Int.bmod_eq_of_le, xq_al, y_v, xq_cmp, xin_iff, fit0, up2, va_up, upd, Int32.lt_iff_toInt_lt, Int32.le_iff_toInt_le, s1, s2, p1, p2, e1, e2, t1, t2, l1, l2, z1, z2, n0, n1, n2, n3, n4, n5, m0, m1, m2, m5, up, us, uv, ks, kp, f74, f75, f76, b, h, nb0, nb1, nb2, nb3, nq_3_1, nq_3_3] <;> omega) ?_
      refine ⟨_, _, _, _, _, rfl, rfl, xe_of (co := xk_165) (nl := 5) rfl rfl rfl (xw_yr hd 79 [0, 0, 0, 0, 0, 1, 0, 0, 1] rfl (by simp (disch := omega) [Int.bmod_eq_of_le, xq_al, y_v, xq_cmp, xin_iff, fit0, up2, va_up, upd, Int32.lt_iff_toInt_lt, Int32.le_iff_toInt_le, ← Int32.toInt_inj, s1, s2, p1, p2, e1, e2, t1, t2, l1, l2, z1, z2, n0, n1, n2, n3, n4, n5, m0, m1, m2, m5, up, us, uv, q6] <;> omega) ?_)⟩
      refine ⟨by simp [va_up, k6, g138, h]; rfl, N, va_up B 5 (va_up (B 5) (6 * jp + js) 3), _, _, _, _, rfl, v1, v2, v3, v4, v5, v6, ⟨fir_set v7.1 hjp hjs s3 (by decide), kno_set v7.2.1 (by omega) (by omega) ?_ ?_ ?_, ?_⟩, v8, v9, v10, v11, v12, v13⟩
      · simp [va_up, ks, f74, bo, ba, nb0, nb1, nb2, nb3]
      · simp [va_up, ks, f75, bo, ba, nb0, nb1, nb2, nb3]
      · simp [va_up, ks, f76, bo, ba, nb0, nb1, nb2, nb3]
      · intro j hj
        have w := v7.2.2 j hj
        by_cases q : j = 6 * jp + js
        · subst q; simp [va_up, k6, upd]
        · simp [va_up, k6, upd, q, w]
  · rcases (show jv = 0 ∨ jv = 1 ∨ jv = 2 ∨ jv = 3 by omega) with rfl | rfl | rfl | rfl
    · refine xw_yr hd 118 [0, 0, 0, 0, 0, 0, 0, 1, 0, 1, 0, 1, 1, 1] rfl (by simp (disch := omega) [Int.bmod_eq_of_le, xq_al, y_v, xq_cmp, xin_iff, fit0, up2, va_up, upd, Int32.lt_iff_toInt_lt, Int32.le_iff_toInt_le, s1, s2, p1, p2, e1, e2, t1, t2, l1, l2, z1, z2, n0, n1, n2, n3, n4, n5, m0, m1, m2, m5, up, us, uv, ks, kp, f74, f75, f76, b, h, nb0, nb1, nb2, nb3, nq_0_1, nq_0_3] <;> omega) ?_
      refine ⟨_, _, _, _, _, rfl, rfl, xe_of (co := xk_165) (nl := 5) rfl rfl rfl (xw_yr hd 79 [0, 0, 0, 0, 0, 1, 0, 0, 1] rfl (by simp (disch := omega) [Int.bmod_eq_of_le, xq_al, y_v, xq_cmp, xin_iff, fit0, up2, va_up, upd, Int32.lt_iff_toInt_lt, Int32.le_iff_toInt_le, ← Int32.toInt_inj, s1, s2, p1, p2, e1, e2, t1, t2, l1, l2, z1, z2, n0, n1, n2, n3, n4, n5, m0, m1, m2, m5, up, us, uv, q6] <;> omega) ?_)⟩
      refine ⟨by simp [va_up, k6, g138, h]; rfl, N, va_up B 5 (va_up (B 5) (6 * jp + js) 0), _, _, _, _, rfl, v1, v2, v3, v4, v5, v6, ⟨fir_set v7.1 hjp hjs s3 (by decide), kno_set v7.2.1 (by omega) (by omega) ?_ ?_ ?_, ?_⟩, v8, v9, v10, v11, v12, v13⟩
      · simp [va_up, ks, f74, bo, ba, nb0, nb1, nb2, nb3]
      · simp [va_up, ks, f75, bo, ba, nb0, nb1, nb2, nb3]
      · simp [va_up, ks, f76, bo, ba, nb0, nb1, nb2, nb3]
      · intro j hj
        have w := v7.2.2 j hj
        by_cases q : j = 6 * jp + js
        · subst q; simp [va_up, k6, upd]
        · simp [va_up, k6, upd, q, w]
    · refine xw_yr hd 117 [0, 0, 0, 0, 0, 0, 0, 1, 0, 1, 0, 1, 0, 1] rfl (by simp (disch := omega) [Int.bmod_eq_of_le, xq_al, y_v, xq_cmp, xin_iff, fit0, up2, va_up, upd, Int32.lt_iff_toInt_lt, Int32.le_iff_toInt_le, s1, s2, p1, p2, e1, e2, t1, t2, l1, l2, z1, z2, n0, n1, n2, n3, n4, n5, m0, m1, m2, m5, up, us, uv, ks, kp, f74, f75, f76, b, h, nb0, nb1, nb2, nb3, nq_1_1, nq_1_3] <;> omega) ?_
      refine ⟨_, _, _, _, _, rfl, rfl, xe_of (co := xk_165) (nl := 5) rfl rfl rfl (xw_yr hd 79 [0, 0, 0, 0, 0, 1, 0, 0, 1] rfl (by simp (disch := omega) [Int.bmod_eq_of_le, xq_al, y_v, xq_cmp, xin_iff, fit0, up2, va_up, upd, Int32.lt_iff_toInt_lt, Int32.le_iff_toInt_le, ← Int32.toInt_inj, s1, s2, p1, p2, e1, e2, t1, t2, l1, l2, z1, z2, n0, n1, n2, n3, n4, n5, m0, m1, m2, m5, up, us, uv, q6] <;> omega) ?_)⟩
      refine ⟨by simp [va_up, k6, g138, h]; rfl, N, va_up B 5 (va_up (B 5) (6 * jp + js) 1), _, _, _, _, rfl, v1, v2, v3, v4, v5, v6, ⟨fir_set v7.1 hjp hjs s3 (by decide), kno_set v7.2.1 (by omega) (by omega) ?_ ?_ ?_, ?_⟩, v8, v9, v10, v11, v12, v13⟩
      · simp [va_up, ks, f74, bo, ba, nb0, nb1, nb2, nb3]
      · simp [va_up, ks, f75, bo, ba, nb0, nb1, nb2, nb3]
      · simp [va_up, ks, f76, bo, ba, nb0, nb1, nb2, nb3]
      · intro j hj
        have w := v7.2.2 j hj
        by_cases q : j = 6 * jp + js
        · subst q; simp [va_up, k6, upd]
        · simp [va_up, k6, upd, q, w]
    · refine xw_yr hd 117 [0, 0, 0, 0, 0, 0, 0, 1, 0, 1, 0, 0, 1, 1] rfl (by simp (disch := omega) [Int.bmod_eq_of_le, xq_al, y_v, xq_cmp, xin_iff, fit0, up2, va_up, upd, Int32.lt_iff_toInt_lt, Int32.le_iff_toInt_le, s1, s2, p1, p2, e1, e2, t1, t2, l1, l2, z1, z2, n0, n1, n2, n3, n4, n5, m0, m1, m2, m5, up, us, uv, ks, kp, f74, f75, f76, b, h, nb0, nb1, nb2, nb3, nq_2_1, nq_2_3] <;> omega) ?_
      refine ⟨_, _, _, _, _, rfl, rfl, xe_of (co := xk_165) (nl := 5) rfl rfl rfl (xw_yr hd 79 [0, 0, 0, 0, 0, 1, 0, 0, 1] rfl (by simp (disch := omega) [Int.bmod_eq_of_le, xq_al, y_v, xq_cmp, xin_iff, fit0, up2, va_up, upd, Int32.lt_iff_toInt_lt, Int32.le_iff_toInt_le, ← Int32.toInt_inj, s1, s2, p1, p2, e1, e2, t1, t2, l1, l2, z1, z2, n0, n1, n2, n3, n4, n5, m0, m1, m2, m5, up, us, uv, q6] <;> omega) ?_)⟩
      refine ⟨by simp [va_up, k6, g138, h]; rfl, N, va_up B 5 (va_up (B 5) (6 * jp + js) 2), _, _, _, _, rfl, v1, v2, v3, v4, v5, v6, ⟨fir_set v7.1 hjp hjs s3 (by decide), kno_set v7.2.1 (by omega) (by omega) ?_ ?_ ?_, ?_⟩, v8, v9, v10, v11, v12, v13⟩
      · simp [va_up, ks, f74, bo, ba, nb0, nb1, nb2, nb3]
      · simp [va_up, ks, f75, bo, ba, nb0, nb1, nb2, nb3]
      · simp [va_up, ks, f76, bo, ba, nb0, nb1, nb2, nb3]
      · intro j hj
        have w := v7.2.2 j hj
        by_cases q : j = 6 * jp + js
        · subst q; simp [va_up, k6, upd]
        · simp [va_up, k6, upd, q, w]
    · refine xw_yr hd 116 [0, 0, 0, 0, 0, 0, 0, 1, 0, 1, 0, 0, 1, 0] rfl (by simp (disch := omega) [Int.bmod_eq_of_le, xq_al, y_v, xq_cmp, xin_iff, fit0, up2, va_up, upd, Int32.lt_iff_toInt_lt, Int32.le_iff_toInt_le, s1, s2, p1, p2, e1, e2, t1, t2, l1, l2, z1, z2, n0, n1, n2, n3, n4, n5, m0, m1, m2, m5, up, us, uv, ks, kp, f74, f75, f76, b, h, nb0, nb1, nb2, nb3, nq_3_1, nq_3_3] <;> omega) ?_
      refine ⟨_, _, _, _, _, rfl, rfl, xe_of (co := xk_165) (nl := 5) rfl rfl rfl (xw_yr hd 79 [0, 0, 0, 0, 0, 1, 0, 0, 1] rfl (by simp (disch := omega) [Int.bmod_eq_of_le, xq_al, y_v, xq_cmp, xin_iff, fit0, up2, va_up, upd, Int32.lt_iff_toInt_lt, Int32.le_iff_toInt_le, ← Int32.toInt_inj, s1, s2, p1, p2, e1, e2, t1, t2, l1, l2, z1, z2, n0, n1, n2, n3, n4, n5, m0, m1, m2, m5, up, us, uv, q6] <;> omega) ?_)⟩
      refine ⟨by simp [va_up, k6, g138, h]; rfl, N, va_up B 5 (va_up (B 5) (6 * jp + js) 3), _, _, _, _, rfl, v1, v2, v3, v4, v5, v6, ⟨fir_set v7.1 hjp hjs s3 (by decide), kno_set v7.2.1 (by omega) (by omega) ?_ ?_ ?_, ?_⟩, v8, v9, v10, v11, v12, v13⟩
      · simp [va_up, ks, f74, bo, ba, nb0, nb1, nb2, nb3]
      · simp [va_up, ks, f75, bo, ba, nb0, nb1, nb2, nb3]
      · simp [va_up, ks, f76, bo, ba, nb0, nb1, nb2, nb3]
      · intro j hj
        have w := v7.2.2 j hj
        by_cases q : j = 6 * jp + js
        · subst q; simp [va_up, k6, upd]
        · simp [va_up, k6, upd, q, w]
end OPS