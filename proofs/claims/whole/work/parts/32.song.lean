/-! MORE CALLS. -/
theorem xin_iff (x : Int32) (n : Nat) : xq_in x n = (decide (0 ≤ x.toInt) && decide (x.toInt < n)) := by
  unfold xq_in
  by_cases h : x < 0
  · have h2 := Int32.lt_iff_toInt_lt.mp h
    have h3 : ¬ 0 ≤ x.toInt := by simp at h2; omega
    simp [h, h3]
  · have h2 := Int32.le_iff_toInt_le.mp (Int32.not_lt.mp h)
    simp at h2
    have h3 : Nat.blt x.toNatClampNeg n = decide (x.toInt < n) := by
      have e : (x.toNatClampNeg : Int) = x.toInt := by rw [Int32.toNatClampNeg]; omega
      cases q : Nat.blt x.toNatClampNeg n with
      | true => rw [Nat.blt_eq] at q; symm; rw [decide_eq_true_iff]; omega
      | false =>
        have q : ¬ x.toNatClampNeg < n := fun z => by rw [Nat.blt_eq.mpr z] at q; cases q
        symm; rw [decide_eq_false_iff_not]; omega
    rw [h3, decide_eq_true h2, decide_eq_false h]
    rfl
theorem ix3 (x : Int32) (n : Nat) (hn : n < 2 ^ 20) : (x.toInt < 0) ∨ ((n : Int) ≤ x.toInt) ∨ ∃ j : Nat, j < n ∧ x = nI j := by
  rcases ix x n hn with h | h | h
  · exact Or.inl h.2
  · exact Or.inr (Or.inl h.2.1)
  · exact Or.inr (Or.inr h)

theorem aL (m : Int32) (k n : Nat) (h : m = nI k) : m + nI n = nI (k + n) := by rw [h, nI_add]
theorem oI1 : Int32.ofInt 1 = 1 := rfl
theorem sI (n : Nat) : nI n + 1 = nI (n + 1) := by rw [show (1 : Int32) = nI 1 from rfl, nI_add]
theorem sI1 (n : Nat) : nI n + 1 - 1 = nI n := by rw [sI]; exact nI_pred n
theorem upd_id (f : Nat → Int32) (i : Nat) (x : Int32) (h : f i = x) : upd f i x = f := by
  funext j
  by_cases q : j = i
  · subst q; rw [pk_us, h]
  · rw [pk_un q]
section OPS
variable {ro : Nat → Option xq_C} {d : Nat}
set_option maxRecDepth 20000 in
set_option maxHeartbeats 4000000 in
theorem op_song (hd : 60 ≤ d) (x : Int32) : iv_op ro (d + 1) 78 162 [.int x] := by
  intro N B A V tx cu hv
  obtain ⟨v1, v2, v3, v4, v5, v6, v7, v8, v9, v10, v11, v12, v13⟩ := id hv
  obtain ⟨⟨s1, s2, s3⟩, ⟨p1, p2, p3⟩, ⟨e1, e2, e3⟩, ⟨t1, t2, t3⟩, ⟨l1, l2, l3⟩, ⟨z1, z2, z3⟩⟩ := id v1
  have n0 := tI (n := N 0) (by omega)
  have n1 := tI (n := N 1) (by omega)
  have n2 := tI (n := N 2) (by omega)
  have n3 := tI (n := N 3) (by omega)
  have n4 := tI (n := N 4) (by omega)
  have n5 := tI (n := tx.length + 1) (by omega)
  have m0 := tI1 (n := N 0) (by omega)
  have m1 := tI1 (n := N 1) (by omega)
  have m2 := tI1 (n := N 2) (by omega)
  have m5 := tI1 (n := tx.length + 1) (by omega)
  refine xe_of (co := xk_78) (nl := 2) rfl rfl rfl ?_
  by_cases c0 : x.toInt < -1
  · refine xw_yr hd 16 [0, 1, 0] rfl (by simp (disch := omega) [Int.bmod_eq_of_le, xq_al, y_v, xq_cmp, xin_iff, fit0, up2, va_up, upd, Int32.lt_iff_toInt_lt, Int32.le_iff_toInt_le, ← Int32.toInt_inj, s1, s2, p1, p2, e1, e2, t1, t2, l1, l2, z1, z2, n0, n1, n2, n3, n4, n5, m0, m1, m2, m5] <;> omega) ?_
    refine ⟨_, _, _, _, _, rfl, rfl, xe_of (co := xk_162) (nl := 3) rfl rfl rfl (xw_yr hd 18 [1, 0] rfl (by simp (disch := omega) [Int.bmod_eq_of_le, xq_al, y_v, xq_cmp, xin_iff, fit0, up2, va_up, upd, Int32.lt_iff_toInt_lt, Int32.le_iff_toInt_le, ← Int32.toInt_inj, s1, s2, p1, p2, e1, e2, t1, t2, l1, l2, z1, z2, n0, n1, n2, n3, n4, n5, m0, m1, m2, m5] <;> omega) ⟨rfl, N, B, _, _, _, _, rfl, hv⟩)⟩
  by_cases c1 : (N 0 : Int) ≤ x.toInt
  · refine xw_yr hd 20 [0, 0, 1, 0] rfl (by simp (disch := omega) [Int.bmod_eq_of_le, xq_al, y_v, xq_cmp, xin_iff, fit0, up2, va_up, upd, Int32.lt_iff_toInt_lt, Int32.le_iff_toInt_le, ← Int32.toInt_inj, s1, s2, p1, p2, e1, e2, t1, t2, l1, l2, z1, z2, n0, n1, n2, n3, n4, n5, m0, m1, m2, m5] <;> omega) ?_
    refine ⟨_, _, _, _, _, rfl, rfl, xe_of (co := xk_162) (nl := 3) rfl rfl rfl (xw_yr hd 21 [0, 1, 0] rfl (by simp (disch := omega) [Int.bmod_eq_of_le, xq_al, y_v, xq_cmp, xin_iff, fit0, up2, va_up, upd, Int32.lt_iff_toInt_lt, Int32.le_iff_toInt_le, ← Int32.toInt_inj, s1, s2, p1, p2, e1, e2, t1, t2, l1, l2, z1, z2, n0, n1, n2, n3, n4, n5, m0, m1, m2, m5] <;> omega) ⟨rfl, N, B, _, _, _, _, rfl, hv⟩)⟩
  have a1 : -1 ≤ x.toInt ∧ x.toInt < N 0 := by omega
  by_cases c2 : N 0 = 6
  · by_cases c3 : x.toInt = -1
    · refine xw_yr hd 12 [1, 0] rfl (by simp (disch := omega) [Int.bmod_eq_of_le, xq_al, y_v, xq_cmp, xin_iff, fit0, up2, va_up, upd, Int32.lt_iff_toInt_lt, Int32.le_iff_toInt_le, ← Int32.toInt_inj, s1, s2, p1, p2, e1, e2, t1, t2, l1, l2, z1, z2, n0, n1, n2, n3, n4, n5, m0, m1, m2, m5] <;> omega) ?_
      refine ⟨_, _, _, _, _, rfl, rfl, xe_of (co := xk_162) (nl := 3) rfl rfl rfl (xw_yr hd 26 [0, 0, 1, 0] rfl (by simp (disch := omega) [Int.bmod_eq_of_le, xq_al, y_v, xq_cmp, xin_iff, fit0, up2, va_up, upd, Int32.lt_iff_toInt_lt, Int32.le_iff_toInt_le, ← Int32.toInt_inj, s1, s2, p1, p2, e1, e2, t1, t2, l1, l2, z1, z2, n0, n1, n2, n3, n4, n5, m0, m1, m2, m5] <;> omega) ⟨rfl, N, B, _, _, _, _, rfl, hv⟩)⟩
    have c4 : 0 ≤ x.toInt := by omega
    refine xw_yr hd 28 [0, 0, 0, 0, 1, 0] rfl (by simp (disch := omega) [Int.bmod_eq_of_le, xq_al, y_v, xq_cmp, xin_iff, fit0, up2, va_up, upd, Int32.lt_iff_toInt_lt, Int32.le_iff_toInt_le, ← Int32.toInt_inj, s1, s2, p1, p2, e1, e2, t1, t2, l1, l2, z1, z2, n0, n1, n2, n3, n4, n5, m0, m1, m2, m5] <;> omega) ?_
    refine ⟨_, _, _, _, _, rfl, rfl, xe_of (co := xk_162) (nl := 3) rfl rfl rfl (xw_yr hd 26 [0, 0, 1, 0] rfl (by simp (disch := omega) [Int.bmod_eq_of_le, xq_al, y_v, xq_cmp, xin_iff, fit0, up2, va_up, upd, Int32.lt_iff_toInt_lt, Int32.le_iff_toInt_le, ← Int32.toInt_inj, s1, s2, p1, p2, e1, e2, t1, t2, l1, l2, z1, z2, n0, n1, n2, n3, n4, n5, m0, m1, m2, m5] <;> omega) ⟨rfl, N, B, _, _, _, _, rfl, hv⟩)⟩
  have q0 : N 0 ≤ 5 := by omega
  have z : ∀ p : Nat, p < 5 → A 139 (6 * p + N 0) = 0 := fun p hp => by rw [v7.2.2 _ (by omega), (v7.1 p (N 0) hp (by omega)).2 (Or.inr (Nat.le_refl _))]; rfl
  have w4 : ∀ s, s < N 0 + 1 → upd (A 72) (N 0) x s = upd (A 135) (N 0) x s ∧ (upd (A 72) (N 0) x s = -1 ∨ ∃ j : Nat, j < s ∧ upd (A 72) (N 0) x s = nI j) := by
    intro s hs
    by_cases q : s = N 0
    · subst q; rw [pk_us, pk_us]; refine ⟨rfl, ?_⟩
      by_cases c3 : x.toInt = -1
      · exact Or.inl (Int32.toInt_inj.mp c3)
      · refine Or.inr ⟨x.toInt.toNat, by omega, Int32.toInt_inj.mp ?_⟩
        rw [tI (by omega)]; omega
    · rw [pk_un q, pk_un q]; exact v4 s (by omega)
  have w7 : ∀ j, j < 30 → upd (upd (upd (upd (upd (A 139) (N 0) 0) (6 + N 0) 0) (12 + N 0) 0) (18 + N 0) 0) (24 + N 0) 0 j = nI (B 5 j) := by
    intro j hj
    have zz : ∀ p : Nat, p < 5 → j = 6 * p + N 0 → nI (B 5 j) = 0 := fun p hp e => by rw [← v7.2.2 j hj, e]; exact z p hp
    by_cases q : j = 24 + N 0
    · rw [q, pk_us, ← q]; exact (zz 4 (by omega) (by omega)).symm
    rw [pk_un q]
    by_cases q : j = 18 + N 0
    · rw [q, pk_us, ← q]; exact (zz 3 (by omega) (by omega)).symm
    rw [pk_un q]
    by_cases q : j = 12 + N 0
    · rw [q, pk_us, ← q]; exact (zz 2 (by omega) (by omega)).symm
    rw [pk_un q]
    by_cases q : j = 6 + N 0
    · rw [q, pk_us, ← q]; exact (zz 1 (by omega) (by omega)).symm
    rw [pk_un q]
    by_cases q : j = N 0
    · rw [q, pk_us, ← q]; exact (zz 0 (by omega) (by omega)).symm
    rw [pk_un q]; exact v7.2.2 j hj
  have k0 : (nI (N 0)).toNatClampNeg = N 0 := tC (by omega)
  have k6 : ((6 : Int32) + nI (N 0)).toNatClampNeg = 6 + N 0 := by rw [aL 6 6 _ rfl]; exact tC (by omega)
  have k12 : ((12 : Int32) + nI (N 0)).toNatClampNeg = 12 + N 0 := by rw [aL 12 12 _ rfl]; exact tC (by omega)
  have k18 : ((18 : Int32) + nI (N 0)).toNatClampNeg = 18 + N 0 := by rw [aL 18 18 _ rfl]; exact tC (by omega)
  have k24 : ((24 : Int32) + nI (N 0)).toNatClampNeg = 24 + N 0 := by rw [aL 24 24 _ rfl]; exact tC (by omega)
  by_cases c3 : x.toInt = -1
  · refine xw_yr hd 27 [1, 1] rfl (by simp (disch := omega) [Int.bmod_eq_of_le, xq_al, y_v, xq_cmp, xin_iff, fit0, up2, va_up, upd, Int32.lt_iff_toInt_lt, Int32.le_iff_toInt_le, ← Int32.toInt_inj, s1, s2, p1, p2, e1, e2, t1, t2, l1, l2, z1, z2, n0, n1, n2, n3, n4, n5, m0, m1, m2, m5] <;> omega) ?_
    refine ⟨_, _, _, _, _, rfl, rfl, xe_of (co := xk_162) (nl := 3) rfl rfl rfl (xw_yr hd 121 [0, 0, 1, 1, 0, 0, 0, 0, 0, 1] rfl (by simp (disch := omega) [Int.bmod_eq_of_le, xq_al, y_v, xq_cmp, xin_iff, fit0, up2, va_up, upd, Int32.lt_iff_toInt_lt, Int32.le_iff_toInt_le, ← Int32.toInt_inj, s1, s2, p1, p2, e1, e2, t1, t2, l1, l2, z1, z2, n0, n1, n2, n3, n4, n5, m0, m1, m2, m5] <;> omega) ?_)⟩
    refine ⟨by simp [up2, va_up, s1, s2], va_up N 0 (N 0 + 1), B, _, _, _, _, rfl, ?_, v2, v3, ?_, v5, v6, ⟨fun p t hp ht => ⟨(v7.1 p t hp ht).1, fun q => (v7.1 p t hp ht).2 (by have q : N 1 ≤ p ∨ N 0 + 1 ≤ t := q; omega)⟩, v7.2.1, ?_⟩, ⟨v8.1, fun e he => ⟨?_, (v8.2 e he).2⟩⟩, v9, v10, ?_, v12, v13⟩
    · refine ⟨⟨?_, ?_, by show N 0 + 1 ≤ 6; omega⟩, ⟨p1, p2, p3⟩, ⟨e1, e2, e3⟩, ⟨t1, t2, t3⟩, ⟨l1, l2, l3⟩, ⟨z1, z2, z3⟩⟩
      · show V 64 13 + 1 = nI (N 0 + 1); rw [s1, sI]
      · show V 132 2 + 1 = nI (N 0 + 1); rw [s2, sI]
    · intro s hs
      have w := w4 s hs
      simp [up2, va_up, s1, s2, k0]
      exact w
    · intro j hj
      have w := w7 j hj
      simp [up2, va_up, s1, s2, k0, oI1, k6, k12, k18, k24]
      exact w
    · obtain ⟨⟨s, q1, q2⟩, _⟩ := v8.2 e he
      exact ⟨s, by show s < N 0 + 1; omega, q2⟩
    · refine ⟨v11.1, ?_⟩
      rcases v11.2 with q | q
      · exact Or.inl q
      · obtain ⟨a1, a2, a3, a4, a5, a6, a7, a8, a9, a10, a11, a12⟩ := q
        exact Or.inr ⟨a1, a2, a3, a4, a5, a6, a7, a8, a9, ⟨a10.1, by have := a10.2; show B 9 2 ≤ N 0 + 1; omega⟩, a11, a12⟩
  have c4 : 0 ≤ x.toInt := by omega
  refine xw_yr hd 43 [0, 0, 0, 0, 1, 1] rfl (by simp (disch := omega) [Int.bmod_eq_of_le, xq_al, y_v, xq_cmp, xin_iff, fit0, up2, va_up, upd, Int32.lt_iff_toInt_lt, Int32.le_iff_toInt_le, ← Int32.toInt_inj, s1, s2, p1, p2, e1, e2, t1, t2, l1, l2, z1, z2, n0, n1, n2, n3, n4, n5, m0, m1, m2, m5] <;> omega) ?_
  refine ⟨_, _, _, _, _, rfl, rfl, xe_of (co := xk_162) (nl := 3) rfl rfl rfl (xw_yr hd 121 [0, 0, 1, 1, 0, 0, 0, 0, 0, 1] rfl (by simp (disch := omega) [Int.bmod_eq_of_le, xq_al, y_v, xq_cmp, xin_iff, fit0, up2, va_up, upd, Int32.lt_iff_toInt_lt, Int32.le_iff_toInt_le, ← Int32.toInt_inj, s1, s2, p1, p2, e1, e2, t1, t2, l1, l2, z1, z2, n0, n1, n2, n3, n4, n5, m0, m1, m2, m5] <;> omega) ?_)⟩
  refine ⟨by simp [up2, va_up, s1, s2], va_up N 0 (N 0 + 1), B, _, _, _, _, rfl, ?_, v2, v3, ?_, v5, v6, ⟨fun p t hp ht => ⟨(v7.1 p t hp ht).1, fun q => (v7.1 p t hp ht).2 (by have q : N 1 ≤ p ∨ N 0 + 1 ≤ t := q; omega)⟩, v7.2.1, ?_⟩, ⟨v8.1, fun e he => ⟨?_, (v8.2 e he).2⟩⟩, v9, v10, ?_, v12, v13⟩
  · refine ⟨⟨?_, ?_, by show N 0 + 1 ≤ 6; omega⟩, ⟨p1, p2, p3⟩, ⟨e1, e2, e3⟩, ⟨t1, t2, t3⟩, ⟨l1, l2, l3⟩, ⟨z1, z2, z3⟩⟩
    · show V 64 13 + 1 = nI (N 0 + 1); rw [s1, sI]
    · show V 132 2 + 1 = nI (N 0 + 1); rw [s2, sI]
  · intro s hs
    have w := w4 s hs
    simp [up2, va_up, s1, s2, k0]
    exact w
  · intro j hj
    have w := w7 j hj
    simp [up2, va_up, s1, s2, k0, oI1, k6, k12, k18, k24]
    exact w
  · obtain ⟨⟨s, q1, q2⟩, _⟩ := v8.2 e he
    exact ⟨s, by show s < N 0 + 1; omega, q2⟩
  · refine ⟨v11.1, ?_⟩
    rcases v11.2 with q | q
    · exact Or.inl q
    · obtain ⟨a1, a2, a3, a4, a5, a6, a7, a8, a9, a10, a11, a12⟩ := q
      exact Or.inr ⟨a1, a2, a3, a4, a5, a6, a7, a8, a9, ⟨a10.1, by have := a10.2; show B 9 2 ≤ N 0 + 1; omega⟩, a11, a12⟩
end OPS