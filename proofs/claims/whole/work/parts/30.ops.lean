/-! THE CALLS, one by one. -/
/-- an int is below 0, at least n, or one of 0 .. n - 1 -/
theorem ix (x : Int32) (n : Nat) (hn : n < 2 ^ 20) : (x < 0 ∧ x.toInt < 0) ∨ (nI n ≤ x ∧ (n : Int) ≤ x.toInt ∧ ¬ x < 0) ∨ ∃ j : Nat, j < n ∧ x = nI j := by
  rcases pk_ix x (n := n) (by omega) with h | h | h
  · exact Or.inl ⟨h, by simpa using Int32.lt_iff_toInt_lt.mp h⟩
  · have h2 := Int32.le_iff_toInt_le.mp h
    rw [nI_toInt (by omega)] at h2
    refine Or.inr (Or.inl ⟨h, h2, fun q => ?_⟩)
    have q2 := Int32.lt_iff_toInt_lt.mp q
    simp at q2
    omega
  · exact Or.inr (Or.inr h)
theorem tI {n : Nat} (h : n < 2 ^ 20) : (nI n).toInt = (n : Int) := nI_toInt (by omega)
theorem tI1 {n : Nat} (h : n < 2 ^ 20) : (nI n - 1).toInt = (n : Int) - 1 := by
  have : nI n - 1 = nI n - nI 1 := rfl
  rw [this, pk_sub_toInt (by omega) (by omega)]
  rfl
theorem tC {n : Nat} (h : n < 2 ^ 20) : (nI n).toNatClampNeg = n := nI_clamp (by omega)
theorem xin {j n : Nat} (h : j < n) (hn : n < 2 ^ 20) : xq_in (nI j) n = true := by
  unfold xq_in
  rw [decide_eq_false (nI_pos (by omega)), nI_clamp (by omega)]
  exact Nat.blt_eq.mpr h
theorem fit0 (x : Int32) : xq_fit 0 (.int x) = true := rfl
def up2 (V : Nat → Nat → Int32) (a k : Nat) (x : Int32) : Nat → Nat → Int32 := va_up V a (va_up (V a) k x)
def stb (m b c : Nat) : Nat := m - m / 2 ^ b % 2 * 2 ^ b + c * 2 ^ b
theorem stb_i : ∀ m, m < 16 → ∀ b, b < 4 → ∀ c, c < 2 → (nI m &&& ((1 : Int32) <<< (nI b &&& 31) ^^^ (-1)) ||| nI c <<< (nI b &&& 31)) = nI (stb m b c) ∧ (nI m >>> (nI b &&& 31)) &&& 1 = nI (m / 2 ^ b % 2) ∧ stb m b c < 16 := by decide +kernel
theorem stb_b : ∀ m, m < 16 → ∀ b, b < 4 → ∀ c, c < 2 → ∀ k, k < 4 → stb m b c / 2 ^ k % 2 = if k = b then c else m / 2 ^ k % 2 := by decide +kernel
theorem i4 (a b : Nat) : (4 : Int32) * nI a + nI b = nI (4 * a + b) := by rw [show (4 : Int32) = nI 4 from rfl, pk_mul, nI_add]
section OPS
variable {ro : Nat → Option xq_C} {d : Nat}

theorem op_count (hd : 60 ≤ d) (a : Int32) : iv_op ro (d + 1) 73 134 [.int a] := by
  intro N B A V tx cu hv
  obtain ⟨v1, v2, v3, v4, v5, v6, v7, v8, v9, v10, v11, v12, v13⟩ := id hv
  obtain ⟨⟨s1, s2, s3⟩, ⟨p1, p2, p3⟩, ⟨e1, e2, e3⟩, ⟨t1, t2, t3⟩, ⟨l1, l2, l3⟩, ⟨z1, z2, z3⟩⟩ := v1
  refine xe_of (co := xk_73) (nl := 2) rfl rfl rfl ?_
  by_cases c : a.toInt < 0 ∨ 5 < a.toInt
  · refine xw_mxr hd 800 [0] rfl (by simp [xq_al, c]) ?_
    refine ⟨_, A, V, tx, cu, rfl, rfl, xe_of (co := xk_134) (nl := 2) rfl rfl rfl (xw_mxr hd 800 [0] rfl (by simp [xq_al, c]) ⟨rfl, N, B, A, V, tx, cu, rfl, hv⟩)⟩
  have c2 : ¬ a.toInt < 0 ∧ ¬ 5 < a.toInt := ⟨fun q => c (Or.inl q), fun q => c (Or.inr q)⟩
  rcases (show a.toInt = 0 ∨ a.toInt = 1 ∨ a.toInt = 2 ∨ a.toInt = 3 ∨ a.toInt = 4 ∨ a.toInt = 5 by omega) with q | q | q | q | q | q
  · refine xw_mxr hd 800 [1] rfl (by simp [xq_al, q]) ?_
    refine ⟨_, A, V, tx, cu, rfl, rfl, xe_of (co := xk_134) (nl := 2) rfl rfl rfl (xw_mxr hd 800 [1] rfl (by simp [xq_al, q]) ⟨congrArg (fun x => some (Value.int x)) (p2.trans p1.symm), N, B, A, V, tx, cu, rfl, hv⟩)⟩
  · refine xw_mxr hd 800 [2] rfl (by simp [xq_al, q]) ?_
    refine ⟨_, A, V, tx, cu, rfl, rfl, xe_of (co := xk_134) (nl := 2) rfl rfl rfl (xw_mxr hd 800 [2] rfl (by simp [xq_al, q]) ⟨congrArg (fun x => some (Value.int x)) (s2.trans s1.symm), N, B, A, V, tx, cu, rfl, hv⟩)⟩
  · refine xw_mxr hd 800 [3] rfl (by simp [xq_al, q]) ?_
    refine ⟨_, A, V, tx, cu, rfl, rfl, xe_of (co := xk_134) (nl := 2) rfl rfl rfl (xw_mxr hd 800 [3] rfl (by simp [xq_al, q]) ⟨congrArg (fun x => some (Value.int x)) (e2.trans e1.symm), N, B, A, V, tx, cu, rfl, hv⟩)⟩
  · refine xw_mxr hd 800 [4] rfl (by simp [xq_al, q]) ?_
    refine ⟨_, A, V, tx, cu, rfl, rfl, xe_of (co := xk_134) (nl := 2) rfl rfl rfl (xw_mxr hd 800 [4] rfl (by simp [xq_al, q]) ⟨congrArg (fun x => some (Value.int x)) (t2.trans t1.symm), N, B, A, V, tx, cu, rfl, hv⟩)⟩
  · refine xw_mxr hd 800 [5] rfl (by simp [xq_al, q]) ?_
    refine ⟨_, A, V, tx, cu, rfl, rfl, xe_of (co := xk_134) (nl := 2) rfl rfl rfl (xw_mxr hd 800 [5] rfl (by simp [xq_al, q]) ⟨congrArg (fun x => some (Value.int x)) (l2.trans l1.symm), N, B, A, V, tx, cu, rfl, hv⟩)⟩
  · refine xw_mxr hd 800 [6] rfl (by simp [xq_al, q]) ?_
    refine ⟨_, A, V, tx, cu, rfl, rfl, xe_of (co := xk_134) (nl := 2) rfl rfl rfl (xw_mxr hd 800 [6] rfl (by simp [xq_al, q]) ⟨congrArg (fun x => some (Value.int x)) (z2.trans z1.symm), N, B, A, V, tx, cu, rfl, hv⟩)⟩
theorem op_forget (hd : 60 ≤ d) : iv_op ro (d + 1) 84 175 [] := by
  intro N B A V tx cu hv
  obtain ⟨v1, v2, v3, v4, v5, v6, v7, v8, v9, v10, v11, v12, v13⟩ := id hv
  obtain ⟨⟨s1, s2, s3⟩, ⟨p1, p2, p3⟩, ⟨e1, e2, e3⟩, ⟨t1, t2, t3⟩, ⟨l1, l2, l3⟩, ⟨z1, z2, z3⟩⟩ := v1
  refine xe_of (co := xk_84) (nl := 1) rfl rfl rfl ?_
  by_cases c : N 2 = 0
  · refine xw_mxr hd 800 [0] rfl (by simp [xq_al, xq_cmp, e1, c, nI]) ?_
    refine ⟨_, A, V, tx, cu, rfl, rfl, xe_of (co := xk_175) (nl := 1) rfl rfl rfl (xw_mxr hd 800 [0] rfl (by simp [xq_al, xq_cmp, e2, c, nI]) ⟨rfl, N, B, A, V, tx, cu, rfl, hv⟩)⟩
  have c0 : ¬ nI (N 2) = 0 := nI_ne0 (by omega) (by omega)
  refine xw_mxr hd 800 [1] rfl (by simp [xq_al, xq_cmp, e1, c0, fit0]) ?_
  refine ⟨_, A, up2 V 64 14 (V 64 14 - 1), tx, cu, rfl, rfl, xe_of (co := xk_175) (nl := 1) rfl rfl rfl (xw_mxr hd 800 [1] rfl (by simp [xq_al, xq_cmp, up2, va_up, e2, c0, fit0]) ?_)⟩
  have hp : nI (N 2) - 1 = nI (N 2 - 1) := by obtain ⟨k, hk⟩ : ∃ k, N 2 = k + 1 := ⟨N 2 - 1, by omega⟩; rw [hk, nI_pred]; rfl
  refine ⟨congrArg (fun x => some (Value.int x)) (by show V 132 9 - 1 = V 64 14 - 1; rw [e1, e2]), va_up N 2 (N 2 - 1), B, A, up2 (up2 V 64 14 (V 64 14 - 1)) 132 9 (V 132 9 - 1), tx, cu, rfl, ?_, v2, v3, v4, v5, v6, v7, ⟨v8.1, fun e he => v8.2 e (by have he : e < N 2 - 1 := he; omega)⟩, v9, v10, v11, v12, v13⟩
  exact ⟨⟨s1, s2, s3⟩, ⟨p1, p2, p3⟩, ⟨by show V 64 14 - 1 = nI (N 2 - 1); rw [e1, hp], by show V 132 9 - 1 = nI (N 2 - 1); rw [e2, hp], by show N 2 - 1 ≤ 12; omega⟩, ⟨t1, t2, t3⟩, ⟨l1, l2, l3⟩, ⟨z1, z2, z3⟩⟩
theorem op_force (hd : 60 ≤ d) (a : Int32) : iv_op ro (d + 1) 76 154 [.int a] := by
  intro N B A V tx cu hv
  obtain ⟨v1, v2, v3, v4, v5, v6, v7, v8, v9, v10, v11, v12, v13⟩ := id hv
  obtain ⟨⟨s1, s2, s3⟩, ⟨p1, p2, p3⟩, ⟨e1, e2, e3⟩, ⟨t1, t2, t3⟩, ⟨l1, l2, l3⟩, ⟨z1, z2, z3⟩⟩ := v1
  refine xe_of (co := xk_76) (nl := 3) rfl rfl rfl ?_
  rcases ix a (tx.length + 1) (by omega) with ⟨c, c1⟩ | ⟨c, c1, c2⟩ | ⟨j, hj, rfl⟩
  · refine xw_mxr hd 800 [1] rfl (by simp [xq_al, xq_cmp, c]) ?_
    refine ⟨_, A, V, tx, cu, rfl, rfl, xe_of (co := xk_154) (nl := 3) rfl rfl rfl (xw_mxr hd 800 [1, 0] rfl (by simp [xq_al, xq_cmp, c]) ⟨rfl, N, B, A, V, tx, cu, rfl, hv⟩)⟩
  · refine xw_mxr hd 800 [0, 0] rfl (by simp [xq_al, xq_cmp, c2, t1]; exact c) ?_
    have c3 : nI (tx.length + 1) - 1 < a := Int32.lt_iff_toInt_lt.mpr (by rw [tI1 (by omega)]; omega)
    refine ⟨_, A, V, tx, cu, rfl, rfl, xe_of (co := xk_154) (nl := 3) rfl rfl rfl (xw_mxr hd 800 [0, 1, 0] rfl (by simp [xq_al, xq_cmp, c2, t2, c3]) ⟨rfl, N, B, A, V, tx, cu, rfl, hv⟩)⟩
  · have j0 : ¬ nI j < 0 := nI_pos (by omega)
    have j1 : ¬ nI (tx.length + 1) ≤ nI j := nI_ge hj (by omega)
    have j3 : ¬ nI (tx.length + 1) - 1 < nI j := fun q => by have := Int32.lt_iff_toInt_lt.mp q; rw [tI1 (by omega), tI (by omega)] at this; omega
    refine xw_mxr hd 800 [0, 1] rfl (by simp [xq_al, xq_cmp, j0, t1, fit0]; exact Int32.not_le.mp j1) ?_
    refine ⟨_, A, up2 V 64 16 (nI j), tx, cu, rfl, rfl, xe_of (co := xk_154) (nl := 3) rfl rfl rfl (xw_mxr hd 800 [0, 0, 1] rfl (by simp [xq_al, xq_cmp, up2, va_up, j0, t2, Int32.not_lt.mp j3, fit0]) ?_)⟩
    refine ⟨congrArg (fun x => some (Value.int x)) (l2.trans l1.symm), va_up N 3 j, B, A, up2 (up2 V 64 16 (nI j)) 132 16 (nI j), tx, cu, rfl, ?_, v2, v3, v4, v5, v6, v7, v8, v9, v10, v11, v12, v13⟩
    exact ⟨⟨s1, s2, s3⟩, ⟨p1, p2, p3⟩, ⟨e1, e2, e3⟩, ⟨t1, t2, t3⟩, ⟨rfl, rfl, by show j ≤ _; omega⟩, ⟨z1, z2, z3⟩⟩
theorem op_needs (hd : 60 ≤ d) (a : Int32) : iv_op ro (d + 1) 79 163 [.int a] := by
  intro N B A V tx cu hv
  obtain ⟨v1, v2, v3, v4, v5, v6, v7, v8, v9, v10, v11, v12, v13⟩ := id hv
  obtain ⟨⟨s1, s2, s3⟩, ⟨p1, p2, p3⟩, ⟨e1, e2, e3⟩, ⟨t1, t2, t3⟩, ⟨l1, l2, l3⟩, ⟨z1, z2, z3⟩⟩ := v1
  refine xe_of (co := xk_79) (nl := 2) rfl rfl rfl ?_
  rcases ix a (N 0) (by omega) with ⟨c, c1⟩ | ⟨c, c1, c2⟩ | ⟨j, hj, rfl⟩
  · refine xw_mxr hd 800 [1, 1] rfl (by simp [xq_al, xq_cmp, c]) ?_
    refine ⟨_, A, V, tx, cu, rfl, rfl, xe_of (co := xk_163) (nl := 2) rfl rfl rfl (xw_mxr hd 800 [1, 1] rfl (by simp [xq_al, xq_cmp, c]) ⟨rfl, N, B, A, V, tx, cu, rfl, hv⟩)⟩
  · refine xw_mxr hd 800 [0, 1, 1] rfl (by simp [xq_al, xq_cmp, c2, s1]; exact c) ?_
    have c3 : nI (N 0) - 1 < a := Int32.lt_iff_toInt_lt.mpr (by rw [tI1 (by omega)]; omega)
    refine ⟨_, A, V, tx, cu, rfl, rfl, xe_of (co := xk_163) (nl := 2) rfl rfl rfl (xw_mxr hd 800 [0, 1, 1] rfl (by simp [xq_al, xq_cmp, c2, s2, c3]) ⟨rfl, N, B, A, V, tx, cu, rfl, hv⟩)⟩
  · have j0 : ¬ nI j < 0 := nI_pos (by omega)
    have j1 : ¬ nI (N 0) ≤ nI j := nI_ge hj (by omega)
    have j2 : ¬ (6 : Int32) ≤ nI j := nI_ge (b := 6) (by omega) (by omega)
    have j3 : ¬ nI (N 0) - 1 < nI j := fun q => by have := Int32.lt_iff_toInt_lt.mp q; rw [tI1 (by omega), tI (by omega)] at this; omega
    refine xw_mxr hd 800 [0, 0, 0, 0] rfl (by simp [xq_al, xq_cmp, j0, s1, j1, j2, xin (n := 6) (j := j) (by omega) (by omega)]) ?_
    refine ⟨_, A, V, tx, cu, rfl, rfl, xe_of (co := xk_163) (nl := 2) rfl rfl rfl (xw_mxr hd 800 [0, 0, 0] rfl (by simp [xq_al, xq_cmp, j0, s2, j3, xin (n := 6) (j := j) (by omega) (by omega)]) ⟨?_, N, B, A, V, tx, cu, rfl, hv⟩)⟩
    rw [tC (by omega)]
    exact congrArg (fun x => some (Value.int x)) (v4 j hj).1.symm
theorem op_seat (hd : 60 ≤ d) (r n : Int32) : iv_op ro (d + 1) 72 133 [.int r, .int n] := by
  intro N B A V tx cu hv
  obtain ⟨v1, v2, v3, v4, v5, v6, v7, v8, v9, v10, v11, v12, v13⟩ := id hv
  obtain ⟨⟨s1, s2, s3⟩, ⟨p1, p2, p3⟩, ⟨e1, e2, e3⟩, ⟨t1, t2, t3⟩, ⟨l1, l2, l3⟩, ⟨z1, z2, z3⟩⟩ := v1
  refine xe_of (co := xk_72) (nl := 4) rfl rfl rfl ?_
  rcases ix r 4 (by decide) with ⟨c, c1⟩ | ⟨c, c1, c2⟩ | ⟨j, hj, rfl⟩
  · refine xw_mxr hd 800 [1, 0] rfl (by simp [xq_al, xq_cmp, c]) ?_
    refine ⟨_, A, V, tx, cu, rfl, rfl, xe_of (co := xk_133) (nl := 4) rfl rfl rfl (xw_mxr hd 800 [1, 0] rfl (by simp [xq_al, xq_cmp, c]) ⟨rfl, N, B, A, V, tx, cu, rfl, hv⟩)⟩
  · have c : (4 : Int32) ≤ r := c
    have c3 : (3 : Int32) < r := Int32.lt_iff_toInt_lt.mpr (by simp; omega)
    refine xw_mxr hd 800 [0, 1, 0] rfl (by simp [xq_al, xq_cmp, c, c2]) ?_
    refine ⟨_, A, V, tx, cu, rfl, rfl, xe_of (co := xk_133) (nl := 4) rfl rfl rfl (xw_mxr hd 800 [0, 1, 0] rfl (by simp [xq_al, xq_cmp, c2, c3]) ⟨rfl, N, B, A, V, tx, cu, rfl, hv⟩)⟩
  · have j0 : ¬ nI j < 0 := nI_pos (by omega)
    have j1 : ¬ (4 : Int32) ≤ nI j := nI_ge (b := 4) hj (by omega)
    have j3 : ¬ (3 : Int32) < nI j := nI_nlt (b := j) (a := 3) (by omega) (by omega)
    have j4 := xin (n := 4) hj (by decide)
    rcases sp3 n 1 5 with e | e | e
    · refine xw_mxr hd 800 [0, 0, 1, 1] rfl (by simp [xq_al, xq_cmp, j0, Int32.not_le.mp j1, e]) ?_
      refine ⟨_, A, V, tx, cu, rfl, rfl, xe_of (co := xk_133) (nl := 4) rfl rfl rfl (xw_mxr hd 800 [0, 0, 1, 1, 0] rfl (by simp [xq_al, xq_cmp, j0, j3, e]) ⟨rfl, N, B, A, V, tx, cu, rfl, hv⟩)⟩
    · have e0 : ¬ n < 1 := by grind
      refine xw_mxr hd 800 [0, 0, 1, 0, 0] rfl (by simp [xq_al, xq_cmp, j0, Int32.not_le.mp j1, e, e0]) ?_
      refine ⟨_, A, V, tx, cu, rfl, rfl, xe_of (co := xk_133) (nl := 4) rfl rfl rfl (xw_mxr hd 800 [0, 0, 1, 0, 1, 0] rfl (by simp [xq_al, xq_cmp, j0, j3, e, e0]) ⟨rfl, N, B, A, V, tx, cu, rfl, hv⟩)⟩
    · obtain ⟨m, m1, m5, rfl⟩ := sp_1_5 e
      refine xw_mxr hd 800 [0, 0, 1, 0, 1] rfl (by simp [xq_al, xq_cmp, j0, Int32.not_le.mp j1, e, Int32.not_lt.mp e.2, j4]) ?_
      refine ⟨_, va_up A 100 (upd (A 100) (nI j).toNatClampNeg (nI m)), V, tx, cu, rfl, rfl, xe_of (co := xk_133) (nl := 4) rfl rfl rfl (xw_mxr hd 800 [0, 0, 1, 0, 0, 1] rfl (by simp [xq_al, xq_cmp, j0, j3, e, j4]) ?_)⟩
      rw [tC (n := j) (by omega)]
      refine ⟨congrArg (fun x => some (Value.int x)) ((v3 j hj).2.1.trans (v3 j hj).1.symm), N, va_up B 1 (va_up (B 1) j m), va_up (va_up A 100 (upd (A 100) j (nI m))) 134 (upd (A 134) j (nI m)), V, tx, cu, rfl, ⟨⟨s1, s2, s3⟩, ⟨p1, p2, p3⟩, ⟨e1, e2, e3⟩, ⟨t1, t2, t3⟩, ⟨l1, l2, l3⟩, ⟨z1, z2, z3⟩⟩, v2, fun r hr => ?_, v4, v5, v6, v7, v8, v9, v10, v11, v12, v13⟩
      show upd (A 100) j (nI m) r = nI (va_up (B 1) j m r) ∧ upd (A 134) j (nI m) r = nI (va_up (B 1) j m r) ∧ 1 ≤ va_up (B 1) j m r ∧ va_up (B 1) j m r ≤ 5
      by_cases q : r = j
      · subst q; simp [upd, va_up, m1, m5]
      · have := v3 r hr; simp [upd, va_up, q, this]
theorem op_wall (hd : 60 ≤ d) (q r w : Int32) : iv_op ro (d + 1) 71 132 [.int q, .int r, .int w] := by
  intro N B A V tx cu hv
  obtain ⟨v1, v2, v3, v4, v5, v6, v7, v8, v9, v10, v11, v12, v13⟩ := id hv
  obtain ⟨⟨s1, s2, s3⟩, ⟨p1, p2, p3⟩, ⟨e1, e2, e3⟩, ⟨t1, t2, t3⟩, ⟨l1, l2, l3⟩, ⟨z1, z2, z3⟩⟩ := v1
  refine xe_of (co := xk_71) (nl := 5) rfl rfl rfl ?_
  rcases ix q 4 (by decide) with ⟨c, c1⟩ | ⟨c, c1, c2⟩ | ⟨a, ha, rfl⟩
  · refine xw_mxr hd 800 [1, 1] rfl (by simp [xq_al, xq_cmp, c]) ?_
    refine ⟨_, A, V, tx, cu, rfl, rfl, xe_of (co := xk_132) (nl := 5) rfl rfl rfl (xw_mxr hd 800 [1, 1] rfl (by simp [xq_al, xq_cmp, c]) ⟨rfl, N, B, A, V, tx, cu, rfl, hv⟩)⟩
  · have c : (4 : Int32) ≤ q := c
    have c3 : (3 : Int32) < q := Int32.lt_iff_toInt_lt.mpr (by simp; omega)
    refine xw_mxr hd 800 [0, 1, 1] rfl (by simp [xq_al, xq_cmp, c, c2]) ?_
    refine ⟨_, A, V, tx, cu, rfl, rfl, xe_of (co := xk_132) (nl := 5) rfl rfl rfl (xw_mxr hd 800 [0, 1, 1] rfl (by simp [xq_al, xq_cmp, c2, c3]) ⟨rfl, N, B, A, V, tx, cu, rfl, hv⟩)⟩
  · have a0 : ¬ nI a < 0 := nI_pos (by omega)
    have a1 : nI a < (4 : Int32) := nI_lt (b := 4) ha (by omega)
    have a3 : ¬ (3 : Int32) < nI a := nI_nlt (b := a) (a := 3) (by omega) (by omega)
    have a4 := xin (n := 4) ha (by decide)
    rcases ix r 4 (by decide) with ⟨c, c1⟩ | ⟨c, c1, c2⟩ | ⟨b, hb, rfl⟩
    · refine xw_mxr hd 800 [0, 0, 0, 1, 1] rfl (by simp [xq_al, xq_cmp, a0, a1, c]) ?_
      refine ⟨_, A, V, tx, cu, rfl, rfl, xe_of (co := xk_132) (nl := 5) rfl rfl rfl (xw_mxr hd 800 [0, 0, 0, 1, 1] rfl (by simp [xq_al, xq_cmp, a0, a3, c]) ⟨rfl, N, B, A, V, tx, cu, rfl, hv⟩)⟩
    · have c : (4 : Int32) ≤ r := c
      have c3 : (3 : Int32) < r := Int32.lt_iff_toInt_lt.mpr (by simp; omega)
      refine xw_mxr hd 800 [0, 0, 0, 0, 1, 1] rfl (by simp [xq_al, xq_cmp, a0, a1, c, c2]) ?_
      refine ⟨_, A, V, tx, cu, rfl, rfl, xe_of (co := xk_132) (nl := 5) rfl rfl rfl (xw_mxr hd 800 [0, 0, 0, 0, 1, 1] rfl (by simp [xq_al, xq_cmp, a0, a3, c2, c3]) ⟨rfl, N, B, A, V, tx, cu, rfl, hv⟩)⟩
    · have b0 : ¬ nI b < 0 := nI_pos (by omega)
      have b1 : nI b < (4 : Int32) := nI_lt (b := 4) hb (by omega)
      have b3 : ¬ (3 : Int32) < nI b := nI_nlt (b := b) (a := 3) (by omega) (by omega)
      have b4 := xin (n := 4) hb (by decide)
      by_cases hab : a = b
      · subst hab
        refine xw_mxr hd 800 [0, 0, 0, 0, 0, 0, 0] rfl (by simp [xq_al, xq_cmp, a0, a1]) ?_
        refine ⟨_, A, V, tx, cu, rfl, rfl, xe_of (co := xk_132) (nl := 5) rfl rfl rfl (xw_mxr hd 800 [0, 0, 0, 0, 0, 0, 0] rfl (by simp [xq_al, xq_cmp, a0, a3]) ⟨rfl, N, B, A, V, tx, cu, rfl, hv⟩)⟩
      have hn : ¬ nI a = nI b := fun q => hab ((nI_eq (by omega) (by omega)).mp q)
      rcases sp3 w 0 1 with e | e | e
      · have e1 : ¬ w = 0 := by grind
        have e2 : ¬ w = 1 := by grind
        refine xw_mxr hd 800 [0, 0, 0, 0, 0, 0, 1, 0, 0] rfl (by simp [xq_al, xq_cmp, a0, a1, b0, b1, hn, e1, e2]) ?_
        refine ⟨_, A, V, tx, cu, rfl, rfl, xe_of (co := xk_132) (nl := 5) rfl rfl rfl (xw_mxr hd 800 [0, 0, 0, 0, 0, 0, 1, 1, 0] rfl (by simp [xq_al, xq_cmp, a0, a3, b0, b3, hn, e]) ⟨rfl, N, B, A, V, tx, cu, rfl, hv⟩)⟩
      · have e1 : ¬ w = 0 := by grind
        have e2 : ¬ w = 1 := by grind
        have e3 : ¬ w < 0 := by grind
        refine xw_mxr hd 800 [0, 0, 0, 0, 0, 0, 1, 0, 0] rfl (by simp [xq_al, xq_cmp, a0, a1, b0, b1, hn, e1, e2]) ?_
        refine ⟨_, A, V, tx, cu, rfl, rfl, xe_of (co := xk_132) (nl := 5) rfl rfl rfl (xw_mxr hd 800 [0, 0, 0, 0, 0, 0, 1, 0, 1, 0] rfl (by simp [xq_al, xq_cmp, a0, a3, b0, b3, hn, e, e3]) ⟨rfl, N, B, A, V, tx, cu, rfl, hv⟩)⟩
      obtain ⟨⟨w1, w2⟩, w3, w4⟩ := v2
      have key : ∀ c : Nat, c < 2 → w = nI c → xw ro d xk_71 0 [some (.ref 64), some (.int (nI a)), some (.int (nI b)), some (.int w), none] [] (xh A V tx cu) (fun r h1 => ∃ (x : Int32) (A1 V1 : Nat → Nat → Int32) (tx1 : List xh_T) (cu1 : Value), r = some (.int x) ∧ h1 = xh A1 V1 tx1 cu1 ∧ xe ro (d + 1) 132 [.ref 132, .int (nI a), .int (nI b), .int w] (xh A1 V1 tx1 cu1) (fun r2 h2 => r2 = some (.int x) ∧ ∃ N' B' A' V' tx' cu', h2 = xh A' V' tx' cu' ∧ iv N' B' A' V' tx' cu')) := by
        intro c hc hw
        subst hw
        have ea : (nI a).toNatClampNeg = a := tC (by omega)
        have eb : (nI b).toNatClampNeg = b := tC (by omega)
        have eab : (nI (4 * a + b)).toNatClampNeg = 4 * a + b := tC (by omega)
        have eba : (nI (4 * b + a)).toNatClampNeg = 4 * b + a := tC (by omega)
        have x1 := xin (j := 4 * a + b) (n := 16) (by omega) (by decide)
        have x2 := xin (j := 4 * b + a) (n := 16) (by omega) (by decide)
        obtain ⟨k1, k2, k3⟩ := stb_i (B 0 a) (w1 a ha).1 b hb c hc
        obtain ⟨k4, k5, k6⟩ := stb_i (B 0 b) (w1 b hb).1 a ha c hc
        have fin : ∀ r2 : Option Value, r2 = some (.int (A 133 ((4 : Int32) * nI a + nI b).toNatClampNeg)) → (r2 = some (.int ((A 99 (nI a).toNatClampNeg >>> (nI b &&& 31)) &&& 1)) ∧ iv N (va_up B 0 (va_up (va_up (B 0) a (stb (B 0 a) b c)) b (stb (B 0 b) a c))) (va_up (va_up A 99 (upd (upd (A 99) (nI a).toNatClampNeg (A 99 (nI a).toNatClampNeg &&& ((1 : Int32) <<< (nI b &&& 31) ^^^ (-1)) ||| nI c <<< (nI b &&& 31))) (nI b).toNatClampNeg ((upd (A 99) (nI a).toNatClampNeg (A 99 (nI a).toNatClampNeg &&& ((1 : Int32) <<< (nI b &&& 31) ^^^ (-1)) ||| nI c <<< (nI b &&& 31))) (nI b).toNatClampNeg &&& ((1 : Int32) <<< (nI a &&& 31) ^^^ (-1)) ||| nI c <<< (nI a &&& 31)))) 133 (upd (upd (A 133) ((4 : Int32) * nI a + nI b).toNatClampNeg (nI c)) ((4 : Int32) * nI b + nI a).toNatClampNeg (nI c))) V tx cu) := by
          simp only [i4, ea, eb, eab, eba]
          intro r2 h2
          refine ⟨by rw [h2, w4 a b ha hb, w3 a ha, k2], ⟨⟨s1, s2, s3⟩, ⟨p1, p2, p3⟩, ⟨e1, e2, e3⟩, ⟨t1, t2, t3⟩, ⟨l1, l2, l3⟩, ⟨z1, z2, z3⟩⟩, ⟨⟨fun q hq => ?_, fun q r hq hr => ?_⟩, fun q hq => ?_, fun q r hq hr => ?_⟩, v3, v4, v5, v6, v7, v8, v9, v10, v11, v12, v13⟩
          · show va_up (va_up (B 0) a (stb (B 0 a) b c)) b (stb (B 0 b) a c) q < 16 ∧ va_up (va_up (B 0) a (stb (B 0 a) b c)) b (stb (B 0 b) a c) q / 2 ^ q % 2 = 0
            by_cases qb : q = b
            · subst qb; rw [va_up_self, stb_b (B 0 q) (w1 q hq).1 a ha c hc q hq, if_neg (fun z => hab z.symm)]; exact ⟨k6, (w1 q hq).2⟩
            · by_cases qa : q = a
              · subst qa; simp only [va_up, if_neg qb, if_true]; rw [stb_b (B 0 q) (w1 q hq).1 b hb c hc q hq, if_neg qb]; exact ⟨k3, (w1 q hq).2⟩
              · simp only [va_up, if_neg qb, if_neg qa]; exact w1 q hq
          · show va_up (va_up (B 0) a (stb (B 0 a) b c)) b (stb (B 0 b) a c) q / 2 ^ r % 2 = va_up (va_up (B 0) a (stb (B 0 a) b c)) b (stb (B 0 b) a c) r / 2 ^ q % 2
            have bit : ∀ q r, q < 4 → r < 4 → va_up (va_up (B 0) a (stb (B 0 a) b c)) b (stb (B 0 b) a c) q / 2 ^ r % 2 = if (q = a ∧ r = b) ∨ (q = b ∧ r = a) then c else B 0 q / 2 ^ r % 2 := by
              intro q r hq hr
              by_cases qb : q = b
              · subst qb; rw [va_up_self, stb_b (B 0 q) (w1 q hq).1 a ha c hc r hr]; have hba : ¬ q = a := fun z => hab z.symm; by_cases ra : r = a <;> simp [ra, hba, hab]
              · by_cases qa : q = a
                · subst qa; simp only [va_up, if_neg qb, if_true]; rw [stb_b (B 0 q) (w1 q hq).1 b hb c hc r hr]; by_cases rb : r = b <;> simp [rb, qb]
                · simp only [va_up, if_neg qb, if_neg qa]; simp [qa, qb]
            rw [bit q r hq hr, bit r q hr hq, w2 q r hq hr]
            have : ((q = a ∧ r = b) ∨ (q = b ∧ r = a)) ↔ ((r = a ∧ q = b) ∨ (r = b ∧ q = a)) := by constructor <;> (intro z; rcases z with ⟨z1, z2⟩ | ⟨z1, z2⟩ <;> simp [z1, z2])
            simp only [this]
          · show upd (upd (A 99) a _) b _ q = nI (va_up (va_up (B 0) a (stb (B 0 a) b c)) b (stb (B 0 b) a c) q)
            by_cases qb : q = b
            · subst qb; rw [pk_us, va_up_self, pk_un (fun z => hab z.symm), w3 q hq, k4]
            · rw [pk_un qb]; by_cases qa : q = a
              · subst qa; rw [pk_us, w3 q hq, k1]; simp only [va_up, if_neg qb, if_true]
              · rw [pk_un qa, w3 q hq]; simp only [va_up, if_neg qb, if_neg qa]
          · show upd (upd (A 133) (4 * a + b) (nI c)) (4 * b + a) (nI c) (4 * q + r) = nI (va_up (va_up (B 0) a (stb (B 0 a) b c)) b (stb (B 0 b) a c) q / 2 ^ r % 2)
            by_cases z1 : q = b ∧ r = a
            · obtain ⟨rfl, rfl⟩ := z1; rw [pk_us, va_up_self, stb_b (B 0 q) (w1 q hq).1 r hr c hc r hr, if_pos rfl]
            · rw [pk_un (by omega)]
              by_cases z2 : q = a ∧ r = b
              · obtain ⟨rfl, rfl⟩ := z2; rw [pk_us]; simp only [va_up, if_neg hab, if_true]; rw [stb_b (B 0 q) (w1 q hq).1 r hr c hc r hr, if_pos rfl]
              · rw [pk_un (by omega), w4 q r hq hr]
                by_cases qb : q = b
                · subst qb; rw [va_up_self, stb_b (B 0 q) (w1 q hq).1 a ha c hc r hr, if_neg (fun z => z1 ⟨rfl, z⟩)]
                · by_cases qa : q = a
                  · subst qa; simp only [va_up, if_neg qb, if_true]; rw [stb_b (B 0 q) (w1 q hq).1 b hb c hc r hr, if_neg (fun z => z2 ⟨rfl, z⟩)]
                  · simp only [va_up, if_neg qb, if_neg qa]
        rcases (show c = 0 ∨ c = 1 by omega) with rfl | rfl
        · refine xw_mxr hd 800 [0, 0, 0, 0, 0, 0, 1, 1] rfl (by simp [xq_al, xq_cmp, a0, a1, b0, b1, hn, a4, b4]; decide) ?_
          exact ⟨_, va_up A 99 (upd (upd (A 99) (nI a).toNatClampNeg (A 99 (nI a).toNatClampNeg &&& ((1 : Int32) <<< (nI b &&& 31) ^^^ (-1)) ||| nI 0 <<< (nI b &&& 31))) (nI b).toNatClampNeg ((upd (A 99) (nI a).toNatClampNeg (A 99 (nI a).toNatClampNeg &&& ((1 : Int32) <<< (nI b &&& 31) ^^^ (-1)) ||| nI 0 <<< (nI b &&& 31))) (nI b).toNatClampNeg &&& ((1 : Int32) <<< (nI a &&& 31) ^^^ (-1)) ||| nI 0 <<< (nI a &&& 31))), V, tx, cu, rfl, rfl, xe_of (co := xk_132) (nl := 5) rfl rfl rfl (xw_mxr hd 800 [0, 0, 0, 0, 0, 0, 1, 0, 0, 1] rfl (by simp [xq_al, xq_cmp, a0, a3, b0, b3, hn, i4, x1, x2]; decide) ⟨(fin _ rfl).1, N, va_up B 0 (va_up (va_up (B 0) a (stb (B 0 a) b 0)) b (stb (B 0 b) a 0)), va_up (va_up A 99 (upd (upd (A 99) (nI a).toNatClampNeg (A 99 (nI a).toNatClampNeg &&& ((1 : Int32) <<< (nI b &&& 31) ^^^ (-1)) ||| nI 0 <<< (nI b &&& 31))) (nI b).toNatClampNeg ((upd (A 99) (nI a).toNatClampNeg (A 99 (nI a).toNatClampNeg &&& ((1 : Int32) <<< (nI b &&& 31) ^^^ (-1)) ||| nI 0 <<< (nI b &&& 31))) (nI b).toNatClampNeg &&& ((1 : Int32) <<< (nI a &&& 31) ^^^ (-1)) ||| nI 0 <<< (nI a &&& 31)))) 133 (upd (upd (A 133) ((4 : Int32) * nI a + nI b).toNatClampNeg (nI 0)) ((4 : Int32) * nI b + nI a).toNatClampNeg (nI 0)), V, tx, cu, by simp only [i4, ea, eb, eab, eba]; rfl, (fin _ rfl).2⟩)⟩
        · refine xw_mxr hd 800 [0, 0, 0, 0, 0, 0, 1, 0, 1] rfl (by simp [xq_al, xq_cmp, a0, a1, b0, b1, hn, a4, b4]; decide) ?_
          exact ⟨_, va_up A 99 (upd (upd (A 99) (nI a).toNatClampNeg (A 99 (nI a).toNatClampNeg &&& ((1 : Int32) <<< (nI b &&& 31) ^^^ (-1)) ||| nI 1 <<< (nI b &&& 31))) (nI b).toNatClampNeg ((upd (A 99) (nI a).toNatClampNeg (A 99 (nI a).toNatClampNeg &&& ((1 : Int32) <<< (nI b &&& 31) ^^^ (-1)) ||| nI 1 <<< (nI b &&& 31))) (nI b).toNatClampNeg &&& ((1 : Int32) <<< (nI a &&& 31) ^^^ (-1)) ||| nI 1 <<< (nI a &&& 31))), V, tx, cu, rfl, rfl, xe_of (co := xk_132) (nl := 5) rfl rfl rfl (xw_mxr hd 800 [0, 0, 0, 0, 0, 0, 1, 0, 0, 1] rfl (by simp [xq_al, xq_cmp, a0, a3, b0, b3, hn, i4, x1, x2]; decide) ⟨(fin _ rfl).1, N, va_up B 0 (va_up (va_up (B 0) a (stb (B 0 a) b 1)) b (stb (B 0 b) a 1)), va_up (va_up A 99 (upd (upd (A 99) (nI a).toNatClampNeg (A 99 (nI a).toNatClampNeg &&& ((1 : Int32) <<< (nI b &&& 31) ^^^ (-1)) ||| nI 1 <<< (nI b &&& 31))) (nI b).toNatClampNeg ((upd (A 99) (nI a).toNatClampNeg (A 99 (nI a).toNatClampNeg &&& ((1 : Int32) <<< (nI b &&& 31) ^^^ (-1)) ||| nI 1 <<< (nI b &&& 31))) (nI b).toNatClampNeg &&& ((1 : Int32) <<< (nI a &&& 31) ^^^ (-1)) ||| nI 1 <<< (nI a &&& 31)))) 133 (upd (upd (A 133) ((4 : Int32) * nI a + nI b).toNatClampNeg (nI 1)) ((4 : Int32) * nI b + nI a).toNatClampNeg (nI 1)), V, tx, cu, by simp only [i4, ea, eb, eab, eba]; rfl, (fin _ rfl).2⟩)⟩
      rcases sp_0_1 e with rfl | rfl
      · exact key 0 (by decide) rfl
      · exact key 1 (by decide) rfl
end OPS
