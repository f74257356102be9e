/-! THE LAW'S LOOP out of the forty calls. -/
def iv_opl (ro : Nat → Option xq_C) (d kc km : Nat) (as : List Value) : Prop := ∀ N B A V tx cu, iv N B A V tx cu → xe ro d kc (.ref 64 :: as) (xh A V tx cu) (fun r h1 => ∃ (x : Int64) (A1 V1 : Nat → Nat → Int32) (tx1 : List xh_T) (cu1 : Value), r = some (.long x) ∧ h1 = xh A1 V1 tx1 cu1 ∧ xe ro d km (.ref 132 :: as) (xh A1 V1 tx1 cu1) (fun r2 h2 => r2 = some (.long x) ∧ ∃ N' B' A' V' tx' cu', h2 = xh A' V' tx' cu' ∧ iv N' B' A' V' tx' cu'))
def iv_ops (ro : Nat → Option xq_C) (d : Nat) : Prop := (∀ a0 a1 a2 : Int32, iv_op ro d 71 132 [.int a0, .int a1, .int a2]) ∧ (∀ a0 a1 : Int32, iv_op ro d 72 133 [.int a0, .int a1]) ∧ (∀ a0 : Int32, iv_op ro d 73 134 [.int a0]) ∧ (∀ a0 a1 a2 a3 a4 a5 : Int32, iv_op ro d 74 136 [.int a0, .int a1, .int a2, .int a3, .int a4, .int a5]) ∧ (iv_op ro d 75 153 []) ∧ (∀ a0 : Int32, iv_op ro d 76 154 [.int a0]) ∧ (∀ a0 a1 a2 a3 : Int32, iv_op ro d 77 158 [.int a0, .int a1, .int a2, .int a3]) ∧ (∀ a0 : Int32, iv_op ro d 78 162 [.int a0]) ∧ (∀ a0 : Int32, iv_op ro d 79 163 [.int a0]) ∧ (∀ a0 a1 a2 : Int32, iv_op ro d 80 164 [.int a0, .int a1, .int a2]) ∧ (∀ a0 a1 a2 : Int32, iv_op ro d 81 165 [.int a0, .int a1, .int a2]) ∧ (∀ a0 a1 : Int32, iv_op ro d 82 166 [.int a0, .int a1]) ∧ (∀ a0 a1 a2 : Int32, iv_op ro d 83 174 [.int a0, .int a1, .int a2]) ∧ (iv_op ro d 84 175 []) ∧ (∀ a0 a1 : Int32, iv_op ro d 85 176 [.int a0, .int a1]) ∧ (∀ a0 a1 a2 : Int32, iv_op ro d 86 177 [.int a0, .int a1, .int a2]) ∧ (∀ a0 a1 a2 : Int32, iv_op ro d 87 179 [.int a0, .int a1, .int a2]) ∧ (iv_op ro d 88 180 []) ∧ (iv_op ro d 89 181 []) ∧ (∀ a0 a1 : Int32, iv_op ro d 90 183 [.int a0, .int a1]) ∧ (∀ a0 a1 a2 : Int32, iv_op ro d 91 184 [.int a0, .int a1, .int a2]) ∧ (∀ a0 a1 a2 : Int32, iv_op ro d 92 185 [.int a0, .int a1, .int a2]) ∧ (∀ a0 a1 : Int32, iv_op ro d 93 186 [.int a0, .int a1]) ∧ (∀ a0 a1 a2 a3 a4 : Int32, iv_op ro d 94 193 [.int a0, .int a1, .int a2, .int a3, .int a4]) ∧ (∀ a0 a1 a2 a3 : Int32, iv_op ro d 95 194 [.int a0, .int a1, .int a2, .int a3]) ∧ (∀ a0 a1 a2 : Int32, iv_op ro d 96 195 [.int a0, .int a1, .int a2]) ∧ (∀ a0 a1 : Int32, iv_op ro d 97 196 [.int a0, .int a1]) ∧ (∀ a0 a1 a2 a3 : Int32, iv_op ro d 98 197 [.int a0, .int a1, .int a2, .int a3]) ∧ (∀ a0 a1 : Int32, iv_opl ro d 99 199 [.int a0, .int a1]) ∧ (∀ a0 a1 : Int32, iv_op ro d 100 200 [.int a0, .int a1]) ∧ (iv_op ro d 101 201 []) ∧ (∀ a0 a1 a2 a3 : Int32, iv_op ro d 102 204 [.int a0, .int a1, .int a2, .int a3]) ∧ (∀ a0 a1 a2 a3 a4 : Int32, iv_opl ro d 103 206 [.int a0, .int a1, .int a2, .int a3, .int a4]) ∧ (iv_op ro d 104 208 []) ∧ (iv_op ro d 105 209 []) ∧ (∀ a0 a1 a2 : Int32, iv_op ro d 106 211 [.int a0, .int a1, .int a2]) ∧ (∀ a0 a1 a2 : Int32, iv_op ro d 107 212 [.int a0, .int a1, .int a2]) ∧ (∀ a0 a1 a2 a3 a4 : Int32, iv_op ro d 108 213 [.int a0, .int a1, .int a2, .int a3, .int a4]) ∧ (∀ a0 a1 a2 a3 : Int32, iv_op ro d 109 214 [.int a0, .int a1, .int a2, .int a3]) ∧ (∀ a0 a1 : Int32, iv_op ro d 110 215 [.int a0, .int a1])
theorem lw_cond {i L : Nat} (hL : L ≤ 448) : (nI i > Int32.ofNat L - 7 → i ≤ 448 → L < i + 7) ∧ (¬ nI i > Int32.ofNat L - 7 → i ≤ 448 → i + 7 ≤ L) := by
  have h1 : (Int32.ofNat L - 7).toInt = (L : Int) - 7 := by
    have : Int32.ofNat L - 7 = nI L - nI 7 := rfl
    rw [this, pk_sub_toInt (by omega) (by omega)]
    rfl
  constructor
  · intro h hi
    have := Int32.lt_iff_toInt_lt.mp h
    rw [h1, nI_toInt (by omega)] at this
    omega
  · intro h hi
    have := Int32.le_iff_toInt_le.mp (Int32.not_lt.mp h)
    rw [h1, nI_toInt (by omega)] at this
    omega
theorem lw_in {i k L : Nat} (h : i + k < L) (hL : L ≤ 448) : xq_in (nI i + nI k) L = true := by
  rw [nI_add]
  unfold xq_in
  rw [decide_eq_false (nI_pos (by omega)), nI_clamp (by omega)]
  exact Nat.blt_eq.mpr h
theorem lw_in0 {i L : Nat} (h : i < L) (hL : L ≤ 448) : xq_in (nI i) L = true := by
  unfold xq_in
  rw [decide_eq_false (nI_pos (by omega)), nI_clamp (by omega)]
  exact Nat.blt_eq.mpr h
/-- the places and cells of a village -/
theorem xh_len (A V : Nat → Nat → Int32) (tx : List xh_T) (cu : Value) : (xh A V tx cu).length = 100 + 2 * tx.length := by
  have : ∀ (tx : List xh_T) (a : Nat), (xh_tx a tx).length = 2 * tx.length := by
    intro tx
    induction tx with
    | nil => intro a; rfl
    | cons q t ih =>
      intro a
      obtain ⟨n, f, l, w⟩ := q
      rw [xh_tx, List.length_cons, List.length_cons, ih, List.length_cons]
      omega
  have h2 := this tx 164
  show (xh_tx 164 tx).length + 100 = _
  omega
set_option maxRecDepth 20000 in
set_option maxHeartbeats 4000000 in
theorem law_loop {L : Nat} {xs : Nat → Int32} (hL : L ≤ 448) (d : Nat) (hd : 60 ≤ d) (H : iv_ops (xk_ro L xs) d) : ∀ (m i : Nat), L < i + m → i ≤ L → ∀ N B A V tx cu, iv N B A V tx cu → xw (xk_ro L xs) d xk_L 18 [some (.ref 0), some (.ref 64), some (.ref 132), some (.int (nI i))] [] (xh A V tx cu) (fun r h' => r = some (.int 1) ∧ ∃ N' B' A' V' tx' cu', h' = xh A' V' tx' cu' ∧ iv N' B' A' V' tx' cu') := by
  intro m
  induction m with
  | zero => intro i h1 h2; omega
  | succ m ih =>
    intro i h1 h2 N B A V tx cu hv
    by_cases hc : nI i > Int32.ofNat L - 7
    · exact xw_mxr hd 20 [1] rfl (by simp [xq_al, xq_cmp]; exact hc) ⟨rfl, N, B, A, V, tx, cu, rfl, hv⟩
    have h7 : i + 7 ≤ L := (lw_cond hL).2 hc (by omega)
    have q0 : xq_in (nI i) L = true := lw_in0 (by omega) hL
    have q1 : xq_in (nI i + 1) L = true := lw_in (k := 1) (by omega) hL
    have q2 : xq_in (nI i + 2) L = true := lw_in (k := 2) (by omega) hL
    have q3 : xq_in (nI i + 3) L = true := lw_in (k := 3) (by omega) hL
    have q4 : xq_in (nI i + 4) L = true := lw_in (k := 4) (by omega) hL
    have q5 : xq_in (nI i + 5) L = true := lw_in (k := 5) (by omega) hL
    have q6 : xq_in (nI i + 6) L = true := lw_in (k := 6) (by omega) hL
    have hgt : xq_cmp .gt (nI i) (Int32.ofNat L - 7) = false := decide_eq_false hc
    have go : ∀ N B A V tx cu, iv N B A V tx cu → xw (xk_ro L xs) d xk_L 1692 [some (.ref 0), some (.ref 64), some (.ref 132), some (.int (nI i))] [] (xh A V tx cu) (fun r h' => r = some (.int 1) ∧ ∃ N' B' A' V' tx' cu', h' = xh A' V' tx' cu' ∧ iv N' B' A' V' tx' cu') := by
      intro N B A V tx cu hv
      refine xw_mx hd 2 [] rfl trivial ?_
      have e7 : nI i + Int32.ofInt 7 = nI (i + 7) := nI_add i 7
      have := ih (i + 7) (by omega) (by omega) N B A V tx cu hv
      rw [← e7] at this
      exact this
    by_cases hout : (xs (nI i).toNatClampNeg &&& 63).toInt < 0 ∨ 39 < (xs (nI i).toNatClampNeg &&& 63).toInt
    · refine xw_mx hd 12 [0, 0] rfl (by simp [xq_al, hgt, q0, hout]) ?_
      exact go N B A V tx cu hv
    have hn : ¬ (xs (nI i).toNatClampNeg &&& 63).toInt < 0 ∧ ¬ 39 < (xs (nI i).toNatClampNeg &&& 63).toInt := ⟨fun q => hout (Or.inl q), fun q => hout (Or.inr q)⟩
    obtain ⟨c, hc40, hcc⟩ : ∃ c : Nat, c < 40 ∧ (xs (nI i).toNatClampNeg &&& 63).toInt = (c : Int) := ⟨(xs (nI i).toNatClampNeg &&& 63).toInt.toNat, by omega, by omega⟩
    obtain ⟨h0, h1, h2, h3, h4, h5, h6, h7, h8, h9, h10, h11, h12, h13, h14, h15, h16, h17, h18, h19, h20, h21, h22, h23, h24, h25, h26, h27, h28, h29, h30, h31, h32, h33, h34, h35, h36, h37, h38, h39⟩ := H
    match c, hc40, hcc with
    | 0, _, hcc =>
      refine xw_mx hd 28 [0, 1] rfl (by simp [xq_al, hgt, q0, hcc, q1, q2, q3]) ?_
      refine xw_call (k := 71) (j := 4) rfl (fun F => rfl) rfl rfl rfl (h0 (xs (nI i + 1).toNatClampNeg) (xs (nI i + 2).toNatClampNeg) (xs (nI i + 3).toNatClampNeg) N B A V tx cu hv) ?_
      rintro r h1 ⟨x, A1, V1, tx1, cu1, rfl, rfl, hx⟩
      refine xw_mx hd 16 [] rfl (by simp [xq_al, q1, q2, q3]) ?_
      refine xw_call (k := 132) (j := 4) rfl (fun F => rfl) rfl rfl rfl hx ?_
      rintro r2 h2 ⟨rfl, N', B', A', V', tx', cu', rfl, hv'⟩
      refine xw_mx hd 1 [1] rfl (by simp [xq_al, xq_cmp]) ?_
      exact go N' B' A' V' tx' cu' hv'
    | 1, _, hcc =>
      refine xw_mx hd 23 [0, 2] rfl (by simp [xq_al, hgt, q0, hcc, q1, q2]) ?_
      refine xw_call (k := 72) (j := 3) rfl (fun F => rfl) rfl rfl rfl (h1 (xs (nI i + 1).toNatClampNeg) (xs (nI i + 2).toNatClampNeg) N B A V tx cu hv) ?_
      rintro r h1 ⟨x, A1, V1, tx1, cu1, rfl, rfl, hx⟩
      refine xw_mx hd 11 [] rfl (by simp [xq_al, q1, q2]) ?_
      refine xw_call (k := 133) (j := 3) rfl (fun F => rfl) rfl rfl rfl hx ?_
      rintro r2 h2 ⟨rfl, N', B', A', V', tx', cu', rfl, hv'⟩
      refine xw_mx hd 1 [1] rfl (by simp [xq_al, xq_cmp]) ?_
      exact go N' B' A' V' tx' cu' hv'
    | 2, _, hcc =>
      refine xw_mx hd 18 [0, 3] rfl (by simp [xq_al, hgt, q0, hcc, q1]) ?_
      refine xw_call (k := 73) (j := 2) rfl (fun F => rfl) rfl rfl rfl (h2 (xs (nI i + 1).toNatClampNeg) N B A V tx cu hv) ?_
      rintro r h1 ⟨x, A1, V1, tx1, cu1, rfl, rfl, hx⟩
      refine xw_mx hd 6 [] rfl (by simp [xq_al, q1]) ?_
      refine xw_call (k := 134) (j := 2) rfl (fun F => rfl) rfl rfl rfl hx ?_
      rintro r2 h2 ⟨rfl, N', B', A', V', tx', cu', rfl, hv'⟩
      refine xw_mx hd 1 [1] rfl (by simp [xq_al, xq_cmp]) ?_
      exact go N' B' A' V' tx' cu' hv'
    | 3, _, hcc =>
      refine xw_mx hd 43 [0, 4] rfl (by simp [xq_al, hgt, q0, hcc, q1, q2, q3, q4, q5, q6]) ?_
      refine xw_call (k := 74) (j := 7) rfl (fun F => rfl) rfl rfl rfl (h3 (xs (nI i + 1).toNatClampNeg) (xs (nI i + 2).toNatClampNeg) (xs (nI i + 3).toNatClampNeg) (xs (nI i + 4).toNatClampNeg) (xs (nI i + 5).toNatClampNeg) (xs (nI i + 6).toNatClampNeg) N B A V tx cu hv) ?_
      rintro r h1 ⟨x, A1, V1, tx1, cu1, rfl, rfl, hx⟩
      refine xw_mx hd 31 [] rfl (by simp [xq_al, q1, q2, q3, q4, q5, q6]) ?_
      refine xw_call (k := 136) (j := 7) rfl (fun F => rfl) rfl rfl rfl hx ?_
      rintro r2 h2 ⟨rfl, N', B', A', V', tx', cu', rfl, hv'⟩
      refine xw_mx hd 1 [1] rfl (by simp [xq_al, xq_cmp]) ?_
      exact go N' B' A' V' tx' cu' hv'
    | 4, _, hcc =>
      refine xw_mx hd 13 [0, 5] rfl (by simp [xq_al, hgt, q0, hcc]) ?_
      refine xw_call (k := 75) (j := 1) rfl (fun F => rfl) rfl rfl rfl (h4  N B A V tx cu hv) ?_
      rintro r h1 ⟨x, A1, V1, tx1, cu1, rfl, rfl, hx⟩
      refine xw_mx hd 1 [] rfl trivial ?_
      refine xw_call (k := 153) (j := 1) rfl (fun F => rfl) rfl rfl rfl hx ?_
      rintro r2 h2 ⟨rfl, N', B', A', V', tx', cu', rfl, hv'⟩
      refine xw_mx hd 1 [1] rfl (by simp [xq_al, xq_cmp]) ?_
      exact go N' B' A' V' tx' cu' hv'
    | 5, _, hcc =>
      refine xw_mx hd 18 [0, 6] rfl (by simp [xq_al, hgt, q0, hcc, q1]) ?_
      refine xw_call (k := 76) (j := 2) rfl (fun F => rfl) rfl rfl rfl (h5 (xs (nI i + 1).toNatClampNeg) N B A V tx cu hv) ?_
      rintro r h1 ⟨x, A1, V1, tx1, cu1, rfl, rfl, hx⟩
      refine xw_mx hd 6 [] rfl (by simp [xq_al, q1]) ?_
      refine xw_call (k := 154) (j := 2) rfl (fun F => rfl) rfl rfl rfl hx ?_
      rintro r2 h2 ⟨rfl, N', B', A', V', tx', cu', rfl, hv'⟩
      refine xw_mx hd 1 [1] rfl (by simp [xq_al, xq_cmp]) ?_
      exact go N' B' A' V' tx' cu' hv'
    | 6, _, hcc =>
      refine xw_mx hd 33 [0, 7] rfl (by simp [xq_al, hgt, q0, hcc, q1, q2, q3, q4]) ?_
      refine xw_call (k := 77) (j := 5) rfl (fun F => rfl) rfl rfl rfl (h6 (xs (nI i + 1).toNatClampNeg) (xs (nI i + 2).toNatClampNeg) (xs (nI i + 3).toNatClampNeg) (xs (nI i + 4).toNatClampNeg) N B A V tx cu hv) ?_
      rintro r h1 ⟨x, A1, V1, tx1, cu1, rfl, rfl, hx⟩
      refine xw_mx hd 21 [] rfl (by simp [xq_al, q1, q2, q3, q4]) ?_
      refine xw_call (k := 158) (j := 5) rfl (fun F => rfl) rfl rfl rfl hx ?_
      rintro r2 h2 ⟨rfl, N', B', A', V', tx', cu', rfl, hv'⟩
      refine xw_mx hd 1 [1] rfl (by simp [xq_al, xq_cmp]) ?_
      exact go N' B' A' V' tx' cu' hv'
    | 7, _, hcc =>
      refine xw_mx hd 18 [0, 8] rfl (by simp [xq_al, hgt, q0, hcc, q1]) ?_
      refine xw_call (k := 78) (j := 2) rfl (fun F => rfl) rfl rfl rfl (h7 (xs (nI i + 1).toNatClampNeg) N B A V tx cu hv) ?_
      rintro r h1 ⟨x, A1, V1, tx1, cu1, rfl, rfl, hx⟩
      refine xw_mx hd 6 [] rfl (by simp [xq_al, q1]) ?_
      refine xw_call (k := 162) (j := 2) rfl (fun F => rfl) rfl rfl rfl hx ?_
      rintro r2 h2 ⟨rfl, N', B', A', V', tx', cu', rfl, hv'⟩
      refine xw_mx hd 1 [1] rfl (by simp [xq_al, xq_cmp]) ?_
      exact go N' B' A' V' tx' cu' hv'
    | 8, _, hcc =>
      refine xw_mx hd 18 [0, 9] rfl (by simp [xq_al, hgt, q0, hcc, q1]) ?_
      refine xw_call (k := 79) (j := 2) rfl (fun F => rfl) rfl rfl rfl (h8 (xs (nI i + 1).toNatClampNeg) N B A V tx cu hv) ?_
      rintro r h1 ⟨x, A1, V1, tx1, cu1, rfl, rfl, hx⟩
      refine xw_mx hd 6 [] rfl (by simp [xq_al, q1]) ?_
      refine xw_call (k := 163) (j := 2) rfl (fun F => rfl) rfl rfl rfl hx ?_
      rintro r2 h2 ⟨rfl, N', B', A', V', tx', cu', rfl, hv'⟩
      refine xw_mx hd 1 [1] rfl (by simp [xq_al, xq_cmp]) ?_
      exact go N' B' A' V' tx' cu' hv'
    | 9, _, hcc =>
      refine xw_mx hd 28 [0, 10] rfl (by simp [xq_al, hgt, q0, hcc, q1, q2, q3]) ?_
      refine xw_call (k := 80) (j := 4) rfl (fun F => rfl) rfl rfl rfl (h9 (xs (nI i + 1).toNatClampNeg) (xs (nI i + 2).toNatClampNeg) (xs (nI i + 3).toNatClampNeg) N B A V tx cu hv) ?_
      rintro r h1 ⟨x, A1, V1, tx1, cu1, rfl, rfl, hx⟩
      refine xw_mx hd 16 [] rfl (by simp [xq_al, q1, q2, q3]) ?_
      refine xw_call (k := 164) (j := 4) rfl (fun F => rfl) rfl rfl rfl hx ?_
      rintro r2 h2 ⟨rfl, N', B', A', V', tx', cu', rfl, hv'⟩
      refine xw_mx hd 1 [1] rfl (by simp [xq_al, xq_cmp]) ?_
      exact go N' B' A' V' tx' cu' hv'
    | 10, _, hcc =>
      refine xw_mx hd 28 [0, 11] rfl (by simp [xq_al, hgt, q0, hcc, q1, q2, q3]) ?_
      refine xw_call (k := 81) (j := 4) rfl (fun F => rfl) rfl rfl rfl (h10 (xs (nI i + 1).toNatClampNeg) (xs (nI i + 2).toNatClampNeg) (xs (nI i + 3).toNatClampNeg) N B A V tx cu hv) ?_
      rintro r h1 ⟨x, A1, V1, tx1, cu1, rfl, rfl, hx⟩
      refine xw_mx hd 16 [] rfl (by simp [xq_al, q1, q2, q3]) ?_
      refine xw_call (k := 165) (j := 4) rfl (fun F => rfl) rfl rfl rfl hx ?_
      rintro r2 h2 ⟨rfl, N', B', A', V', tx', cu', rfl, hv'⟩
      refine xw_mx hd 1 [1] rfl (by simp [xq_al, xq_cmp]) ?_
      exact go N' B' A' V' tx' cu' hv'
    | 11, _, hcc =>
      refine xw_mx hd 23 [0, 12] rfl (by simp [xq_al, hgt, q0, hcc, q1, q2]) ?_
      refine xw_call (k := 82) (j := 3) rfl (fun F => rfl) rfl rfl rfl (h11 (xs (nI i + 1).toNatClampNeg) (xs (nI i + 2).toNatClampNeg) N B A V tx cu hv) ?_
      rintro r h1 ⟨x, A1, V1, tx1, cu1, rfl, rfl, hx⟩
      refine xw_mx hd 11 [] rfl (by simp [xq_al, q1, q2]) ?_
      refine xw_call (k := 166) (j := 3) rfl (fun F => rfl) rfl rfl rfl hx ?_
      rintro r2 h2 ⟨rfl, N', B', A', V', tx', cu', rfl, hv'⟩
      refine xw_mx hd 1 [1] rfl (by simp [xq_al, xq_cmp]) ?_
      exact go N' B' A' V' tx' cu' hv'
    | 12, _, hcc =>
      refine xw_mx hd 28 [0, 13] rfl (by simp [xq_al, hgt, q0, hcc, q1, q2, q3]) ?_
      refine xw_call (k := 83) (j := 4) rfl (fun F => rfl) rfl rfl rfl (h12 (xs (nI i + 1).toNatClampNeg) (xs (nI i + 2).toNatClampNeg) (xs (nI i + 3).toNatClampNeg) N B A V tx cu hv) ?_
      rintro r h1 ⟨x, A1, V1, tx1, cu1, rfl, rfl, hx⟩
      refine xw_mx hd 16 [] rfl (by simp [xq_al, q1, q2, q3]) ?_
      refine xw_call (k := 174) (j := 4) rfl (fun F => rfl) rfl rfl rfl hx ?_
      rintro r2 h2 ⟨rfl, N', B', A', V', tx', cu', rfl, hv'⟩
      refine xw_mx hd 1 [1] rfl (by simp [xq_al, xq_cmp]) ?_
      exact go N' B' A' V' tx' cu' hv'
    | 13, _, hcc =>
      refine xw_mx hd 13 [0, 14] rfl (by simp [xq_al, hgt, q0, hcc]) ?_
      refine xw_call (k := 84) (j := 1) rfl (fun F => rfl) rfl rfl rfl (h13  N B A V tx cu hv) ?_
      rintro r h1 ⟨x, A1, V1, tx1, cu1, rfl, rfl, hx⟩
      refine xw_mx hd 1 [] rfl trivial ?_
      refine xw_call (k := 175) (j := 1) rfl (fun F => rfl) rfl rfl rfl hx ?_
      rintro r2 h2 ⟨rfl, N', B', A', V', tx', cu', rfl, hv'⟩
      refine xw_mx hd 1 [1] rfl (by simp [xq_al, xq_cmp]) ?_
      exact go N' B' A' V' tx' cu' hv'
    | 14, _, hcc =>
      refine xw_mx hd 23 [0, 15] rfl (by simp [xq_al, hgt, q0, hcc, q1, q2]) ?_
      refine xw_call (k := 85) (j := 3) rfl (fun F => rfl) rfl rfl rfl (h14 (xs (nI i + 1).toNatClampNeg) (xs (nI i + 2).toNatClampNeg) N B A V tx cu hv) ?_
      rintro r h1 ⟨x, A1, V1, tx1, cu1, rfl, rfl, hx⟩
      refine xw_mx hd 11 [] rfl (by simp [xq_al, q1, q2]) ?_
      refine xw_call (k := 176) (j := 3) rfl (fun F => rfl) rfl rfl rfl hx ?_
      rintro r2 h2 ⟨rfl, N', B', A', V', tx', cu', rfl, hv'⟩
      refine xw_mx hd 1 [1] rfl (by simp [xq_al, xq_cmp]) ?_
      exact go N' B' A' V' tx' cu' hv'
    | 15, _, hcc =>
      refine xw_mx hd 28 [0, 16] rfl (by simp [xq_al, hgt, q0, hcc, q1, q2, q3]) ?_
      refine xw_call (k := 86) (j := 4) rfl (fun F => rfl) rfl rfl rfl (h15 (xs (nI i + 1).toNatClampNeg) (xs (nI i + 2).toNatClampNeg) (xs (nI i + 3).toNatClampNeg) N B A V tx cu hv) ?_
      rintro r h1 ⟨x, A1, V1, tx1, cu1, rfl, rfl, hx⟩
      refine xw_mx hd 16 [] rfl (by simp [xq_al, q1, q2, q3]) ?_
      refine xw_call (k := 177) (j := 4) rfl (fun F => rfl) rfl rfl rfl hx ?_
      rintro r2 h2 ⟨rfl, N', B', A', V', tx', cu', rfl, hv'⟩
      refine xw_mx hd 1 [1] rfl (by simp [xq_al, xq_cmp]) ?_
      exact go N' B' A' V' tx' cu' hv'
    | 16, _, hcc =>
      refine xw_mx hd 28 [0, 17] rfl (by simp [xq_al, hgt, q0, hcc, q1, q2, q3]) ?_
      refine xw_call (k := 87) (j := 4) rfl (fun F => rfl) rfl rfl rfl (h16 (xs (nI i + 1).toNatClampNeg) (xs (nI i + 2).toNatClampNeg) (xs (nI i + 3).toNatClampNeg) N B A V tx cu hv) ?_
      rintro r h1 ⟨x, A1, V1, tx1, cu1, rfl, rfl, hx⟩
      refine xw_mx hd 16 [] rfl (by simp [xq_al, q1, q2, q3]) ?_
      refine xw_call (k := 179) (j := 4) rfl (fun F => rfl) rfl rfl rfl hx ?_
      rintro r2 h2 ⟨rfl, N', B', A', V', tx', cu', rfl, hv'⟩
      refine xw_mx hd 1 [1] rfl (by simp [xq_al, xq_cmp]) ?_
      exact go N' B' A' V' tx' cu' hv'
    | 17, _, hcc =>
      refine xw_mx hd 13 [0, 18] rfl (by simp [xq_al, hgt, q0, hcc]) ?_
      refine xw_call (k := 88) (j := 1) rfl (fun F => rfl) rfl rfl rfl (h17  N B A V tx cu hv) ?_
      rintro r h1 ⟨x, A1, V1, tx1, cu1, rfl, rfl, hx⟩
      refine xw_mx hd 1 [] rfl trivial ?_
      refine xw_call (k := 180) (j := 1) rfl (fun F => rfl) rfl rfl rfl hx ?_
      rintro r2 h2 ⟨rfl, N', B', A', V', tx', cu', rfl, hv'⟩
      refine xw_mx hd 1 [1] rfl (by simp [xq_al, xq_cmp]) ?_
      exact go N' B' A' V' tx' cu' hv'
    | 18, _, hcc =>
      refine xw_mx hd 13 [0, 19] rfl (by simp [xq_al, hgt, q0, hcc]) ?_
      refine xw_call (k := 89) (j := 1) rfl (fun F => rfl) rfl rfl rfl (h18  N B A V tx cu hv) ?_
      rintro r h1 ⟨x, A1, V1, tx1, cu1, rfl, rfl, hx⟩
      refine xw_mx hd 1 [] rfl trivial ?_
      refine xw_call (k := 181) (j := 1) rfl (fun F => rfl) rfl rfl rfl hx ?_
      rintro r2 h2 ⟨rfl, N', B', A', V', tx', cu', rfl, hv'⟩
      refine xw_mx hd 1 [1] rfl (by simp [xq_al, xq_cmp]) ?_
      exact go N' B' A' V' tx' cu' hv'
    | 19, _, hcc =>
      refine xw_mx hd 23 [0, 20] rfl (by simp [xq_al, hgt, q0, hcc, q1, q2]) ?_
      refine xw_call (k := 90) (j := 3) rfl (fun F => rfl) rfl rfl rfl (h19 (xs (nI i + 1).toNatClampNeg) (xs (nI i + 2).toNatClampNeg) N B A V tx cu hv) ?_
      rintro r h1 ⟨x, A1, V1, tx1, cu1, rfl, rfl, hx⟩
      refine xw_mx hd 11 [] rfl (by simp [xq_al, q1, q2]) ?_
      refine xw_call (k := 183) (j := 3) rfl (fun F => rfl) rfl rfl rfl hx ?_
      rintro r2 h2 ⟨rfl, N', B', A', V', tx', cu', rfl, hv'⟩
      refine xw_mx hd 1 [1] rfl (by simp [xq_al, xq_cmp]) ?_
      exact go N' B' A' V' tx' cu' hv'
    | 20, _, hcc =>
      refine xw_mx hd 28 [0, 21] rfl (by simp [xq_al, hgt, q0, hcc, q1, q2, q3]) ?_
      refine xw_call (k := 91) (j := 4) rfl (fun F => rfl) rfl rfl rfl (h20 (xs (nI i + 1).toNatClampNeg) (xs (nI i + 2).toNatClampNeg) (xs (nI i + 3).toNatClampNeg) N B A V tx cu hv) ?_
      rintro r h1 ⟨x, A1, V1, tx1, cu1, rfl, rfl, hx⟩
      refine xw_mx hd 16 [] rfl (by simp [xq_al, q1, q2, q3]) ?_
      refine xw_call (k := 184) (j := 4) rfl (fun F => rfl) rfl rfl rfl hx ?_
      rintro r2 h2 ⟨rfl, N', B', A', V', tx', cu', rfl, hv'⟩
      refine xw_mx hd 1 [1] rfl (by simp [xq_al, xq_cmp]) ?_
      exact go N' B' A' V' tx' cu' hv'
    | 21, _, hcc =>
      refine xw_mx hd 28 [0, 22] rfl (by simp [xq_al, hgt, q0, hcc, q1, q2, q3]) ?_
      refine xw_call (k := 92) (j := 4) rfl (fun F => rfl) rfl rfl rfl (h21 (xs (nI i + 1).toNatClampNeg) (xs (nI i + 2).toNatClampNeg) (xs (nI i + 3).toNatClampNeg) N B A V tx cu hv) ?_
      rintro r h1 ⟨x, A1, V1, tx1, cu1, rfl, rfl, hx⟩
      refine xw_mx hd 16 [] rfl (by simp [xq_al, q1, q2, q3]) ?_
      refine xw_call (k := 185) (j := 4) rfl (fun F => rfl) rfl rfl rfl hx ?_
      rintro r2 h2 ⟨rfl, N', B', A', V', tx', cu', rfl, hv'⟩
      refine xw_mx hd 1 [1] rfl (by simp [xq_al, xq_cmp]) ?_
      exact go N' B' A' V' tx' cu' hv'
    | 22, _, hcc =>
      refine xw_mx hd 23 [0, 23] rfl (by simp [xq_al, hgt, q0, hcc, q1, q2]) ?_
      refine xw_call (k := 93) (j := 3) rfl (fun F => rfl) rfl rfl rfl (h22 (xs (nI i + 1).toNatClampNeg) (xs (nI i + 2).toNatClampNeg) N B A V tx cu hv) ?_
      rintro r h1 ⟨x, A1, V1, tx1, cu1, rfl, rfl, hx⟩
      refine xw_mx hd 11 [] rfl (by simp [xq_al, q1, q2]) ?_
      refine xw_call (k := 186) (j := 3) rfl (fun F => rfl) rfl rfl rfl hx ?_
      rintro r2 h2 ⟨rfl, N', B', A', V', tx', cu', rfl, hv'⟩
      refine xw_mx hd 1 [1] rfl (by simp [xq_al, xq_cmp]) ?_
      exact go N' B' A' V' tx' cu' hv'
    | 23, _, hcc =>
      refine xw_mx hd 38 [0, 24] rfl (by simp [xq_al, hgt, q0, hcc, q1, q2, q3, q4, q5]) ?_
      refine xw_call (k := 94) (j := 6) rfl (fun F => rfl) rfl rfl rfl (h23 (xs (nI i + 1).toNatClampNeg) (xs (nI i + 2).toNatClampNeg) (xs (nI i + 3).toNatClampNeg) (xs (nI i + 4).toNatClampNeg) (xs (nI i + 5).toNatClampNeg) N B A V tx cu hv) ?_
      rintro r h1 ⟨x, A1, V1, tx1, cu1, rfl, rfl, hx⟩
      refine xw_mx hd 26 [] rfl (by simp [xq_al, q1, q2, q3, q4, q5]) ?_
      refine xw_call (k := 193) (j := 6) rfl (fun F => rfl) rfl rfl rfl hx ?_
      rintro r2 h2 ⟨rfl, N', B', A', V', tx', cu', rfl, hv'⟩
      refine xw_mx hd 1 [1] rfl (by simp [xq_al, xq_cmp]) ?_
      exact go N' B' A' V' tx' cu' hv'
    | 24, _, hcc =>
      refine xw_mx hd 33 [0, 25] rfl (by simp [xq_al, hgt, q0, hcc, q1, q2, q3, q4]) ?_
      refine xw_call (k := 95) (j := 5) rfl (fun F => rfl) rfl rfl rfl (h24 (xs (nI i + 1).toNatClampNeg) (xs (nI i + 2).toNatClampNeg) (xs (nI i + 3).toNatClampNeg) (xs (nI i + 4).toNatClampNeg) N B A V tx cu hv) ?_
      rintro r h1 ⟨x, A1, V1, tx1, cu1, rfl, rfl, hx⟩
      refine xw_mx hd 21 [] rfl (by simp [xq_al, q1, q2, q3, q4]) ?_
      refine xw_call (k := 194) (j := 5) rfl (fun F => rfl) rfl rfl rfl hx ?_
      rintro r2 h2 ⟨rfl, N', B', A', V', tx', cu', rfl, hv'⟩
      refine xw_mx hd 1 [1] rfl (by simp [xq_al, xq_cmp]) ?_
      exact go N' B' A' V' tx' cu' hv'
    | 25, _, hcc =>
      refine xw_mx hd 28 [0, 26] rfl (by simp [xq_al, hgt, q0, hcc, q1, q2, q3]) ?_
      refine xw_call (k := 96) (j := 4) rfl (fun F => rfl) rfl rfl rfl (h25 (xs (nI i + 1).toNatClampNeg) (xs (nI i + 2).toNatClampNeg) (xs (nI i + 3).toNatClampNeg) N B A V tx cu hv) ?_
      rintro r h1 ⟨x, A1, V1, tx1, cu1, rfl, rfl, hx⟩
      refine xw_mx hd 16 [] rfl (by simp [xq_al, q1, q2, q3]) ?_
      refine xw_call (k := 195) (j := 4) rfl (fun F => rfl) rfl rfl rfl hx ?_
      rintro r2 h2 ⟨rfl, N', B', A', V', tx', cu', rfl, hv'⟩
      refine xw_mx hd 1 [1] rfl (by simp [xq_al, xq_cmp]) ?_
      exact go N' B' A' V' tx' cu' hv'
    | 26, _, hcc =>
      refine xw_mx hd 23 [0, 27] rfl (by simp [xq_al, hgt, q0, hcc, q1, q2]) ?_
      refine xw_call (k := 97) (j := 3) rfl (fun F => rfl) rfl rfl rfl (h26 (xs (nI i + 1).toNatClampNeg) (xs (nI i + 2).toNatClampNeg) N B A V tx cu hv) ?_
      rintro r h1 ⟨x, A1, V1, tx1, cu1, rfl, rfl, hx⟩
      refine xw_mx hd 11 [] rfl (by simp [xq_al, q1, q2]) ?_
      refine xw_call (k := 196) (j := 3) rfl (fun F => rfl) rfl rfl rfl hx ?_
      rintro r2 h2 ⟨rfl, N', B', A', V', tx', cu', rfl, hv'⟩
      refine xw_mx hd 1 [1] rfl (by simp [xq_al, xq_cmp]) ?_
      exact go N' B' A' V' tx' cu' hv'
    | 27, _, hcc =>
      refine xw_mx hd 33 [0, 28] rfl (by simp [xq_al, hgt, q0, hcc, q1, q2, q3, q4]) ?_
      refine xw_call (k := 98) (j := 5) rfl (fun F => rfl) rfl rfl rfl (h27 (xs (nI i + 1).toNatClampNeg) (xs (nI i + 2).toNatClampNeg) (xs (nI i + 3).toNatClampNeg) (xs (nI i + 4).toNatClampNeg) N B A V tx cu hv) ?_
      rintro r h1 ⟨x, A1, V1, tx1, cu1, rfl, rfl, hx⟩
      refine xw_mx hd 21 [] rfl (by simp [xq_al, q1, q2, q3, q4]) ?_
      refine xw_call (k := 197) (j := 5) rfl (fun F => rfl) rfl rfl rfl hx ?_
      rintro r2 h2 ⟨rfl, N', B', A', V', tx', cu', rfl, hv'⟩
      refine xw_mx hd 1 [1] rfl (by simp [xq_al, xq_cmp]) ?_
      exact go N' B' A' V' tx' cu' hv'
    | 28, _, hcc =>
      refine xw_mx hd 23 [0, 29] rfl (by simp [xq_al, hgt, q0, hcc, q1, q2]) ?_
      refine xw_call (k := 99) (j := 3) rfl (fun F => rfl) rfl rfl rfl (h28 (xs (nI i + 1).toNatClampNeg) (xs (nI i + 2).toNatClampNeg) N B A V tx cu hv) ?_
      rintro r h1 ⟨x, A1, V1, tx1, cu1, rfl, rfl, hx⟩
      refine xw_mx hd 11 [] rfl (by simp [xq_al, q1, q2]) ?_
      refine xw_call (k := 199) (j := 3) rfl (fun F => rfl) rfl rfl rfl hx ?_
      rintro r2 h2 ⟨rfl, N', B', A', V', tx', cu', rfl, hv'⟩
      refine xw_mx hd 2 [1] rfl (by simp [xq_al, xq_cmp, lg_cmp]) ?_
      exact go N' B' A' V' tx' cu' hv'
    | 29, _, hcc =>
      refine xw_mx hd 23 [0, 30] rfl (by simp [xq_al, hgt, q0, hcc, q1, q2]) ?_
      refine xw_call (k := 100) (j := 3) rfl (fun F => rfl) rfl rfl rfl (h29 (xs (nI i + 1).toNatClampNeg) (xs (nI i + 2).toNatClampNeg) N B A V tx cu hv) ?_
      rintro r h1 ⟨x, A1, V1, tx1, cu1, rfl, rfl, hx⟩
      refine xw_mx hd 11 [] rfl (by simp [xq_al, q1, q2]) ?_
      refine xw_call (k := 200) (j := 3) rfl (fun F => rfl) rfl rfl rfl hx ?_
      rintro r2 h2 ⟨rfl, N', B', A', V', tx', cu', rfl, hv'⟩
      refine xw_mx hd 1 [1] rfl (by simp [xq_al, xq_cmp]) ?_
      exact go N' B' A' V' tx' cu' hv'
    | 30, _, hcc =>
      refine xw_mx hd 13 [0, 31] rfl (by simp [xq_al, hgt, q0, hcc]) ?_
      refine xw_call (k := 101) (j := 1) rfl (fun F => rfl) rfl rfl rfl (h30  N B A V tx cu hv) ?_
      rintro r h1 ⟨x, A1, V1, tx1, cu1, rfl, rfl, hx⟩
      refine xw_mx hd 1 [] rfl trivial ?_
      refine xw_call (k := 201) (j := 1) rfl (fun F => rfl) rfl rfl rfl hx ?_
      rintro r2 h2 ⟨rfl, N', B', A', V', tx', cu', rfl, hv'⟩
      refine xw_mx hd 1 [1] rfl (by simp [xq_al, xq_cmp]) ?_
      exact go N' B' A' V' tx' cu' hv'
    | 31, _, hcc =>
      refine xw_mx hd 33 [0, 32] rfl (by simp [xq_al, hgt, q0, hcc, q1, q2, q3, q4]) ?_
      refine xw_call (k := 102) (j := 5) rfl (fun F => rfl) rfl rfl rfl (h31 (xs (nI i + 1).toNatClampNeg) (xs (nI i + 2).toNatClampNeg) (xs (nI i + 3).toNatClampNeg) (xs (nI i + 4).toNatClampNeg) N B A V tx cu hv) ?_
      rintro r h1 ⟨x, A1, V1, tx1, cu1, rfl, rfl, hx⟩
      refine xw_mx hd 21 [] rfl (by simp [xq_al, q1, q2, q3, q4]) ?_
      refine xw_call (k := 204) (j := 5) rfl (fun F => rfl) rfl rfl rfl hx ?_
      rintro r2 h2 ⟨rfl, N', B', A', V', tx', cu', rfl, hv'⟩
      refine xw_mx hd 1 [1] rfl (by simp [xq_al, xq_cmp]) ?_
      exact go N' B' A' V' tx' cu' hv'
    | 32, _, hcc =>
      refine xw_mx hd 38 [0, 33] rfl (by simp [xq_al, hgt, q0, hcc, q1, q2, q3, q4, q5]) ?_
      refine xw_call (k := 103) (j := 6) rfl (fun F => rfl) rfl rfl rfl (h32 (xs (nI i + 1).toNatClampNeg) (xs (nI i + 2).toNatClampNeg) (xs (nI i + 3).toNatClampNeg) (xs (nI i + 4).toNatClampNeg) (xs (nI i + 5).toNatClampNeg) N B A V tx cu hv) ?_
      rintro r h1 ⟨x, A1, V1, tx1, cu1, rfl, rfl, hx⟩
      refine xw_mx hd 26 [] rfl (by simp [xq_al, q1, q2, q3, q4, q5]) ?_
      refine xw_call (k := 206) (j := 6) rfl (fun F => rfl) rfl rfl rfl hx ?_
      rintro r2 h2 ⟨rfl, N', B', A', V', tx', cu', rfl, hv'⟩
      refine xw_mx hd 2 [1] rfl (by simp [xq_al, xq_cmp, lg_cmp]) ?_
      exact go N' B' A' V' tx' cu' hv'
    | 33, _, hcc =>
      refine xw_mx hd 13 [0, 34] rfl (by simp [xq_al, hgt, q0, hcc]) ?_
      refine xw_call (k := 104) (j := 1) rfl (fun F => rfl) rfl rfl rfl (h33  N B A V tx cu hv) ?_
      rintro r h1 ⟨x, A1, V1, tx1, cu1, rfl, rfl, hx⟩
      refine xw_mx hd 1 [] rfl trivial ?_
      refine xw_call (k := 208) (j := 1) rfl (fun F => rfl) rfl rfl rfl hx ?_
      rintro r2 h2 ⟨rfl, N', B', A', V', tx', cu', rfl, hv'⟩
      refine xw_mx hd 1 [1] rfl (by simp [xq_al, xq_cmp]) ?_
      exact go N' B' A' V' tx' cu' hv'
    | 34, _, hcc =>
      refine xw_mx hd 13 [0, 35] rfl (by simp [xq_al, hgt, q0, hcc]) ?_
      refine xw_call (k := 105) (j := 1) rfl (fun F => rfl) rfl rfl rfl (h34  N B A V tx cu hv) ?_
      rintro r h1 ⟨x, A1, V1, tx1, cu1, rfl, rfl, hx⟩
      refine xw_mx hd 1 [] rfl trivial ?_
      refine xw_call (k := 209) (j := 1) rfl (fun F => rfl) rfl rfl rfl hx ?_
      rintro r2 h2 ⟨rfl, N', B', A', V', tx', cu', rfl, hv'⟩
      refine xw_mx hd 1 [1] rfl (by simp [xq_al, xq_cmp]) ?_
      exact go N' B' A' V' tx' cu' hv'
    | 35, _, hcc =>
      refine xw_mx hd 28 [0, 36] rfl (by simp [xq_al, hgt, q0, hcc, q1, q2, q3]) ?_
      refine xw_call (k := 106) (j := 4) rfl (fun F => rfl) rfl rfl rfl (h35 (xs (nI i + 1).toNatClampNeg) (xs (nI i + 2).toNatClampNeg) (xs (nI i + 3).toNatClampNeg) N B A V tx cu hv) ?_
      rintro r h1 ⟨x, A1, V1, tx1, cu1, rfl, rfl, hx⟩
      refine xw_mx hd 16 [] rfl (by simp [xq_al, q1, q2, q3]) ?_
      refine xw_call (k := 211) (j := 4) rfl (fun F => rfl) rfl rfl rfl hx ?_
      rintro r2 h2 ⟨rfl, N', B', A', V', tx', cu', rfl, hv'⟩
      refine xw_mx hd 1 [1] rfl (by simp [xq_al, xq_cmp]) ?_
      exact go N' B' A' V' tx' cu' hv'
    | 36, _, hcc =>
      refine xw_mx hd 28 [0, 37] rfl (by simp [xq_al, hgt, q0, hcc, q1, q2, q3]) ?_
      refine xw_call (k := 107) (j := 4) rfl (fun F => rfl) rfl rfl rfl (h36 (xs (nI i + 1).toNatClampNeg) (xs (nI i + 2).toNatClampNeg) (xs (nI i + 3).toNatClampNeg) N B A V tx cu hv) ?_
      rintro r h1 ⟨x, A1, V1, tx1, cu1, rfl, rfl, hx⟩
      refine xw_mx hd 16 [] rfl (by simp [xq_al, q1, q2, q3]) ?_
      refine xw_call (k := 212) (j := 4) rfl (fun F => rfl) rfl rfl rfl hx ?_
      rintro r2 h2 ⟨rfl, N', B', A', V', tx', cu', rfl, hv'⟩
      refine xw_mx hd 1 [1] rfl (by simp [xq_al, xq_cmp]) ?_
      exact go N' B' A' V' tx' cu' hv'
    | 37, _, hcc =>
      refine xw_mx hd 38 [0, 38] rfl (by simp [xq_al, hgt, q0, hcc, q1, q2, q3, q4, q5]) ?_
      refine xw_call (k := 108) (j := 6) rfl (fun F => rfl) rfl rfl rfl (h37 (xs (nI i + 1).toNatClampNeg) (xs (nI i + 2).toNatClampNeg) (xs (nI i + 3).toNatClampNeg) (xs (nI i + 4).toNatClampNeg) (xs (nI i + 5).toNatClampNeg) N B A V tx cu hv) ?_
      rintro r h1 ⟨x, A1, V1, tx1, cu1, rfl, rfl, hx⟩
      refine xw_mx hd 26 [] rfl (by simp [xq_al, q1, q2, q3, q4, q5]) ?_
      refine xw_call (k := 213) (j := 6) rfl (fun F => rfl) rfl rfl rfl hx ?_
      rintro r2 h2 ⟨rfl, N', B', A', V', tx', cu', rfl, hv'⟩
      refine xw_mx hd 1 [1] rfl (by simp [xq_al, xq_cmp]) ?_
      exact go N' B' A' V' tx' cu' hv'
    | 38, _, hcc =>
      refine xw_mx hd 33 [0, 39] rfl (by simp [xq_al, hgt, q0, hcc, q1, q2, q3, q4]) ?_
      refine xw_call (k := 109) (j := 5) rfl (fun F => rfl) rfl rfl rfl (h38 (xs (nI i + 1).toNatClampNeg) (xs (nI i + 2).toNatClampNeg) (xs (nI i + 3).toNatClampNeg) (xs (nI i + 4).toNatClampNeg) N B A V tx cu hv) ?_
      rintro r h1 ⟨x, A1, V1, tx1, cu1, rfl, rfl, hx⟩
      refine xw_mx hd 21 [] rfl (by simp [xq_al, q1, q2, q3, q4]) ?_
      refine xw_call (k := 214) (j := 5) rfl (fun F => rfl) rfl rfl rfl hx ?_
      rintro r2 h2 ⟨rfl, N', B', A', V', tx', cu', rfl, hv'⟩
      refine xw_mx hd 1 [1] rfl (by simp [xq_al, xq_cmp]) ?_
      exact go N' B' A' V' tx' cu' hv'
    | 39, _, hcc =>
      refine xw_mx hd 23 [0, 40] rfl (by simp [xq_al, hgt, q0, hcc, q1, q2]) ?_
      refine xw_call (k := 110) (j := 3) rfl (fun F => rfl) rfl rfl rfl (h39 (xs (nI i + 1).toNatClampNeg) (xs (nI i + 2).toNatClampNeg) N B A V tx cu hv) ?_
      rintro r h1 ⟨x, A1, V1, tx1, cu1, rfl, rfl, hx⟩
      refine xw_mx hd 11 [] rfl (by simp [xq_al, q1, q2]) ?_
      refine xw_call (k := 215) (j := 3) rfl (fun F => rfl) rfl rfl rfl hx ?_
      rintro r2 h2 ⟨rfl, N', B', A', V', tx', cu', rfl, hv'⟩
      refine xw_mx hd 1 [1] rfl (by simp [xq_al, xq_cmp]) ?_
      exact go N' B' A' V' tx' cu' hv'
    | c + 40, hc40, _ => exact absurd hc40 (by omega)
