/-! THE CLAIM OVER PURE DATA out of the forty calls. -/
theorem xh_z (A V : Nat → Nat → Int32) (tx : List xh_T) (cu : Value) : xq_z (xh A V tx cu) = 9085 + xq_z (xh_tx 163 tx) := by
  unfold xh
  simp only [xq_z, xq_zc, List.length_cons, List.length_nil]
  omega
theorem xh_tx_z (K : Nat) : ∀ (tx : List xh_T) (a : Nat), (∀ (t : Nat) (q : xh_T), tx[t]? = some q → q.1 ≤ K) → xq_z (xh_tx a tx) ≤ (3 + K) * tx.length
  | [], a, _ => by simp [xh_tx, xq_z]
  | (n, f, l, w) :: t, a, h => by
    have h0 : n ≤ K := h 0 (n, f, l, w) rfl
    have ih := xh_tx_z K t (a + 2) (fun i q hq => h (i + 1) q (by rw [List.getElem?_cons_succ]; exact hq))
    rw [xh_tx, xq_z, xq_z, List.length_cons, Nat.mul_succ]
    show 3 + (n + _) ≤ _
    omega
theorem law_of (H : ∀ (L : Nat) (xs : Nat → Int32), L ≤ 448 → iv_ops (xk_ro L xs) 1000) : xk_Law := by
  intro L xs hL
  have hw := law_init (ro := xk_ro L xs) (d := 1000) (by decide) (fun A V h => law_loop hL 1000 (by decide) (H L xs hL) (L + 1) 0 (by omega) (by omega) in_N in_B A V [] .null (in_iv h))
  obtain ⟨r, h', ⟨rfl, N', B', A', V', tx', cu', rfl, hv⟩, n, e⟩ := hw
  obtain ⟨v1, v2, v3, v4, v5, v6, v7, v8, v9, v10, v11, v12, v13⟩ := hv
  have ht : tx'.length ≤ 5 := v1.2.2.2.1.2.2
  refine ⟨n, n, _, e n n (Nat.le_refl _) (Nat.le_refl _), ?_, ?_⟩
  · rw [xh_len]
    omega
  · rw [xh_z]
    have := xh_tx_z 160 tx' 163 (fun t q hq => by obtain ⟨l', w', -, -, -, -, h5, -⟩ := v12.2 t q hq; exact h5)
    have h2 : (3 + 160) * tx'.length ≤ 163 * 5 := Nat.mul_le_mul (by decide) ht
    omega
