/-! THE CLAIM OVER PURE DATA out of the forty calls. -/
theorem xh_z (A V : Nat → Nat → Int32) (tx : List xh_T) (cu : Value) : xq_z (xh A V tx cu) = 9329 + xq_z (xh_tx 164 tx) := by
  unfold xh
  simp only [xq_z, xq_zc, List.length_cons, List.length_nil]
  omega
theorem xh_tx_z (K : Nat) : ∀ (tx : List xh_T) (a : Nat), (∀ (t : Nat) (q : xh_T), tx[t]? = some q → q.1 ≤ K) → xq_z (xh_tx a tx) ≤ (3 + K) * tx.length
  | [], a, _ => by simp [xh_tx, xq_z]
  | (n, f, l, w) :: t, a, h => by
    have h0 : n ≤ K := h 0 (n, f, l, w) rfl
    have ih := xh_tx_z K t (a + 2) (fun i q hq => h (i + 1) q (by rw [List.getElem?_cons_succ]; exact hq))
    rw [xh_tx, xq_z, xq_z, List.length_cons, Nat.mul_succ]
    show 3 + (n + _) ≤ _
    omega
theorem law_of (H : ∀ (L : Nat) (xs : Nat → Int32), L ≤ 448 → iv_ops (xk_ro L xs) 1000) : xk_Law := by
  intro L xs hL
  have hw := law_init (ro := xk_ro L xs) (d := 1000) (by decide) (fun A V h => law_loop hL 1000 (by decide) (H L xs hL) (L + 1) 0 (by omega) (by omega) in_N in_B A V [] .null (in_iv h))
  obtain ⟨r, h', ⟨rfl, N', B', A', V', tx', cu', rfl, hv⟩, n, e⟩ := hw
  obtain ⟨v1, v2, v3, v4, v5, v6, v7, v8, v9, v10, v11, v12, v13⟩ := hv
  have ht : tx'.length ≤ 5 := v1.2.2.2.1.2.2
  refine ⟨n, n, _, e n n (Nat.le_refl _) (Nat.le_refl _), ?_, ?_⟩
  · rw [xh_len]
    omega
  · rw [xh_z]
    have := xh_tx_z 160 tx' 164 (fun t q hq => by obtain ⟨l', w', -, -, -, -, h5, -⟩ := v12.2 t q hq; exact h5)
    have h2 : (3 + 160) * tx'.length ≤ 163 * 5 := Nat.mul_le_mul (by decide) ht
    omega
theorem all_ops (L : Nat) (xs : Nat → Int32) : iv_ops (xk_ro L xs) 1000 :=
  ⟨fun a0 a1 a2 => op_wall (d := 999) (by decide) a0 a1 a2,
  fun a0 a1 => op_seat (d := 999) (by decide) a0 a1,
  fun a0 => op_count (d := 999) (by decide) a0,
  fun a0 a1 a2 a3 a4 a5 => op_feed (by decide) a0 a1 a2 a3 a4 a5,
  op_text (by decide),
  fun a0 => op_force (d := 999) (by decide) a0,
  fun a0 a1 a2 a3 => op_asks (by decide) a0 a1 a2 a3,
  fun a0 => op_song (d := 999) (by decide) a0,
  fun a0 => op_needs (d := 999) (by decide) a0,
  fun a0 a1 a2 => op_person (by decide) a0 a1 a2,
  fun a0 a1 a2 => op_teach (d := 999) (by decide) a0 a1 a2,
  fun a0 a1 => op_told (d := 999) (by decide) a0 a1,
  fun a0 a1 a2 => op_evening (by decide) a0 a1 a2,
  op_forget (d := 999) (by decide),
  fun a0 a1 => op_eveningTold (d := 999) (by decide) a0 a1,
  fun a0 a1 a2 => op_knows (by decide) a0 a1 a2,
  fun a0 a1 a2 => op_all (by decide) a0 a1 a2,
  op_judge (by decide),
  op_laws (by decide),
  fun a0 a1 => op_feast (by decide) a0 a1,
  fun a0 a1 a2 => op_leave (by decide) a0 a1 a2,
  fun a0 a1 a2 => op_bars (by decide) a0 a1 a2,
  fun a0 a1 => op_ends (by decide) a0 a1,
  fun a0 a1 a2 a3 a4 => op_least (by decide) a0 a1 a2 a3 a4,
  fun a0 a1 a2 a3 => op_why (by decide) a0 a1 a2 a3,
  fun a0 a1 a2 => op_place (by decide) a0 a1 a2,
  fun a0 a1 => op_whole (by decide) a0 a1,
  fun a0 a1 a2 a3 => op_was (by decide) a0 a1 a2 a3,
  fun a0 a1 => op_lost (by decide) a0 a1,
  fun a0 a1 => op_keep (by decide) a0 a1,
  op_rarest (by decide),
  fun a0 a1 a2 a3 => op_drawn (by decide) a0 a1 a2 a3,
  fun a0 a1 a2 a3 a4 => op_odds (by decide) a0 a1 a2 a3 a4,
  op_image (by decide),
  op_back (by decide),
  fun a0 a1 a2 => op_sheet (by decide) a0 a1 a2,
  fun a0 a1 a2 => op_cell (d := 999) (by decide) a0 a1 a2,
  fun a0 a1 a2 a3 a4 => op_copy (by decide) a0 a1 a2 a3 a4,
  fun a0 a1 a2 a3 => op_peopleBy (by decide) a0 a1 a2 a3,
  fun a0 a1 => op_taken (by decide) a0 a1⟩
theorem law_holds : xk_Law := law_of (fun L xs _ => all_ops L xs)
