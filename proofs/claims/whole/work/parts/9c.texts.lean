/-! TEXT: the class's text in the small machine. -/
section SX
variable {LL : Nat} {xs : Nat → Int32} {tx : List xh_T} {d : Nat} {A V A' V' : xM} {cu c' : Value} {x y : Int32}
set_option maxRecDepth 20000 in
set_option maxHeartbeats 4000000 in
theorem s_textL (hd : 120 ≤ d) (h : ¬ V 64 15 < 6) : xe (xk_ro LL xs) (d + 1) 75 [.ref 64] (xh A V tx cu) (qI (-4) (xh A V tx cu)) := by
  have hd0 : 60 ≤ d := by omega
  refine xe_of (co := xk_75) (nl := 2) rfl rfl rfl ?_
  exact xw_yr hd0 6 [0] rfl ⟨nt h, rfl, trivial⟩ ⟨rfl, rfl⟩
set_option maxRecDepth 20000 in
set_option maxHeartbeats 4000000 in
theorem s_textF (hd : 122 ≤ d) (h : V 64 15 < 6) (e : fX4_read A V cu = some (x, y, A', V', c')) (hf : V' 95 2 ≠ -1) : xe (xk_ro LL xs) (d + 1) 75 [.ref 64] (xh A V tx cu) (qI (-100 - V' 95 2) (xh A' (up2 V' 95 1 0) tx c')) := by
  obtain ⟨d, rfl⟩ : ∃ d1, d = d1 + 1 := ⟨d - 1, by omega⟩
  have hd0 : 60 ≤ d + 1 := by omega
  refine xe_of (co := xk_75) (nl := 2) rfl rfl rfl ?_
  refine xw_y hd0 6 [1] rfl ⟨decide_eq_true h, trivial⟩ ?_
  refine xw_call (k := 29) (j := 1) rfl (fun F => xm_c_ok (y_c_ok rfl) F) rfl rfl rfl (s_readF (by omega) e hf) ?_
  rintro _ _ ⟨rfl, rfl⟩
  exact xw_yr hd0 16 [] rfl ⟨rfl, rfl, trivial⟩ ⟨rfl, rfl⟩
set_option maxRecDepth 20000 in
set_option maxHeartbeats 4000000 in
theorem s_textG {m : Nat} (hd : 122 ≤ d) (h : V 64 15 < 6) (e : fX4_read A V cu = some (x, y, A', V', c')) (hf : V' 95 2 = -1) (h4 : V' 95 4 = nI m) (hm : m < 160) (h15 : V' 64 15 = nI (tx.length + 1)) (ht : tx.length + 1 < 6) : xe (xk_ro LL xs) (d + 1) 75 [.ref 64] (xh A V tx cu) (qI (nI (tx.length + 1)) (xh A' (up2 (up2 V' 95 1 0) 64 15 (nI (tx.length + 2))) (tx ++ [(m, va_cpy (A' 97) (fun _ => 0) 0 0 m, x, y)]) c')) := by
  obtain ⟨d, rfl⟩ : ∃ d1, d = d1 + 1 := ⟨d - 1, by omega⟩
  obtain ⟨d, rfl⟩ : ∃ d1, d = d1 + 1 := ⟨d - 1, by omega⟩
  have hd0 : 60 ≤ d + 1 + 1 := by omega
  refine xe_of (co := xk_75) (nl := 2) rfl rfl rfl ?_
  refine xw_y hd0 6 [1] rfl ⟨decide_eq_true h, trivial⟩ ?_
  refine xw_call (k := 29) (j := 1) rfl (fun F => xm_c_ok (y_c_ok rfl) F) rfl rfl rfl (s_readG (by omega) e hf h4 hm) ?_
  rintro _ _ ⟨rfl, rfl⟩
  obtain ⟨r1, hr1⟩ : ∃ r1, r1 = 164 + 2 * tx.length := ⟨_, rfl⟩
  obtain ⟨R, hR⟩ : ∃ R, R = xh_tr tx.length := ⟨_, rfl⟩
  obtain ⟨q, hq⟩ : ∃ q : xh_T, q = (m, va_cpy (A' 97) (fun _ => 0) 0 0 m, x, y) := ⟨_, rfl⟩
  obtain ⟨tl, htl⟩ : ∃ tl, tl = xh_tx 164 (tx ++ [q]) := ⟨_, rfl⟩
  have hat : ∀ (V : xM) (R : Nat → Option Nat), (xhr A' V R tl c')[r1 - 64]? = some (.inr (7, [.ref (r1 + 1), .int x, .int y])) := fun V R => by
    rw [show r1 - 64 = 100 + 2 * tx.length by omega, xhr_at, htl, hq, tx_app, List.getElem?_append_right (by rw [tx_len]; exact Nat.le_refl _), tx_len, Nat.sub_self, show 164 + 2 * tx.length + 1 = r1 + 1 by omega]
    rfl
  rw [← hr1, ← hR, ← hq, ← htl]
  refine xw_me 3 [] rfl trivial ?_
  refine xw_call (Q1 := fun r h => r = none ∧ h = xhr A' (up2 V' 95 1 0) R tl c') (k := 28) (j := 1) rfl (fun F => xm_c_ok rfl F) rfl rfl rfl (xe_of (co := xk_28) (nl := 1) rfl rfl rfl (xw_mr 4 [] rfl ⟨rfl, trivial⟩ ⟨rfl, rfl⟩)) ?_
  rintro _ _ ⟨rfl, rfl⟩
  refine xw_me 7 [] rfl trivial ?_
  have h15' : (up2 V' 95 1 0) 64 15 = nI (tx.length + 1) := by rw [up2_n (by omega)]; exact h15
  refine sh_aast (n := 6) (f := R) (r := 98) (q := r1) (by decide) rfl (by omega) (hat _ _) (by rw [h15']; exact xin ht (by decide)) rfl ?_
  have e1 : (xhr A' (up2 V' 95 1 0) R tl c').set (98 - 64) (.inl (5, 6, .inr (va_up R ((up2 V' 95 1 0) 64 15).toNatClampNeg (some r1)))) = xhr A' (up2 V' 95 1 0) (va_up R ((up2 V' 95 1 0) 64 15).toNatClampNeg (some r1)) tl c' := rfl
  rw [e1]
  have e2 : va_up R ((up2 V' 95 1 0) 64 15).toNatClampNeg (some r1) = xh_tr (tx.length + 1) := by
    rw [h15', tC (by omega), hR, hr1]
    rfl
  rw [e2]
  have e3 : xh A' (up2 (up2 V' 95 1 0) 64 15 ((up2 V' 95 1 0) 64 15 + 1)) (tx ++ [q]) c' = xhr A' (up2 (up2 V' 95 1 0) 64 15 ((up2 V' 95 1 0) 64 15 + 1)) (xh_tr (tx.length + 1)) tl c' := by
    rw [xhr_xh, List.length_append, htl]
    rfl
  have e4 : nI (tx.length + 2) = (up2 V' 95 1 0) 64 15 + 1 := by rw [h15', nI_1]
  have e5 : nI (tx.length + 1) = (up2 (up2 V' 95 1 0) 64 15 ((up2 V' 95 1 0) 64 15 + 1)) 64 15 - 1 := by rw [up2_s, h15', nI_1, nI_p1]
  rw [e4, e5, e3]
  exact xw_mr 11 [] rfl ⟨rfl, rfl, trivial⟩ ⟨rfl, rfl⟩
end SX
