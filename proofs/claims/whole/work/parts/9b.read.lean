/-! TEXT: the class's read and text in the small machine. -/
section SR
variable {LL : Nat} {xs : Nat → Int32} {tx : List xh_T} {d : Nat} {A V A' V' : xM} {cu c' : Value} {x y : Int32}
set_option maxRecDepth 20000 in
set_option maxHeartbeats 4000000 in
theorem s_read {Q : Option Value → xq_H → Prop} (hd : 120 ≤ d) (e : fX4_read A V cu = some (x, y, A', V', c')) (K : xw (xk_ro LL xs) d xk_29 59 [some (.ref 95), some (.int x), some (.int y)] [] (xh A' V' tx c') Q) : xe (xk_ro LL xs) (d + 1) 29 [.ref 95] (xh A V tx cu) Q := by
  obtain ⟨d, rfl⟩ : ∃ d1, d = d1 + 1 := ⟨d - 1, by omega⟩
  have hd0 : 60 ≤ d + 1 := by omega
  refine xe_of (co := xk_29) (nl := 3) rfl rfl rfl ?_
  unfold fX4_read at e
  refine xw_y hd0 10 [] rfl ⟨rfl, rfl, rfl, trivial⟩ ?_
  obtain ⟨A0, V0, c0, e0, e⟩ := bS_ok e
  refine xw_call (k := 40) (j := 1) rfl (fun F => xm_c_ok (y_c_ok rfl) F) rfl rfl rfl (sX4_next (by omega) e0) ?_
  rintro _ _ ⟨rfl, rfl⟩
  refine xw_y hd0 2 [] rfl trivial ?_
  obtain ⟨A1, V1, c1, e1, e⟩ := bS_ok e
  refine xw_call (k := 30) (j := 2) rfl (fun F => xm_c_ok (y_c_ok rfl) F) rfl rfl rfl (sX4_readPart (sRd 45 d (by omega)) (by omega) e1) ?_
  rintro _ _ ⟨rfl, rfl⟩
  refine xw_y hd0 5 [] rfl trivial ?_
  obtain ⟨A2, V2, c2, e2, e⟩ := bS_ok e
  refine xw_call (k := 30) (j := 2) rfl (fun F => xm_c_ok (y_c_ok rfl) F) rfl rfl rfl (sX4_readPart (sRd 45 d (by omega)) (by omega) e2) ?_
  rintro _ _ ⟨rfl, rfl⟩
  refine xw_y hd0 5 [] rfl trivial ?_
  obtain ⟨A3, V3, c3, e3, e⟩ := bS_ok e
  refine xw_call (k := 30) (j := 2) rfl (fun F => xm_c_ok (y_c_ok rfl) F) rfl rfl rfl (sX4_readPart (sRd 45 d (by omega)) (by omega) e3) ?_
  rintro _ _ ⟨rfl, rfl⟩
  rcases ite_ok e with ⟨h1, e⟩ | ⟨h1, e⟩
  · cases e
    refine xw_y hd0 4 [1] rfl ⟨decide_eq_true h1, trivial⟩ ?_
    exact K
  · refine xw_y hd0 5 [0] rfl ⟨nt h1, trivial⟩ ?_
    obtain ⟨A4, V4, c4, e4, e⟩ := bS_ok e
    cases e
    refine xw_call (k := 39) (j := 1) rfl (fun F => xm_c_ok (y_c_ok rfl) F) rfl rfl rfl (sX4_fail (by omega) e4) ?_
    rintro _ _ ⟨rfl, rfl⟩
    exact K
theorem s_readF (hd : 120 ≤ d) (e : fX4_read A V cu = some (x, y, A', V', c')) (hf : V' 95 2 ≠ -1) : xe (xk_ro LL xs) (d + 1) 29 [.ref 95] (xh A V tx cu) (fun r h => r = some .null ∧ h = xh A' V' tx c') := by
  have hd0 : 60 ≤ d := by omega
  refine s_read hd e ?_
  exact xw_yr hd0 6 [0] rfl ⟨nt hf, trivial⟩ ⟨rfl, rfl⟩
theorem s_readG {m : Nat} (hd : 120 ≤ d) (e : fX4_read A V cu = some (x, y, A', V', c')) (hf : V' 95 2 = -1) (h4 : V' 95 4 = nI m) (hm : m < 160) : xe (xk_ro LL xs) (d + 1) 29 [.ref 95] (xh A V tx cu) (fun r h => r = some (.ref (164 + 2 * tx.length)) ∧ h = xhr A' V' (xh_tr tx.length) (xh_tx 164 (tx ++ [(m, va_cpy (A' 97) (fun _ => 0) 0 0 m, x, y)])) c') := by
  obtain ⟨d, rfl⟩ : ∃ d1, d = d1 + 1 := ⟨d - 1, by omega⟩
  have hd0 : 60 ≤ d + 1 := by omega
  refine s_read hd e ?_
  refine xw_y hd0 4 [1] rfl ⟨decide_eq_true hf, trivial⟩ ?_
  refine sh_newo rfl ?_
  have el : 64 + (xh A' V' tx c').length = 164 + 2 * tx.length := by rw [xh_len]; omega
  obtain ⟨r1, hr1⟩ : ∃ r1, r1 = 164 + 2 * tx.length := ⟨_, rfl⟩
  rw [el, ← hr1, xhr_xh, xhr_app]
  obtain ⟨R, hR⟩ : ∃ R, R = xh_tr tx.length := ⟨_, rfl⟩
  obtain ⟨tl, htl⟩ : ∃ tl, tl = xh_tx 164 tx := ⟨_, rfl⟩
  have hlen : tl.length = 2 * tx.length := by rw [htl, tx_len]
  rw [← hR, ← htl]
  refine xw_me 5 [] rfl trivial ?_
  rw [h4]
  refine xw_call (k := 218) (j := 2) rfl (fun F => xm_c_ok rfl F) rfl rfl rfl (s_copyOf (f := A' 97) hm rfl) ?_
  rintro _ _ ⟨rfl, rfl⟩
  rw [xhr_len, xhr_app]
  have e2 : 64 + (100 + (tl ++ [Sum.inr (7, xq_df 7)]).length) = r1 + 1 := by
    rw [List.length_append, hlen]
    show 64 + (100 + (2 * tx.length + 1)) = r1 + 1
    omega
  rw [e2]
  refine xw_me 2 [] rfl trivial ?_
  have hat : (xhr A' V' R (tl ++ [Sum.inr (7, xq_df 7)] ++ [Sum.inl (0, m, Sum.inl (va_cpy (A' 97) (fun _ => 0) 0 0 m))]) c')[r1 - 64]? = some (.inr (7, [.null, .int 0, .int 0])) := by
    rw [show r1 - 64 = 100 + tl.length by omega, xhr_at, List.append_assoc, List.getElem?_append_right (Nat.le_refl _), Nat.sub_self]
    rfl
  refine xw_call (k := 67) (j := 4) rfl (fun F => xm_c_ok rfl F) rfl rfl rfl (s_newText (by omega) hat) ?_
  rintro _ _ ⟨rfl, rfl⟩
  refine xw_mr 1 [] rfl trivial ⟨by rw [hr1], ?_⟩
  rw [show r1 - 64 = 100 + tl.length by omega, xhr_set, List.append_assoc, List.set_append_right _ _ (Nat.le_refl _), Nat.sub_self, tx_app, ← htl, show 164 + 2 * tx.length + 1 = r1 + 1 by omega]
  rfl
end SR
