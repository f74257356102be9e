/-! TEXT: the call. -/
theorem pQ_b2 {c v : Nat → Int32} (hc : ∀ k, 160 ≤ k → c k = 1) {p k k' : Nat} {l : List Int32} (hp : p < 3) (hk : k ≤ 160) (e : pQ c v p k = some (k', true, l)) : k + l.length + 2 ≤ k' ∧ k' ≤ 160 := by
  have hb := pQ_b hc hp hk e
  unfold pQ at e
  by_cases q : c k = nI (9 + p)
  · rw [if_pos q] at e
    have hp0 : ∀ p, p < 3 → nI (9 + p) ≠ 1 := by decide
    have hk1 : k < 160 := lt160 hc (by rw [q]; exact hp0 p hp)
    obtain ⟨k1, ok1, l1, e1, g1, g2, g3⟩ := pE_ok (v := v) hc (k := k + 1) (by omega)
    rw [e1] at e
    cases ok1 with
    | false => obtain ⟨-, z, -⟩ := oke e; cases z
    | true =>
      obtain ⟨rfl, -, rfl⟩ := oke e
      have := (g3 rfl).1
      exact ⟨by omega, hb.1⟩
  · rw [if_neg q] at e
    obtain ⟨-, z, -⟩ := oke e
    cases z
theorem nI_m1 {n : Nat} (h : n ≤ 160) : nI n ≠ -1 := fun z => by
  rw [eqI, tI (by omega), tm_1] at z
  omega
section OT
variable {LL : Nat} {xs : Nat → Int32} {d : Nat}
theorem op_text (hd : 130 ≤ d) : iv_op (xk_ro LL xs) d 75 153 [] := by
  intro N B A V tx cu hv
  obtain ⟨d, rfl⟩ : ∃ d1, d = d1 + 1 := ⟨d - 1, by omega⟩
  obtain ⟨v1, v2, v3, v4, v5, v6, v7, v8, v9, v10, v11, v12, v13⟩ := id hv
  obtain ⟨-, -, -, ⟨t1, t2, t3⟩, -, ⟨z1, z2, z3⟩⟩ := v1
  have hL := lets_ok hv
  by_cases ht : tx.length = 5
  · have e : fX9_text A V cu = some (-4, A, V, cu) := by
      unfold fX9_text
      rw [if_pos (by rw [t2, ht]; rfl)]
    refine xe_mono ?_ (s_textL (by omega) (by rw [t1, ht]; decide))
    rintro r h ⟨rfl, rfl⟩
    refine ⟨-4, A, V, tx, cu, rfl, rfl, xe_mono ?_ (sX9_text (by omega) e)⟩
    rintro r h ⟨rfl, rfl⟩
    exact ⟨rfl, N, B, A, V, tx, cu, rfl, hv⟩
  have h6 : V 64 15 < 6 := by rw [t1]; simp (disch := omega) only [ltI, leI, eqI, tI, tI1, ti_0, ti_1, ti_2, ti_3, ti_4, ti_5, ti_6, ti_7, ti_8, ti_9, ti_10, ti_11, ti_12, ti_14, ti_18, ti_30, ti_39, ti_40, ti_41, ti_45, ti_50, ti_59, ti_97, ti_99, ti_100, ti_122, ti_160, ti_243, ti_255, ti_399, ti_999, ti_1000, ti_1024, ti_99999, tm_1, tm_2, tm_3, tm_4, tm_5, tm_7, tm_11, tm_12, tm_13, tm_14, tm_100, if_pos, if_neg, if_true, if_false, bC_in, bI_s, bS_s, bX_s, bY_s, sO, tC]; omega
  have hs := fun k => st_c (t := A 96) (t' := A 143) (n := N 4) (fun j hj => (v9 j hj).1) k
  have hcc : cC (A 96) (N 4) = cC (A 143) (N 4) := funext (fun k => (hs k).2.2.1)
  have n6 : nI (tx.length + 1) ≠ 6 := fun z => by
    have := (nI_eq (b := 6) (by omega) (by omega)).mp z
    omega
  have keep : ∀ (A2 : xM), (∀ i, i < 480 * (tx.length + 1) → A2 144 i = A 144 i) → (∀ i, i < 3 * (tx.length + 1) → A2 145 i = A 145 i) → A2 131 = A 131 → iv_tx1 (A2 144) (A2 145) 0 9 (A2 131) 7 8 ∧ ∀ t q, tx[t]? = some q → iv_tx1 (A2 144) (A2 145) (t + 1) q.1 q.2.1 q.2.2.1 q.2.2.2 := fun A2 h1 h2 h3 => by
    refine ⟨?_, fun t q hq => ?_⟩
    · rw [h3]
      exact tx1_keep h1 h2 (by omega) v12.1
    · have : t < tx.length := by
        rcases Nat.lt_or_ge t tx.length with y | y
        · exact y
        · rw [List.getElem?_eq_none y] at hq; cases hq
      exact tx1_keep h1 h2 (by omega) (v12.2 t q hq)
  rcases t_ex (v := tV (A 96) (N 4)) (cC_end (t := A 96) z3) with ⟨k, hF⟩ | ⟨l1, l2, l3, hG⟩
  · obtain ⟨x, y, A1, V1, e1, f1, a1, b1⟩ := c_readF (cu := cu) z3 rfl z1 hF
    have hts : tS (A 96) (N 4) k ≤ 160 := Nat.le_trans tS_le z3
    have hf : V1 95 2 ≠ -1 := by rw [f1]; exact nI_m1 hts
    refine xe_mono ?_ (s_textF (by omega) h6 e1 hf)
    rintro r h ⟨rfl, rfl⟩
    have hF' : tF (cC (A 143) (N 4)) (tV (A 143) (N 4)) k := by
      rw [← hcc]
      exact tF_c (fun k hk => (hs k).2.2.2 hk) hF
    have hL1 : lets A1 := by
      unfold lets
      rw [a1 146 (by decide), a1 147 (by decide)]
      exact hL
    obtain ⟨A2, V2, e2, f2⟩ := r_allF (cu := cu) (t := tx.length + 1) (A := A1) (V := up2 V1 95 1 0) z3 (by omega) (a1 143 (by decide)) hL1 (by rw [up2_n (by omega), b1 _ _ (by decide)]; exact z2) hF'
    have e3 : fX9_text A1 (up2 V1 95 1 0) cu = some (-100 - V1 95 2, A2, up2 V2 132 14 0, cu) := by
      unfold fX9_text
      have h15 : (up2 V1 95 1 0) 132 15 = nI (tx.length + 1) := by rw [up2_n (by omega), b1 _ _ (by decide)]; exact t2
      rw [h15, if_neg n6, e2, bX_s, ← (hs k).2.1, if_neg (nI_m1 hts), f1]
    refine ⟨-100 - V1 95 2, A1, up2 V1 95 1 0, tx, cu, rfl, rfl, xe_mono ?_ (sX9_text (by omega) e3)⟩
    rintro r h ⟨rfl, rfl⟩
    refine ⟨rfl, va_up N 4 0, B, A2, up2 V2 132 14 0, tx, cu, rfl, iv_made hv (fun a g1 g2 g3 g4 g5 => (f2.1 a g2 g3 g4 g5).trans (a1 a g1)) (fun a j g1 g2 g3 => by rw [up2_n (by omega), f2.2.2.2 a j (by omega), up2_n (by omega), b1 a j g1]) ?_ ?_ t3 (Nat.le_refl _) ?_ (up2_s _ _ _ _) ?_⟩
    · rw [up2_n (by omega), f2.2.2.2 _ _ (by omega), up2_n (by omega), b1 _ _ (by decide)]
      exact t1
    · rw [up2_n (by omega), f2.2.2.2 _ _ (by omega), up2_n (by omega), b1 _ _ (by decide)]
      exact t2
    · rw [up2_n (by omega), f2.2.2.2 _ _ (by omega), up2_s]
    · exact keep A2 (fun i hi => by rw [f2.2.1 i hi, a1 144 (by decide)]) (fun i hi => by rw [f2.2.2.1 i hi, a1 145 (by decide)]) ((f2.1 131 (by decide) (by decide) (by decide) (by decide)).trans (a1 131 (by decide)))
  · obtain ⟨A1, V1, e1, f1, f4, fl, fo, a1, b1⟩ := c_readG (cu := cu) z3 rfl z1 hG
    have hG' : tG (cC (A 143) (N 4)) (tV (A 143) (N 4)) l1 l2 l3 := by
      rw [← hcc]
      exact tG_c (fun k hk => (hs k).2.2.2 hk) hG
    obtain ⟨k1, k2, k3, q1, q2, q3, q4⟩ := hG
    have hc := cC_end (t := A 96) z3
    have g1 := pQ_b2 (p := 0) (k := 0) hc (by omega) (by omega) q1
    have g2 := pQ_b2 (p := 1) hc (by omega) g1.2 q2
    have g3 := pQ_b2 (p := 2) hc (by omega) g2.2 q3
    obtain ⟨m, hm⟩ : ∃ m, m = (l1 ++ l2 ++ l3).length := ⟨_, rfl⟩
    rw [← hm] at f4 fl fo
    have hm' : m = l1.length + l2.length + l3.length := by rw [hm, List.length_append, List.length_append]
    have h15 : V1 64 15 = nI (tx.length + 1) := by rw [b1 _ _ (by decide)]; exact t1
    refine xe_mono ?_ (s_textG (by omega) h6 e1 f1 f4 (by omega) h15 (by omega))
    rintro r h ⟨rfl, rfl⟩
    have hL1 : lets A1 := by
      unfold lets
      rw [a1 146 (by decide), a1 147 (by decide)]
      exact hL
    obtain ⟨f, hf⟩ : ∃ f, f = va_cpy (A1 97) (fun _ => (0 : Int32)) 0 0 m := ⟨_, rfl⟩
    have hfi : ∀ i, i < m → f i = (l1 ++ l2 ++ l3).getD i 0 := fun i hi => by
      rw [hf]
      unfold va_cpy
      rw [if_pos ⟨Nat.zero_le _, by omega⟩, Nat.zero_add, Nat.sub_zero]
      exact fo i hi
    rw [← hf]
    obtain ⟨V3, hV3⟩ : ∃ V3, V3 = up2 (up2 V1 95 1 0) 64 15 (nI (tx.length + 2)) := ⟨_, rfl⟩
    rw [← hV3]
    have u : ∀ a j, ¬ (a = 95 ∧ j = 1) → ¬ (a = 64 ∧ j = 15) → V3 a j = V1 a j := fun a j h1 h2 => by rw [hV3, up2_n h2, up2_n h1]
    obtain ⟨A2, V2, e2, f2, r1, r2, r3⟩ := r_allG (cu := cu) (t := tx.length + 1) (A := A1) (V := V3) z3 (by omega) (a1 143 (by decide)) hL1 (by rw [u _ _ (by omega) (by omega), b1 _ _ (by decide)]; exact z2) hG'
    have w15 : V2 132 15 = nI (tx.length + 1) := by rw [f2.2.2.2 _ _ (by omega), u _ _ (by omega) (by omega), b1 _ _ (by decide)]; exact t2
    have e3 : fX9_text A1 V3 cu = some (nI (tx.length + 1), A2, up2 (up2 V2 132 14 0) 132 15 (nI (tx.length + 2)), cu) := by
      unfold fX9_text
      have h15 : V3 132 15 = nI (tx.length + 1) := by rw [u _ _ (by omega) (by omega), b1 _ _ (by decide)]; exact t2
      rw [h15, if_neg n6, e2, bX_s, if_pos rfl, up2_s, up2_n (show ¬ (132 = 132 ∧ 15 = 14) by omega), w15, nI_1, nI_p1]
    refine ⟨nI (tx.length + 1), A1, V3, _, cu, rfl, rfl, xe_mono ?_ (sX9_text (by omega) e3)⟩
    rintro r h ⟨rfl, rfl⟩
    have hlen : (tx ++ [(m, f, nI l1.length, nI (l1.length + l2.length))]).length = tx.length + 1 := by rw [List.length_append]; rfl
    refine ⟨rfl, va_up N 4 0, B, A2, _, _, cu, rfl, iv_made hv (fun a g1 g2 g3 g4 g5 => (f2.1 a g2 g3 g4 g5).trans (a1 a g1)) (fun a j g1 g2 g3 => by rw [up2_n (by omega), up2_n (by omega), f2.2.2.2 a j (by omega), u a j (by omega) g2, b1 a j g1]) ?_ ?_ (by rw [hlen]; omega) (by rw [hlen]; omega) ?_ ?_ ?_⟩
    · rw [hlen, up2_n (by omega), up2_n (by omega), f2.2.2.2 _ _ (by omega), hV3, up2_s]
    · rw [hlen, up2_s]
    · rw [up2_n (by omega), up2_n (by omega), f2.2.2.2 _ _ (by omega), hV3, up2_n (by omega), up2_s]
    · rw [up2_n (by omega), up2_s]
    · obtain ⟨k1', k2'⟩ := keep A2 (fun i hi => by rw [f2.2.1 i hi, a1 144 (by decide)]) (fun i hi => by rw [f2.2.2.1 i hi, a1 145 (by decide)]) ((f2.1 131 (by decide) (by decide) (by decide) (by decide)).trans (a1 131 (by decide)))
      refine ⟨k1', fun t q hq => ?_⟩
      rcases Nat.lt_or_ge t tx.length with y | y
      · rw [List.getElem?_append_left y] at hq
        exact k2' t q hq
      · rw [List.getElem?_append_right y] at hq
        have hz : t - tx.length = 0 := by
          rcases Nat.eq_zero_or_pos (t - tx.length) with w | w
          · exact w
          · rw [List.getElem?_eq_none (by rw [List.length_singleton]; omega)] at hq; cases hq
        rw [hz] at hq
        cases hq
        have htt : t = tx.length := by omega
        rw [htt]
        have i1 : ∀ j, j < l1.length → f (0 + j) = l1.getD j 0 := fun j hj => by rw [Nat.zero_add, hfi j (by omega), List.append_assoc, gd_l hj]
        have i2 : ∀ j, j < l2.length → f (l1.length + j) = l2.getD j 0 := fun j hj => by rw [hfi _ (by omega), List.append_assoc, gd_r, gd_l hj]
        have i3 : ∀ j, j < l3.length → f (l1.length + l2.length + j) = l3.getD j 0 := fun j hj => by rw [hfi _ (by omega), ← List.length_append, gd_r]
        refine ⟨l1.length, l1.length + l2.length, rfl, rfl, by omega, by show _ ≤ m; omega, fl, ⟨r1.1, fun j hj => ?_, pQ_pfd q1 i1⟩, ?_, ?_⟩
        · show A2 144 _ = tr (f (0 + j))
          rw [i1 j hj]
          exact r1.2 j hj
        · rw [show l1.length + l2.length - l1.length = l2.length by omega]
          refine ⟨r2.1, fun j hj => ?_, pQ_pfd q2 i2⟩
          show A2 144 _ = tr (f (l1.length + j))
          rw [i2 j hj]
          exact r2.2 j hj
        · rw [show m - (l1.length + l2.length) = l3.length by omega]
          refine ⟨r3.1, fun j hj => ?_, pQ_pfd q3 i3⟩
          show A2 144 _ = tr (f (l1.length + l2.length + j))
          rw [i3 j hj]
          exact r3.2 j hj
end OT
