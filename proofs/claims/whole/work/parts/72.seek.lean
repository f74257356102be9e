/-! PLANS, the class's search, all of it. -/
section CT
variable {N : Nat → Nat} {B : Nat → Nat → Nat} {A V A1 V1 : xM} {tx : List xh_T} {cu : Value} {K : Nat → Nat}
theorem c_L96e {ex : xM → xM → Value → Option (Int32 × xS)} {l1 l2 l3 c1 : Int32} {D fu : Nat} (hD : 1 ≤ D) (hD2 : D ≤ 1000) (h : V1 84 0 = nI D) : fX3_seek_L96 tx l1 l2 l3 ex (fu + 1) c1 A1 V1 cu = ex A1 V1 cu := by
  rw [fX3_seek_L96]
  split
  · rfl
  · split
    · rfl
    · rw [if_neg (by rw [h]; simp (disch := omega) only [ltI, leI, eqI, tI, tI1, ti_0, ti_1, ti_2, ti_3, ti_4, ti_5, ti_6, ti_7, ti_8, ti_9, ti_10, ti_11, ti_12, ti_14, ti_18, ti_30, ti_39, ti_40, ti_41, ti_45, ti_50, ti_59, ti_97, ti_99, ti_100, ti_122, ti_160, ti_243, ti_255, ti_399, ti_999, ti_1000, ti_1024, ti_99999, tm_1, tm_2, tm_3, tm_4, tm_5, tm_7, tm_11, tm_12, tm_13, tm_14, tm_100, if_pos, if_neg, if_true, if_false, bC_in, bI_s, bS_s, bX_s, bY_s, sO, tC]; omega)]
theorem c_L96 (hv : iv N B A V tx cu) {s r aw' wa no a0 : Nat} (hs : s < N 0) (hr : r < 4) (haw : aw' < 32) (hwa : wa < 32) (hno : no < 32) (h0 : ¬ wnt wa a0) (ex : xM → xM → Value → Option (Int32 × xS)) : ∀ k i fu (A1 V1 : xM) (re : Nat) (ln : Nat → Nat) (fr : Nat → Option Nat) (lb : Nat → Nat), cenv N B tx A V s r A1 V1 → i + k = 243 → k < fu → i ≤ re → BI (dlC N B tx (A 131) (A 135 s) s r aw' no) (2 ^ N 1) a0 i 1 re ln fr lb → OI i 1 re ln fr lb → carr A1 V1 re ln fr lb → gI V1 (dlC N B tx (A 131) (A 135 s) s r aw' no) (2 ^ N 1) (wnt wa) i 1 ln → ∃ (A2 V2 : xM), fX3_seek_L96 tx (nI wa) (nI no) (nI aw') ex fu (nI i) A1 V1 (.ref (tref (N 3))) = ex A2 V2 (.ref (tref (N 3))) ∧ cenv N B tx A V s r A2 V2 ∧ cres V2 (dlC N B tx (A 131) (A 135 s) s r aw' no) (2 ^ N 1) a0 (wnt wa) := by
  have hpos := Nat.two_pow_pos (N 1)
  have h32 := p2_32 _ hv.1.2.1.2.2
  intro k
  induction k with
  | zero =>
    intro i fu A1 V1 re ln fr lb he hi hf hir hB hO hca hF
    obtain ⟨fu, rfl⟩ : ∃ m, fu = m + 1 := ⟨fu - 1, by omega⟩
    have hre3 : re ≤ 243 := re_le hB (fun k hk => (hca.2.1 k hk).2.2)
    have hie : i = re := by omega
    refine ⟨A1, V1, ?_, he, ?_⟩
    · rw [fX3_seek_L96, hca.1, if_pos (by simp (disch := omega) only [ltI, leI, eqI, tI, tI1, ti_0, ti_1, ti_2, ti_3, ti_4, ti_5, ti_6, ti_7, ti_8, ti_9, ti_10, ti_11, ti_12, ti_14, ti_18, ti_30, ti_39, ti_40, ti_41, ti_45, ti_50, ti_59, ti_97, ti_99, ti_100, ti_122, ti_160, ti_243, ti_255, ti_399, ti_999, ti_1000, ti_1024, ti_99999, tm_1, tm_2, tm_3, tm_4, tm_5, tm_7, tm_11, tm_12, tm_13, tm_14, tm_100, if_pos, if_neg, if_true, if_false, bC_in, bI_s, bS_s, bX_s, bY_s, sO, tC]; omega)]
    · subst hie
      exact g_end hF hB h0
  | succ k ih =>
    intro i fu A1 V1 re ln fr lb he hi hf hir hB hO hca hF
    obtain ⟨fu, rfl⟩ : ∃ m, fu = m + 1 := ⟨fu - 1, by omega⟩
    have hre3 : re ≤ 243 := re_le hB (fun k hk => (hca.2.1 k hk).2.2)
    by_cases hie : i = re
    · refine ⟨A1, V1, ?_, he, ?_⟩
      · rw [fX3_seek_L96, hca.1, if_pos (by simp (disch := omega) only [ltI, leI, eqI, tI, tI1, ti_0, ti_1, ti_2, ti_3, ti_4, ti_5, ti_6, ti_7, ti_8, ti_9, ti_10, ti_11, ti_12, ti_14, ti_18, ti_30, ti_39, ti_40, ti_41, ti_45, ti_50, ti_59, ti_97, ti_99, ti_100, ti_122, ti_160, ti_243, ti_255, ti_399, ti_999, ti_1000, ti_1024, ti_99999, tm_1, tm_2, tm_3, tm_4, tm_5, tm_7, tm_11, tm_12, tm_13, tm_14, tm_100, if_pos, if_neg, if_true, if_false, bC_in, bI_s, bS_s, bX_s, bY_s, sO, tC]; omega)]
      · subst hie
        exact g_end hF hB h0
    have hilt : i < re := by omega
    obtain ⟨d, hd, hdi⟩ : ∃ d, fr (ln i) = some d ∧ d ≤ i := hB.2.1 i hilt
    rw [fX3_seek_L96, hca.1, if_neg (by simp (disch := omega) only [ltI, leI, eqI, tI, tI1, ti_0, ti_1, ti_2, ti_3, ti_4, ti_5, ti_6, ti_7, ti_8, ti_9, ti_10, ti_11, ti_12, ti_14, ti_18, ti_30, ti_39, ti_40, ti_41, ti_45, ti_50, ti_59, ti_97, ti_99, ti_100, ti_122, ti_160, ti_243, ti_255, ti_399, ti_999, ti_1000, ti_1024, ti_99999, tm_1, tm_2, tm_3, tm_4, tm_5, tm_7, tm_11, tm_12, tm_13, tm_14, tm_100, if_pos, if_neg, if_true, if_false, bC_in, bI_s, bS_s, bX_s, bY_s, sO, tC]; omega), if_neg (by simp (disch := omega) only [ltI, leI, eqI, tI, tI1, ti_0, ti_1, ti_2, ti_3, ti_4, ti_5, ti_6, ti_7, ti_8, ti_9, ti_10, ti_11, ti_12, ti_14, ti_18, ti_30, ti_39, ti_40, ti_41, ti_45, ti_50, ti_59, ti_97, ti_99, ti_100, ti_122, ti_160, ti_243, ti_255, ti_399, ti_999, ti_1000, ti_1024, ti_99999, tm_1, tm_2, tm_3, tm_4, tm_5, tm_7, tm_11, tm_12, tm_13, tm_14, tm_100, if_pos, if_neg, if_true, if_false, bC_in, bI_s, bS_s, bX_s, bY_s, sO, tC]; omega), if_pos hF.1, sO]
    obtain ⟨A3, V3, g1, g2, g3⟩ := c_L3 hv (i := i) (a0 := a0) (d := d) hs hr haw hwa hno h0 (fun (A39 V40 : xM) (c41 : Value) => some (A39, V40, c41)) (2 ^ N 1 - 1) 1 FU A1 V1 re ln fr lb he (by omega) (Nat.le_refl _) (fu_gt (by omega)) hB hO hilt hca hd hF
    have hg : fX3_goOn tx (nI i) (nI wa) (nI no) (nI aw') A1 V1 (.ref (tref (N 3))) = some (A3, V3, .ref (tref (N 3))) := g1
    rw [hg, bS_s]
    rcases g3 with ⟨re', ln', fr', lb', q1, q2, q3, q4, q5⟩ | ⟨D, L, q1, q2, q3, q4, q5⟩
    · exact ih (i + 1) fu A3 V3 re' ln' fr' lb' g2 (by omega) (by omega) (by omega) (BI_next q2 q1) (OI_next q3 q2 q1) q4 (gI_next q5)
    · obtain ⟨fu, rfl⟩ : ∃ m, fu = m + 1 := ⟨fu - 1, by omega⟩
      exact ⟨A3, V3, c_L96e q1 q2 q3, g2, Or.inr ⟨D, L, by omega, q3, by unfold olb; rw [if_neg (by omega)]; exact q4, q5⟩⟩
def cpre (N : Nat → Nat) (B : Nat → Nat → Nat) (tx : List xh_T) (A V : xM) (s r : Nat) (A1 V1 : xM) : Prop := agr A V A1 V1 ∧ V1 84 13 = nI s ∧ V1 84 14 = nI (B 1 r) ∧ V1 81 5 = nI s ∧ n83 A1 s r ∧ cOK tx (A 131) (N 3) s r A1
theorem cenv_pre {s r : Nat} (h : cenv N B tx A V s r A1 V1) : cpre N B tx A V s r A1 V1 := ⟨h.1, h.2.1, h.2.2.1, h.2.2.2.1, h.2.2.2.2.1, h.2.2.2.2.2.1⟩
def sC (B : Nat → Nat → Nat) (s : Nat) : Nat := cd 3 (fun p => min (K0 B s p) 2) 5
theorem c_prep (hv : iv N B A V tx cu) (ha : agr A V A1 V1) (c1 : Value) (s r : Nat) : ∃ A2 V2, fX3_prepare (tref (N 3)) (nI s) (nI r) (nI (B 1 r)) A1 V1 c1 = some (A2, V2, .ref (tref (N 3))) ∧ cpre N B tx A V s r A2 V2 := by
  obtain ⟨A2, w1, w2, w3⟩ := c_fill (l0 := 94) (m := 216) rfl (by decide) (-1) (aw (aw (aw A1 83 (3 : Int32) (nI s)) 83 (4 : Int32) (nI r)) 83 (5 : Int32) 0) (up2 (up2 (up2 V1 81 5 (nI s)) 84 13 (nI s)) 84 14 (nI (B 1 r))) (.ref (tref (N 3)))
  refine ⟨A2, up2 (up2 (up2 V1 81 5 (nI s)) 84 13 (nI s)) 84 14 (nI (B 1 r)), ?_, ⟨fun a q => ?_, ?_⟩, by rw [up2_n (by omega), up2_s], by rw [up2_s], by rw [up2_n (by omega), up2_n (by omega), up2_s], ?_, fun k w b hk hw hb => Or.inl (w2 _ (by omega))⟩
  · unfold fX3_prepare fX6_begin
    rw [bS_s, w1, bS_s]
  · rw [w3 a (fun z => by subst z; cases q), aw_n (fun z => by subst z; cases q), aw_n (fun z => by subst z; cases q), aw_n (fun z => by subst z; cases q)]
    exact ha.1 a q
  · exact (agr_v (agr_v (agr_v ha rfl) rfl) rfl).2
  · unfold n83
    rw [w3 83 (by decide)]
    exact ⟨rfl, rfl, rfl⟩
theorem c_seek (hv : iv N B A V tx cu) {s r aw' wa no : Nat} (hs : s < N 0) (hr : r < 4) (haw : aw' < 32) (hwa : wa < 32) (hno : no < 32) (hp : cpre N B tx A V s r A1 V1) : ∃ A2 V2, fX3_seek tx (nI wa) (nI no) (nI aw') A1 V1 (.ref (tref (N 3))) = some (V2 84 0, A2, V2, .ref (tref (N 3))) ∧ cpre N B tx A V s r A2 V2 ∧ cres V2 (dlC N B tx (A 131) (A 135 s) s r aw' no) (2 ^ N 1) (sC B s) (wnt wa) := by
  obtain ⟨v1, v2, v3, v4, v5, v6, v7, v8, v9, v10, v11, v12, v13⟩ := id hv
  obtain ⟨⟨s1, s2, s3⟩, ⟨p1, p2, p3⟩, -, ⟨t1, t2, t3⟩, ⟨l1, l2, l3'⟩, -⟩ := v1
  have hs6 : s < 6 := by omega
  obtain ⟨ha, e12, e13, e5, en, eO⟩ := hp
  have hK2 : ∀ p, p < 5 → min (K0 B s p) 2 ≤ 2 := fun p _ => Nat.min_le_right _ _
  have ha03 : sC B s < 243 := cd3 hK2
  have edg : ∀ p, p < 5 → dg 3 (sC B s) p = min (K0 B s p) 2 := fun p hp => dg_cd (by decide) 5 (fun p hp => by have := hK2 p hp; omega) p hp
  obtain ⟨ew, eh⟩ := wC_min (f := K0 B s) (K := fun p => min (K0 B s p) 2) (fun p _ => rfl)
  obtain ⟨ew2, eh2⟩ := wC_min edg
  have f74 : A1 74 s = wC (fun p => min (K0 B s p) 2) := by rw [ha.1 74 rfl, (v7.2.1 s hs6).1, ew]; rfl
  have f75 : A1 75 s = hC' (fun p => min (K0 B s p) 2) := by rw [ha.1 75 rfl, (v7.2.1 s hs6).2.1, eh]; rfl
  have hw : nI wa &&& (wC (fun p => min (K0 B s p) 2) ^^^ (-1 : Int32)) = nI (mk5 (fun p => bt wa p && !Nat.ble 2 (dg 3 (sC B s) p))) := by
    have := m_sub (bt wa) (fun p => Nat.ble 2 (min (K0 B s p) 2))
    rw [bt_mk wa hwa] at this
    refine this.trans (congrArg nI (mk5_c (fun p hp => ?_)))
    rw [edg p hp]
  unfold fX3_seek
  have o12 : (up2 (up2 V1 84 0 (-1 : Int32)) 84 1 (-1 : Int32)) 84 13 = nI s := by rw [up2_n (by omega), up2_n (by omega)]; exact e12
  rw [o12, bC_in ⟨hs6, by decide⟩, tC (show s < 2 ^ 20 by omega), f74, hw]
  by_cases cw : wnt wa (sC B s)
  · have cw' : nI (mk5 (fun p => bt wa p && !Nat.ble 2 (dg 3 (sC B s) p))) = 0 := cw
    rw [if_pos cw']
    refine ⟨A1, up2 (up2 (up2 V1 84 0 (-1 : Int32)) 84 1 (-1 : Int32)) 84 0 (0 : Int32), rfl, ⟨agr_v (agr_v (agr_v ha rfl) rfl) rfl, by rw [up2_n (by omega)]; exact o12, by rw [up2_n (by omega), up2_n (by omega), up2_n (by omega)]; exact e13, by rw [up2_n (by omega), up2_n (by omega), up2_n (by omega)]; exact e5, en, eO⟩, Or.inr ⟨0, 0, by omega, up2_s _ _ _ _, by rw [up2_n (by omega), up2_s]; rfl, ⟨[], sC B s, rfl, cw, rfl, fun z => by omega⟩, fun w n _ _ => ⟨Nat.zero_le _, fun _ z => by omega⟩⟩⟩
  have cw' : ¬ nI (mk5 (fun p => bt wa p && !Nat.ble 2 (dg 3 (sC B s) p))) = 0 := cw
  rw [if_neg cw']
  obtain ⟨A2, x1, x2, x3⟩ := c_take (l0 := 85) (l2 := 73) (by omega) A1 (up2 (up2 V1 84 0 (-1 : Int32)) 84 1 (-1 : Int32)) (.ref (tref (N 3)))
  obtain ⟨A3, y1, y2, y3⟩ := c_fill (l0 := 89) (m := 243) rfl (by decide) 0 A2 (up2 (up2 V1 84 0 (-1 : Int32)) 84 1 (-1 : Int32)) (.ref (tref (N 3)))
  have o12b : (up2 (up2 (up2 V1 84 0 (-1 : Int32)) 84 1 (-1 : Int32)) 84 11 (0 : Int32)) 84 13 = nI s := by rw [up2_n (by omega)]; exact o12
  have f74b : A3 74 s = wC (fun p => min (K0 B s p) 2) := by rw [y3 74 (by decide), x3 74 (by decide) (by decide) (by decide)]; exact f74
  have f75b : A3 75 s = hC' (fun p => min (K0 B s p) 2) := by rw [y3 75 (by decide), x3 75 (by decide) (by decide) (by decide)]; exact f75
  obtain ⟨A4, hA4⟩ : ∃ A4, A4 = aw (aw (aw (aw (aw A3 89 (nI (sC B s)) 1) 90 (0 : Int32) (wC (fun p => min (K0 B s p) 2))) 91 (0 : Int32) (hC' (fun p => min (K0 B s p) 2))) 92 (0 : Int32) 0) 93 (0 : Int32) 0 := ⟨_, rfl⟩
  obtain ⟨V4, hV4⟩ : ∃ V4, V4 = up2 (up2 (up2 (up2 V1 84 0 (-1 : Int32)) 84 1 (-1 : Int32)) 84 11 (0 : Int32)) 84 11 (0 + 1 : Int32) := ⟨_, rfl⟩
  have hreach : fX3_reach (wC (fun p => min (K0 B s p) 2)) (hC' (fun p => min (K0 B s p) 2)) 0 0 A3 (up2 (up2 (up2 V1 84 0 (-1 : Int32)) 84 1 (-1 : Int32)) 84 11 (0 : Int32)) (.ref (tref (N 3))) = some (A4, V4, .ref (tref (N 3))) := by
    unfold fX3_reach
    rw [c_stand hK2, bI_s, show cd 3 (fun p => min (K0 B s p) 2) 5 = sC B s from rfl, if_neg (by simp (disch := omega) only [ltI, leI, eqI, tI, tI1, ti_0, ti_1, ti_2, ti_3, ti_4, ti_5, ti_6, ti_7, ti_8, ti_9, ti_10, ti_11, ti_12, ti_14, ti_18, ti_30, ti_39, ti_40, ti_41, ti_45, ti_50, ti_59, ti_97, ti_99, ti_100, ti_122, ti_160, ti_243, ti_255, ti_399, ti_999, ti_1000, ti_1024, ti_99999, tm_1, tm_2, tm_3, tm_4, tm_5, tm_7, tm_11, tm_12, tm_13, tm_14, tm_100, if_pos, if_neg, if_true, if_false, bC_in, bI_s, bS_s, bX_s, bY_s, sO, tC]; omega), if_neg (by simp (disch := omega) only [ltI, leI, eqI, tI, tI1, ti_0, ti_1, ti_2, ti_3, ti_4, ti_5, ti_6, ti_7, ti_8, ti_9, ti_10, ti_11, ti_12, ti_14, ti_18, ti_30, ti_39, ti_40, ti_41, ti_45, ti_50, ti_59, ti_97, ti_99, ti_100, ti_122, ti_160, ti_243, ti_255, ti_399, ti_999, ti_1000, ti_1024, ti_99999, tm_1, tm_2, tm_3, tm_4, tm_5, tm_7, tm_11, tm_12, tm_13, tm_14, tm_100, if_pos, if_neg, if_true, if_false, bC_in, bI_s, bS_s, bX_s, bY_s, sO, tC]; omega), bC_in ⟨ha03, by decide⟩, tC (by omega), y2 _ ha03, if_pos rfl, up2_s, if_pos (by decide), hA4, hV4]
    rfl
  have o4 : ∀ b, b ≠ 86 → b ≠ 87 → b ≠ 88 → b ≠ 89 → b ≠ 90 → b ≠ 91 → b ≠ 92 → b ≠ 93 → A4 b = A1 b := fun b b1 b2 b3 b4 b5 b6 b7 b8 => by rw [hA4, aw_n b8, aw_n b7, aw_n b6, aw_n b5, aw_n b4, y3 b b4, x3 b b1 b2 b3]
  have ov : ∀ a k, ¬ (a = 84 ∧ (k = 11 ∨ k = 0 ∨ k = 1)) → V4 a k = V1 a k := fun a k h => by rw [hV4, up2_n (by omega), up2_n (by omega), up2_n (by omega), up2_n (by omega)]
  have he4 : cenv N B tx A V s r A4 V4 := by
    refine ⟨⟨fun a q => ?_, fun a k q => ?_⟩, by rw [ov _ _ (by omega)]; exact e12, by rw [ov _ _ (by omega)]; exact e13, by rw [ov _ _ (by omega)]; exact e5, ?_, ?_, fun t ht _ => ?_⟩
    · rw [o4 a (fun z => by subst z; cases q) (fun z => by subst z; cases q) (fun z => by subst z; cases q) (fun z => by subst z; cases q) (fun z => by subst z; cases q) (fun z => by subst z; cases q) (fun z => by subst z; cases q) (fun z => by subst z; cases q)]
      exact ha.1 a q
    · rw [ov a k (fun z => by obtain ⟨rfl, z⟩ := z; cases q)]
      exact ha.2 a k q
    · unfold n83
      rw [o4 83 (by decide) (by decide) (by decide) (by decide) (by decide) (by decide) (by decide) (by decide)]
      exact en
    · unfold cOK
      rw [o4 94 (by decide) (by decide) (by decide) (by decide) (by decide) (by decide) (by decide) (by decide)]
      exact eO
    · rw [hA4, aw_n (by decide), aw_n (by decide), aw_n (by decide), aw_n (by decide), aw_n (by decide), y3 86 (by decide)]
      have := x2 t 1 (Or.inl rfl) ht
      refine this.trans ?_
      show A1 74 t = _
      rw [ha.1 74 rfl]
  have hca4 : carr A4 V4 1 (fun _ => sC B s) (fun n => if n = sC B s then some 0 else none) (fun _ => 0) := by
    refine ⟨by rw [hV4, up2_s]; rfl, fun k hk => ?_, fun n hn => ?_, fun n e hn he => ?_⟩
    · have : k = 0 := by omega
      subst this
      refine ⟨?_, ?_, ha03⟩
      · rw [hA4, aw_n (by decide), aw_n (by decide), aw_n (by decide), aw_s]
        show wC _ = wC _
        rw [ew, ew2]
      · rw [hA4, aw_n (by decide), aw_n (by decide), aw_s]
        show hC' _ = hC' _
        rw [eh, eh2]
    · rw [hA4, aw_n (by decide), aw_n (by decide), aw_n (by decide), aw_n (by decide), aw_s, tC (by omega)]
      by_cases z : n = sC B s
      · rw [z, pk_us]; show _ = om (if sC B s = sC B s then some 0 else none); rw [if_pos rfl]; rfl
      · rw [pk_un z, y2 n hn]; show _ = om (if n = sC B s then some 0 else none); rw [if_neg z]; rfl
    · have : n = 0 := by omega
      subst this
      have he : (if sC B s = sC B s then some 0 else none) = some e := he
      rw [if_pos rfl] at he
      have he : 0 = e := Option.some.inj he
      subst he
      refine ⟨?_, ?_⟩
      · rw [hA4, aw_n (by decide), aw_s]; rfl
      · rw [hA4, aw_s]; rfl
  have hO4 : OI 0 1 1 (fun _ => sC B s) (fun n => if n = sC B s then some 0 else none) (fun _ => 0) := by
    refine ⟨fun _ _ _ _ _ _ _ _ => Nat.le_refl _, fun _ d _ _ h1 h2 => Nat.zero_le _⟩
  obtain ⟨A9, V9, z1, z2, z3⟩ := c_L96 hv hs hr haw hwa hno cw (fun (A31 V32 : xM) (c33 : Value) => some ((V32 84 0), A31, V32, c33)) 243 0 FU A4 V4 1 (fun _ => sC B s) (fun n => if n = sC B s then some 0 else none) (fun _ => 0) he4 (by omega) (fu_gt (by omega)) (by omega) (BI_0 (fun _ => sC B s) rfl (fun _ => 0)) hO4 hca4 ⟨by rw [hV4, up2_n (by omega), up2_n (by omega), up2_n (by omega), up2_s], by rw [hV4, up2_n (by omega), up2_n (by omega), up2_s], fun k e m hp h1 _ _ => by unfold pcd at hp; omega⟩
  refine ⟨A9, V9, ?_, cenv_pre z2, z3⟩
  rw [x1, bS_s, y1, bS_s, o12b, bC_in ⟨hs6, by decide⟩, tC (show s < 2 ^ 20 by omega), f74b, f75b, hreach, bS_s]
  exact z1
end CT
