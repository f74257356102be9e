/-! PLANS, the class's search. -/
def cenv (N : Nat → Nat) (B : Nat → Nat → Nat) (tx : List xh_T) (A V : xM) (s r : Nat) (A1 V1 : xM) : Prop := agr A V A1 V1 ∧ V1 84 13 = nI s ∧ V1 84 14 = nI (B 1 r) ∧ V1 81 5 = nI s ∧ n83 A1 s r ∧ cOK tx (A 131) (N 3) s r A1 ∧ ∀ t, t < 6 → t ≠ s → A1 86 t = A 74 t
section CS
variable {N : Nat → Nat} {B : Nat → Nat → Nat} {A V A1 V1 : xM} {tx : List xh_T} {cu : Value} {K : Nat → Nat}
theorem cenv_c {s r : Nat} {A2 V2 : xM} (h : cenv N B tx A V s r A1 V1) (h1 : ∀ b, b ≠ 89 → b ≠ 90 → b ≠ 91 → b ≠ 92 → b ≠ 93 → A2 b = A1 b) (h2 : ∀ a k, ¬ (a = 84 ∧ (k = 11 ∨ k = 0 ∨ k = 1)) → V2 a k = V1 a k) : cenv N B tx A V s r A2 V2 := by
  obtain ⟨g1, g2, g3, g4, g5, g6, g7⟩ := h
  refine ⟨⟨fun a q => ?_, fun a k q => ?_⟩, by rw [h2 _ _ (by omega)]; exact g2, by rw [h2 _ _ (by omega)]; exact g3, by rw [h2 _ _ (by omega)]; exact g4, ?_, ?_, fun t ht hts => by rw [h1 86 (by decide) (by decide) (by decide) (by decide) (by decide)]; exact g7 t ht hts⟩
  · rw [h1 a (fun z => by subst z; cases q) (fun z => by subst z; cases q) (fun z => by subst z; cases q) (fun z => by subst z; cases q) (fun z => by subst z; cases q)]
    exact g1.1 a q
  · rw [h2 a k (fun z => by obtain ⟨rfl, z⟩ := z; cases q)]
    exact g1.2 a k q
  · unfold n83
    rw [h1 83 (by decide) (by decide) (by decide) (by decide) (by decide)]
    exact g5
  · unfold cOK
    rw [h1 94 (by decide) (by decide) (by decide) (by decide) (by decide)]
    exact g6
theorem carr_c {re : Nat} {ln : Nat → Nat} {fr : Nat → Option Nat} {lb : Nat → Nat} {A2 V2 : xM} (h : carr A1 V1 re ln fr lb) (h1 : A2 89 = A1 89) (h2 : A2 90 = A1 90) (h3 : A2 91 = A1 91) (h4 : A2 92 = A1 92) (h6 : A2 93 = A1 93) (h5 : V2 84 11 = V1 84 11) : carr A2 V2 re ln fr lb := by
  unfold carr
  rw [h1, h2, h3, h4, h6, h5]
  exact h
/-- how a turn of the line ends: all companies are through, or it is found -/
def gO (N : Nat → Nat) (B : Nat → Nat → Nat) (A V : xM) (tx : List xh_T) (s r aw' wa no i a0 : Nat) (A2 V2 : xM) : Prop :=
  (∃ (re : Nat) (ln : Nat → Nat) (fr : Nat → Option Nat) (lb : Nat → Nat), i < re ∧ BI (dlC N B tx (A 131) (A 135 s) s r aw' no) (2 ^ N 1) a0 i (2 ^ N 1) re ln fr lb ∧ OI i (2 ^ N 1) re ln fr lb ∧ carr A2 V2 re ln fr lb ∧ gI V2 (dlC N B tx (A 131) (A 135 s) s r aw' no) (2 ^ N 1) (wnt wa) i (2 ^ N 1) ln) ∨
  ∃ D L, 1 ≤ D ∧ D ≤ 1000 ∧ V2 84 0 = nI D ∧ V2 84 1 = nI L ∧ isBest (dlC N B tx (A 131) (A 135 s) s r aw' no) (2 ^ N 1) a0 (wnt wa) D L
/-- what is found ends the companies -/
theorem c_L3e {ex : xM → xM → Value → Option xS} {l1 l2 l3 l4 c1 : Int32} {D fu : Nat} (hD : 1 ≤ D) (hD2 : D ≤ 1000) (h : V1 84 0 = nI D) : fX3_goOn_L3 tx l1 l2 l3 l4 ex (fu + 1) c1 A1 V1 cu = ex A1 V1 cu := by
  rw [fX3_goOn_L3]
  split
  · rfl
  · rw [if_neg (by rw [h]; simp (disch := omega) only [ltI, leI, eqI, tI, tI1, ti_0, ti_1, ti_2, ti_3, ti_4, ti_5, ti_6, ti_7, ti_8, ti_9, ti_10, ti_11, ti_12, ti_14, ti_18, ti_30, ti_39, ti_40, ti_41, ti_45, ti_50, ti_59, ti_97, ti_99, ti_100, ti_122, ti_160, ti_243, ti_255, ti_399, ti_999, ti_1000, ti_1024, ti_99999, tm_1, tm_2, tm_3, tm_4, tm_5, tm_7, tm_11, tm_12, tm_13, tm_14, tm_100, if_pos, if_neg, if_true, if_false, bC_in, bI_s, bS_s, bX_s, bY_s, sO, tC]; omega)]
theorem c_L3 (hv : iv N B A V tx cu) {s r aw' wa no i a0 d : Nat} (hs : s < N 0) (hr : r < 4) (haw : aw' < 32) (hwa : wa < 32) (hno : no < 32) (h0 : ¬ wnt wa a0) (ex : xM → xM → Value → Option xS) : ∀ k c fu (A1 V1 : xM) (re : Nat) (ln : Nat → Nat) (fr : Nat → Option Nat) (lb : Nat → Nat), cenv N B tx A V s r A1 V1 → c + k = 2 ^ N 1 → 1 ≤ c → k < fu → BI (dlC N B tx (A 131) (A 135 s) s r aw' no) (2 ^ N 1) a0 i c re ln fr lb → OI i c re ln fr lb → i < re → carr A1 V1 re ln fr lb → fr (ln i) = some d → gI V1 (dlC N B tx (A 131) (A 135 s) s r aw' no) (2 ^ N 1) (wnt wa) i c ln → ∃ (A2 V2 : xM), fX3_goOn_L3 tx (nI i) (nI wa) (nI no) (nI aw') ex fu (nI c) A1 V1 (.ref (tref (N 3))) = ex A2 V2 (.ref (tref (N 3))) ∧ cenv N B tx A V s r A2 V2 ∧ gO N B A V tx s r aw' wa no i a0 A2 V2 := by
  obtain ⟨v1, v2, v3, v4, v5, v6, v7, v8, v9, v10, v11, v12, v13⟩ := id hv
  obtain ⟨⟨s1, s2, s3⟩, ⟨p1, p2, p3⟩, -, ⟨t1, t2, t3⟩, ⟨l1, l2, l3'⟩, -⟩ := v1
  have h32 := p2_32 _ p3
  have hq := sh_q (N 1) (by omega)
  obtain ⟨r1, r2, r3', r4⟩ := v3 r hr
  have hpos := Nat.two_pow_pos (N 1)
  have hs6 : s < 6 := by omega
  intro k
  induction k with
  | zero =>
    intro c fu A1 V1 re ln fr lb he hc _ hf hB hO hi hca hd hF
    obtain ⟨fu, rfl⟩ : ∃ m, fu = m + 1 := ⟨fu - 1, by omega⟩
    have e3 : V1 65 3 = nI (N 1) := (he.1.2 65 3 rfl).trans p1
    have hcM : c = 2 ^ N 1 := by omega
    rw [hcM] at hB hO hF
    refine ⟨A1, V1, ?_, he, Or.inl ⟨re, ln, fr, lb, hi, hB, hO, hca, hF⟩⟩
    rw [fX3_goOn_L3, e3, hq, if_pos (by simp (disch := omega) only [ltI, leI, eqI, tI, tI1, ti_0, ti_1, ti_2, ti_3, ti_4, ti_5, ti_6, ti_7, ti_8, ti_9, ti_10, ti_11, ti_12, ti_14, ti_18, ti_30, ti_39, ti_40, ti_41, ti_45, ti_50, ti_59, ti_97, ti_99, ti_100, ti_122, ti_160, ti_243, ti_255, ti_399, ti_999, ti_1000, ti_1024, ti_99999, tm_1, tm_2, tm_3, tm_4, tm_5, tm_7, tm_11, tm_12, tm_13, tm_14, tm_100, if_pos, if_neg, if_true, if_false, bC_in, bI_s, bS_s, bX_s, bY_s, sO, tC]; omega)]
  | succ k ih =>
    intro c fu A1 V1 re ln fr lb he hc hc1 hf hB hO hi hca hd hF
    obtain ⟨fu, rfl⟩ : ∃ m, fu = m + 1 := ⟨fu - 1, by omega⟩
    have he0 := he
    obtain ⟨ha, e12, e13, e5, en, eO, e86⟩ := he
    have e3 : V1 65 3 = nI (N 1) := (ha.2 65 3 rfl).trans p1
    have hc32 : c < 32 := by omega
    have cc := ct_le (bt c)
    obtain ⟨w91, w92, hl3⟩ := hca.2.1 i hi
    obtain ⟨f92, f93⟩ := hca.2.2.2 i d hi hd
    have hre3 : re ≤ 243 := re_le hB (fun k hk => (hca.2.1 k hk).2.2)
    have hdr := fr_lt hB hd
    have hand : nI c &&& nI aw' = nI (mk5 (fun p => bt c p && bt aw' p)) := by
      have := m_and (bt c) (bt aw')
      rw [bt_mk c hc32, bt_mk aw' haw] at this
      exact this
    -- nothing comes of it
    have skip : ∀ (A' : xM), cenv N B tx A V s r A' V1 → carr A' V1 re ln fr lb → dlC N B tx (A 131) (A 135 s) s r aw' no (ln i) c = none → ∃ (A2 V2 : xM), fX3_goOn_L3 tx (nI i) (nI wa) (nI no) (nI aw') ex fu (nI (c + 1)) A' V1 (.ref (tref (N 3))) = ex A2 V2 (.ref (tref (N 3))) ∧ cenv N B tx A V s r A2 V2 ∧ gO N B A V tx s r aw' wa no i a0 A2 V2 := by
      intro A' q1 q2 q3
      exact ih (c + 1) fu A' V1 re ln fr lb q1 (by omega) (by omega) (by omega) (BI_none hB q3) (OI_c hO) hi q2 hd (gI_no hF (fun m hm => by rw [q3] at hm; cases hm))
    rw [fX3_goOn_L3, e3, hq, if_neg (by simp (disch := omega) only [ltI, leI, eqI, tI, tI1, ti_0, ti_1, ti_2, ti_3, ti_4, ti_5, ti_6, ti_7, ti_8, ti_9, ti_10, ti_11, ti_12, ti_14, ti_18, ti_30, ti_39, ti_40, ti_41, ti_45, ti_50, ti_59, ti_97, ti_99, ti_100, ti_122, ti_160, ti_243, ti_255, ti_399, ti_999, ti_1000, ti_1024, ti_99999, tm_1, tm_2, tm_3, tm_4, tm_5, tm_7, tm_11, tm_12, tm_13, tm_14, tm_100, if_pos, if_neg, if_true, if_false, bC_in, bI_s, bS_s, bX_s, bY_s, sO, tC]; omega), if_pos hF.1, m_cnt_c hc32, bI_s, e13, hand, sO]
    by_cases cs : B 1 r < ct (bt c)
    · rw [if_pos (by simp (disch := omega) only [ltI, leI, eqI, tI, tI1, ti_0, ti_1, ti_2, ti_3, ti_4, ti_5, ti_6, ti_7, ti_8, ti_9, ti_10, ti_11, ti_12, ti_14, ti_18, ti_30, ti_39, ti_40, ti_41, ti_45, ti_50, ti_59, ti_97, ti_99, ti_100, ti_122, ti_160, ti_243, ti_255, ti_399, ti_999, ti_1000, ti_1024, ti_99999, tm_1, tm_2, tm_3, tm_4, tm_5, tm_7, tm_11, tm_12, tm_13, tm_14, tm_100, if_pos, if_neg, if_true, if_false, bC_in, bI_s, bS_s, bX_s, bY_s, sO, tC]; omega)]
      exact skip A1 he0 hca (by unfold dlC; rw [if_neg (fun z => by have := z.2.1; omega)])
    rw [if_neg (by simp (disch := omega) only [ltI, leI, eqI, tI, tI1, ti_0, ti_1, ti_2, ti_3, ti_4, ti_5, ti_6, ti_7, ti_8, ti_9, ti_10, ti_11, ti_12, ti_14, ti_18, ti_30, ti_39, ti_40, ti_41, ti_45, ti_50, ti_59, ti_97, ti_99, ti_100, ti_122, ti_160, ti_243, ti_255, ti_399, ti_999, ti_1000, ti_1024, ti_99999, tm_1, tm_2, tm_3, tm_4, tm_5, tm_7, tm_11, tm_12, tm_13, tm_14, tm_100, if_pos, if_neg, if_true, if_false, bC_in, bI_s, bS_s, bX_s, bY_s, sO, tC]; omega)]
    by_cases ca : mk5 (fun p => bt c p && bt aw' p) = 0
    rotate_left
    · have hlt := mk5_lt (fun p => bt c p && bt aw' p)
      rw [if_neg (nI_ne0 (by omega) (by omega))]
      exact skip A1 he0 hca (by unfold dlC; rw [if_neg (fun z => ca z.1)])
    rw [if_pos (by rw [ca]; rfl)]
    obtain ⟨A2, x1, x2, x3, x4, x5, x6⟩ := c_moved hv ha (K := dg 3 (ln i)) (s := s) (r := r) (j := i) (c := c) (no := no) hs (by omega) (by omega) hno e12 e5 en eO (fun p _ => dg3_le _ _) w91 w92 e86
    have ha2 : agr A V A2 V1 := ⟨fun a q => by
      rw [x3 a (fun z => by subst z; cases q) (fun z => by subst z; cases q) (fun z => by subst z; cases q) (fun z => by subst z; cases q) (fun z => by subst z; cases q) (fun z => by subst z; cases q)]
      exact ha.1 a q, ha.2⟩
    have he2 : cenv N B tx A V s r A2 V1 := ⟨ha2, e12, e13, e5, x4, x5, x6⟩
    have x3k : ∀ b, 89 ≤ b → b ≤ 93 → A2 b = A1 b := fun b b1 b2 => x3 b (by omega) (by omega) (by omega) (by omega) (by omega) (by omega)
    have hca2 : carr A2 V1 re ln fr lb := carr_c hca (x3k 89 (by decide) (by decide)) (x3k 90 (by decide) (by decide)) (x3k 91 (by decide) (by decide)) (x3k 92 (by decide) (by decide)) (x3k 93 (by decide) (by decide)) rfl
    have g92 : A2 92 i = nI d := by rw [x3k 92 (by decide) (by decide)]; exact f92
    have g93 : A2 93 i = nI (lb (ln i)) := by rw [x3k 93 (by decide) (by decide)]; exact f93
    rw [x1, bX_s]
    cases hmv : mvd N B tx (A 131) (A 135 s) s r (dg 3 (ln i)) c no with
    | false =>
      rw [nbf, if_pos rfl]
      exact skip A2 he2 hca2 (by unfold dlC; rw [if_neg (fun z => by have := z.2.2; rw [hmv] at this; cases this)])
    | true =>
      obtain ⟨y1, y2⟩ := x2 hmv
      obtain ⟨K', hK'⟩ : ∃ K', K' = nC N B tx (A 131) (A 135 s) s r (dg 3 (ln i)) c := ⟨_, rfl⟩
      have hK2 : ∀ p, p < 5 → K' p ≤ 2 := fun p _ => by rw [hK']; exact Nat.min_le_right _ _
      have hdl : dlC N B tx (A 131) (A 135 s) s r aw' no (ln i) c = some (cd 3 K' 5) := by
        unfold dlC
        rw [if_pos ⟨ca, by omega, hmv⟩, hK']
      rw [← hK'] at y1 y2
      rw [nbt, if_neg (by decide), bC_in ⟨by omega, by decide⟩, tC (show i < 2 ^ 20 by omega), g92, g93]
      have blk : ∀ x, x = nI (wlb d c (lb (ln i))) → ∃ (A9 V9 : xM), (bC (xq_in (V1 84 13) 6) (bS (fX3_reach (A2 86 (V1 84 13).toNatClampNeg) (A2 87 (V1 84 13).toNatClampNeg) (nI d + (1 : Int32)) x A2 V1 (.ref (tref (N 3)))) (fun A17 V18 c19 => bC (xq_in (V18 84 13) 6) (if (nI wa &&& ((A17 86 (V18 84 13).toNatClampNeg) ^^^ (-1 : Int32))) = 0 then (fX3_goOn_L3 tx (nI i) (nI wa) (nI no) (nI aw') ex fu (nI (c + 1)) A17 (up2 (up2 V18 84 0 ((A17 92 i) + (1 : Int32))) 84 1 x) c19) else (fX3_goOn_L3 tx (nI i) (nI wa) (nI no) (nI aw') ex fu (nI (c + 1)) A17 V18 c19))))) = ex A9 V9 (.ref (tref (N 3))) ∧ cenv N B tx A V s r A9 V9 ∧ gO N B A V tx s r aw' wa no i a0 A9 V9 := by
        intro x hx
        obtain ⟨A3, V3, re1, ln1, fr1, lb1, g1, g2, gO1, g3, g4, g5, g6, g8, g9⟩ := c_reach hB hO hi hc1 (by omega) hca2 hd hdl rfl hK2 hx (.ref (tref (N 3)))
        have he3 : cenv N B tx A V s r A3 V3 := cenv_c he2 g8 (fun a k h => g9 a k (by omega))
        have ei : ln1 i = ln i := g5 i hi
        have w86 : A3 86 s = wC K' := by rw [g8 86 (by decide) (by decide) (by decide) (by decide) (by decide)]; exact y1
        have hw : nI wa &&& (wC K' ^^^ (-1 : Int32)) = nI (mk5 (fun p => bt wa p && !Nat.ble 2 (dg 3 (cd 3 K' 5) p))) := by
          have := m_sub (bt wa) (fun p => Nat.ble 2 (K' p))
          rw [bt_mk wa hwa] at this
          refine this.trans (congrArg nI (mk5_c (fun p hp => ?_)))
          rw [dg_cd (by decide) 5 (fun p hp => by have := hK2 p hp; omega) p hp]
        have hlk : ∀ k, k ≤ i → ln1 k = ln k := fun k hk => g5 k (by omega)
        rw [e12, bC_in ⟨hs6, by decide⟩, tC (show s < 2 ^ 20 by omega), y1, y2, nI_1, g1, bS_s, he3.2.1, bC_in ⟨hs6, by decide⟩, tC (show s < 2 ^ 20 by omega), w86, hw]
        by_cases cw : wnt wa (cd 3 K' 5)
        · have cw' : nI (mk5 (fun p => bt wa p && !Nat.ble 2 (dg 3 (cd 3 K' 5) p))) = 0 := cw
          obtain ⟨fu, rfl⟩ : ∃ m, fu = m + 1 := ⟨fu - 1, by omega⟩
          have h92 : A3 92 i = nI d := (g3.2.2.2 i d (by omega) (by rw [ei]; exact g6)).1
          have e0 : (up2 (up2 V3 84 0 (nI (d + 1))) 84 1 x) 84 0 = nI (d + 1) := by rw [up2_n (by omega), up2_s]
          rw [if_pos cw', h92, nI_1]
          refine ⟨A3, up2 (up2 V3 84 0 (nI (d + 1))) 84 1 x, c_L3e (D := d + 1) (by omega) (by omega) e0, cenv_c he3 (fun _ _ _ _ _ _ => rfl) (fun a k h => by rw [up2_n (by omega), up2_n (by omega)]), Or.inr ⟨d + 1, wlb d c (lb (ln i)), by omega, by omega, e0, by rw [up2_s]; exact hx, g_found hF hB hO hi h0 hc1 (by omega) hd hdl cw⟩⟩
        · have cw' : ¬ nI (mk5 (fun p => bt wa p && !Nat.ble 2 (dg 3 (cd 3 K' 5) p))) = 0 := cw
          rw [if_neg cw']
          exact ih (c + 1) fu A3 V3 re1 ln1 fr1 lb1 he3 (by omega) (by omega) (by omega) g2 gO1 (by omega) g3 (by rw [ei]; exact g6) (gI_ln (gI_no hF (fun m hm => by rw [hdl] at hm; cases hm; exact cw)) (by omega) hlk (g9 84 0 (by omega)) (g9 84 1 (by omega)))
      by_cases hd0 : d = 0
      · rw [if_pos (by rw [hd0]; rfl)]
        exact blk (nI c) (by unfold wlb; rw [if_pos hd0])
      · rw [if_neg (nI_ne0 (by omega) (by omega))]
        exact blk (nI (lb (ln i))) (by unfold wlb; rw [if_neg hd0])
end CS
