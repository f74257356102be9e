/-! PLANS, the reference's search. -/
theorem wfst_lt {dl : Nat → Nat → Option Nat} {M a0 : Nat} : ∀ (w : List Nat) (n : Nat), wrun dl M a0 w = some n → w ≠ [] → wfst w < M
  | [], _, _, h => absurd rfl h
  | [c], n, hw, _ => by
    rw [wrun, wrun] at hw
    dsimp only at hw
    by_cases q : 1 ≤ c ∧ c < M
    · exact q.2
    · rw [if_neg q] at hw; cases hw
  | c :: d :: w, n, hw, _ => by
    rw [wfst_c (by simp)]
    rw [wrun] at hw
    cases hu : wrun dl M a0 (d :: w) with
    | none => rw [hu] at hw; cases hw
    | some m => exact wfst_lt (d :: w) m hu (by simp)
theorem lb_lt {dl : Nat → Nat → Option Nat} {M a0 i c re : Nat} {ln : Nat → Nat} {fr : Nat → Option Nat} {lb : Nat → Nat} (h : BI dl M a0 i c re ln fr lb) {n d : Nat} (hn : fr n = some d) (hd : 1 ≤ d) : lb n < M := by
  obtain ⟨-, -, -, -, -, -, b7, -⟩ := h
  obtain ⟨w, g1, g2, g3⟩ := b7 n d hn
  rw [g3 hd]
  exact wfst_lt w n g1 (fun z => by subst z; exact absurd g2 (by simp; omega))
theorem fr_lt {dl : Nat → Nat → Option Nat} {M a0 i c re : Nat} {ln : Nat → Nat} {fr : Nat → Option Nat} {lb : Nat → Nat} (h : BI dl M a0 i c re ln fr lb) {n d : Nat} (hn : fr n = some d) : d < re := by
  obtain ⟨-, b2, b3, -⟩ := h
  obtain ⟨k, k1, k2⟩ := b3 n d hn
  obtain ⟨d', g1, g2⟩ := b2 k k1
  rw [k2, hn] at g1
  cases g1
  omega
theorem re_le {dl : Nat → Nat → Option Nat} {M a0 i c re S : Nat} {ln : Nat → Nat} {fr : Nat → Option Nat} {lb : Nat → Nat} (h : BI dl M a0 i c re ln fr lb) (hS : ∀ k, k < re → ln k < S) : re ≤ S := by
  obtain ⟨-, -, -, b4, -⟩ := h
  exact pigeon S re ln hS b4
section RS
variable {N : Nat → Nat} {B : Nat → Nat → Nat} {A V A1 V1 : xM} {tx : List xh_T} {cu : Value} {K : Nat → Nat}
theorem r_L182 (hv : iv N B A V tx cu) {s r aw' i a0 : Nat} (hs : s < N 0) (hr : r < 4) (haw : aw' < 32) (l3 l4 l7 l9 : Int32) (ex : Int32 → xM → xM → Value → Option xS) : ∀ k c fu (A1 V1 : xM) (c1 : Value) (re : Nat) (ln : Nat → Nat) (fr : Nat → Option Nat) (lb : Nat → Nat), agr A V A1 V1 → c + k = 2 ^ N 1 → 1 ≤ c → k < fu → BI (dlR N B tx (A 131) (A 135 s) s r aw') (2 ^ N 1) a0 i c re ln fr lb → i < re → rarr A1 re ln fr lb → V1 132 41 = -1 → ∃ (A2 V2 : xM) (c2 : Value) (re' : Nat) (ln' : Nat → Nat) (fr' : Nat → Option Nat) (lb' : Nat → Nat), fX9_plan_L182 (nI s) (nI r) l3 l4 (nI aw') (nI (mk5 (fun p => Nat.blt p (N 1) && hsf (B 5) (A 135 s) p))) l7 l9 (nI (ln i)) ex fu (nI re) (nI c) A1 V1 c1 = ex (nI re') A2 V2 c2 ∧ agr A V A2 V2 ∧ BI (dlR N B tx (A 131) (A 135 s) s r aw') (2 ^ N 1) a0 i (2 ^ N 1) re' ln' fr' lb' ∧ re ≤ re' ∧ (∀ k, k < re → ln' k = ln k) ∧ rarr A2 re' ln' fr' lb' ∧ V2 132 41 = -1 ∧ V2 132 42 = V1 132 42 := by
  obtain ⟨v1, v2, v3, v4, v5, v6, v7, v8, v9, v10, v11, v12, v13⟩ := id hv
  obtain ⟨⟨s1, s2, s3⟩, ⟨p1, p2, p3⟩, -, ⟨t1, t2, t3⟩, ⟨l1, l2, l3'⟩, -⟩ := v1
  have h32 := p2_32 _ p3
  have hq := sh_p (N 1) (by omega)
  obtain ⟨r1, r2, r3', r4⟩ := v3 r hr
  intro k
  induction k with
  | zero =>
    intro c fu A1 V1 c1 re ln fr lb ha hc _ hf hB hi hr41 h41
    obtain ⟨fu, rfl⟩ : ∃ m, fu = m + 1 := ⟨fu - 1, by omega⟩
    have e4 : V1 132 4 = nI (N 1) := (ha.2 132 4 rfl).trans p2
    have hcM : c = 2 ^ N 1 := by omega
    rw [hcM] at hB
    refine ⟨A1, V1, c1, re, ln, fr, lb, ?_, ha, hB, Nat.le_refl _, fun _ _ => rfl, hr41, h41, rfl⟩
    rw [fX9_plan_L182, e4, hq, if_pos (by simp (disch := omega) only [ltI, leI, eqI, tI, tI1, ti_0, ti_1, ti_2, ti_3, ti_4, ti_5, ti_6, ti_7, ti_8, ti_9, ti_10, ti_11, ti_12, ti_14, ti_18, ti_30, ti_39, ti_40, ti_41, ti_45, ti_50, ti_59, ti_97, ti_99, ti_100, ti_122, ti_160, ti_243, ti_255, ti_399, ti_999, ti_1000, ti_1024, ti_99999, tm_1, tm_2, tm_3, tm_4, tm_5, tm_7, tm_11, tm_12, tm_13, tm_14, tm_100, if_pos, if_neg, if_true, if_false, bC_in, bI_s, bS_s, bX_s, bY_s, sO, tC]; omega)]
  | succ k ih =>
    intro c fu A1 V1 c1 re ln fr lb ha hc hc1 hf hB hi hra h41
    obtain ⟨fu, rfl⟩ : ∃ m, fu = m + 1 := ⟨fu - 1, by omega⟩
    have e4 : V1 132 4 = nI (N 1) := (ha.2 132 4 rfl).trans p2
    have e133 : A1 134 r = nI (B 1 r) := by rw [ha.1 134 rfl]; exact r2
    have hc32 : c < 32 := by omega
    have cc := ct_le (bt c)
    have hli : ln i < 1024 := (hra.1 i hi).2
    have hreS : re ≤ 1024 := re_le hB (fun k hk => (hra.1 k hk).2)
    obtain ⟨d, hd, hdi⟩ : ∃ d, fr (ln i) = some d ∧ d ≤ i := hB.2.1 i hi
    have hand : nI c &&& nI aw' = nI (mk5 (fun p => bt c p && bt aw' p)) := by
      have := m_and (bt c) (bt aw')
      rw [bt_mk c hc32, bt_mk aw' haw] at this
      exact this
    -- nothing comes of it
    have skip : ∀ (A' V' : xM) (c' : Value), agr A V A' V' → A' 154 = A1 154 → A' 155 = A1 155 → A' 156 = A1 156 → V' 132 41 = V1 132 41 → V' 132 42 = V1 132 42 → dlR N B tx (A 131) (A 135 s) s r aw' (ln i) c = none → ∃ (A2 V2 : xM) (c2 : Value) (re' : Nat) (ln' : Nat → Nat) (fr' : Nat → Option Nat) (lb' : Nat → Nat), fX9_plan_L182 (nI s) (nI r) l3 l4 (nI aw') (nI (mk5 (fun p => Nat.blt p (N 1) && hsf (B 5) (A 135 s) p))) l7 l9 (nI (ln i)) ex fu (nI re) (nI (c + 1)) A' V' c' = ex (nI re') A2 V2 c2 ∧ agr A V A2 V2 ∧ BI (dlR N B tx (A 131) (A 135 s) s r aw') (2 ^ N 1) a0 i (2 ^ N 1) re' ln' fr' lb' ∧ re ≤ re' ∧ (∀ k, k < re → ln' k = ln k) ∧ rarr A2 re' ln' fr' lb' ∧ V2 132 41 = -1 ∧ V2 132 42 = V1 132 42 := by
      intro A' V' c' q1 q2 q3 q4 q5 q6 q7
      obtain ⟨A2, V2, c2, re', ln', fr', lb', g1, g2, g3, g4, g5, g6, g7, g8⟩ := ih (c + 1) fu A' V' c' re ln fr lb q1 (by omega) (by omega) (by omega) (BI_none hB q7) hi (rarr_c hra q2 q3 q4) (q5.trans h41)
      exact ⟨A2, V2, c2, re', ln', fr', lb', g1, g2, g3, g4, g5, g6, g7, g8.trans q6⟩
    rw [fX9_plan_L182, e4, hq, if_neg (by simp (disch := omega) only [ltI, leI, eqI, tI, tI1, ti_0, ti_1, ti_2, ti_3, ti_4, ti_5, ti_6, ti_7, ti_8, ti_9, ti_10, ti_11, ti_12, ti_14, ti_18, ti_30, ti_39, ti_40, ti_41, ti_45, ti_50, ti_59, ti_97, ti_99, ti_100, ti_122, ti_160, ti_243, ti_255, ti_399, ti_999, ti_1000, ti_1024, ti_99999, tm_1, tm_2, tm_3, tm_4, tm_5, tm_7, tm_11, tm_12, tm_13, tm_14, tm_100, if_pos, if_neg, if_true, if_false, bC_in, bI_s, bS_s, bX_s, bY_s, sO, tC]; omega), if_pos h41, hand, m_size_c hc32, bI_s, bC_in ⟨hr, by decide⟩, tC (by omega), e133, sO]
    by_cases ca : mk5 (fun p => bt c p && bt aw' p) = 0
    rotate_left
    · have hlt := mk5_lt (fun p => bt c p && bt aw' p)
      rw [if_neg (nI_ne0 (by omega) (by omega))]
      exact skip A1 V1 c1 ha rfl rfl rfl rfl rfl (by unfold dlR; rw [if_neg (fun z => ca z.1)])
    rw [if_pos (by rw [ca]; rfl)]
    by_cases cs : B 1 r < ct (bt c)
    · rw [if_pos (by simp (disch := omega) only [ltI, leI, eqI, tI, tI1, ti_0, ti_1, ti_2, ti_3, ti_4, ti_5, ti_6, ti_7, ti_8, ti_9, ti_10, ti_11, ti_12, ti_14, ti_18, ti_30, ti_39, ti_40, ti_41, ti_45, ti_50, ti_59, ti_97, ti_99, ti_100, ti_122, ti_160, ti_243, ti_255, ti_399, ti_999, ti_1000, ti_1024, ti_99999, tm_1, tm_2, tm_3, tm_4, tm_5, tm_7, tm_11, tm_12, tm_13, tm_14, tm_100, if_pos, if_neg, if_true, if_false, bC_in, bI_s, bS_s, bX_s, bY_s, sO, tC]; omega)]
      exact skip A1 V1 c1 ha rfl rfl rfl rfl rfl (by unfold dlR; rw [if_neg (fun z => by have := z.2.1; omega)])
    rw [if_neg (by simp (disch := omega) only [ltI, leI, eqI, tI, tI1, ti_0, ti_1, ti_2, ti_3, ti_4, ti_5, ti_6, ti_7, ti_8, ti_9, ti_10, ti_11, ti_12, ti_14, ti_18, ti_30, ti_39, ti_40, ti_41, ti_45, ti_50, ti_59, ti_97, ti_99, ti_100, ti_122, ti_160, ti_243, ti_255, ti_399, ti_999, ti_1000, ti_1024, ti_99999, tm_1, tm_2, tm_3, tm_4, tm_5, tm_7, tm_11, tm_12, tm_13, tm_14, tm_100, if_pos, if_neg, if_true, if_false, bC_in, bI_s, bS_s, bX_s, bY_s, sO, tC]; omega)]
    obtain ⟨A2, A3, V3, x1, x2, x3, x4, x5, x6, x7, x8, x9, x10⟩ := r_comp hv ha c1 (s := s) (r := r) (n := ln i) (c := c) hs hli (by omega)
    have e43 : V3 132 4 = nI (N 1) := (x4.2 132 4 rfl).trans p2
    rw [x1, bS_s, x2, bX_s, x3, bI_s, r_more (N := N) x10 hli p3 e43]
    cases hm : myp B tx (A 131) (N 3) s r 0 (dg 4 (ln i)) (bt c) with
    | false =>
      rw [nbf, if_pos rfl]
      exact skip A3 V3 c1 x4 x5 x6 x7 x8 x9 (by unfold dlR; rw [if_neg (fun z => by have := z.2.2.1; rw [hm] at this; cases this)])
    | true =>
      rw [nbt, if_neg (by decide)]
      cases hk : kmb (ln i) (cd 4 (rK N B tx (A 131) (A 135 s) s r (dg 4 (ln i)) c) (N 1)) (N 1) with
      | false =>
        rw [nbf, if_pos rfl]
        exact skip A3 V3 c1 x4 x5 x6 x7 x8 x9 (by unfold dlR; rw [if_neg (fun z => by have := z.2.2.2; rw [hk] at this; cases this)])
      | true =>
        rw [nbt, if_neg (by decide)]
        obtain ⟨m, hmm⟩ : ∃ m, m = cd 4 (rK N B tx (A 131) (A 135 s) s r (dg 4 (ln i)) c) (N 1) := ⟨_, rfl⟩
        have hdl : dlR N B tx (A 131) (A 135 s) s r aw' (ln i) c = some m := by
          unfold dlR
          rw [if_pos ⟨ca, by omega, hm, hk⟩, hmm]
        rw [← hmm] at x10 ⊢
        have hra3 : rarr A3 re ln fr lb := rarr_c hra x5 x6 x7
        have f154 : A3 155 (ln i) = nI d := by rw [hra3.2.1 _ hli, hd]; rfl
        have f155 : A3 156 (ln i) = olb d (lb (ln i)) := hra3.2.2 _ d hli hd
        -- the rows behind it
        have blk : ∀ x, x = nI (wlb d c (lb (ln i))) → ∃ (A2 V2 : xM) (c2 : Value) (re' : Nat) (ln' : Nat → Nat) (fr' : Nat → Option Nat) (lb' : Nat → Nat), (bC (xq_in (nI m) 1024) (if (A3 155 (nI m).toNatClampNeg) = (-1 : Int32) then (bC (xq_in (nI re) 1024) (fX9_plan_L182 (nI s) (nI r) l3 l4 (nI aw') (nI (mk5 (fun p => Nat.blt p (N 1) && hsf (B 5) (A 135 s) p))) l7 l9 (nI (ln i)) ex fu (nI re + Int32.ofInt 1) (nI (c + 1)) (aw (aw (aw A3 155 (nI m) (nI d + (1 : Int32))) 156 (nI m) x) 154 (nI re) (nI m)) V3 c1)) else (if (A3 155 (nI m).toNatClampNeg) = (nI d + (1 : Int32)) then (if (A3 156 (nI m).toNatClampNeg) ≤ x then (fX9_plan_L182 (nI s) (nI r) l3 l4 (nI aw') (nI (mk5 (fun p => Nat.blt p (N 1) && hsf (B 5) (A 135 s) p))) l7 l9 (nI (ln i)) ex fu (nI re) (nI (c + 1)) A3 V3 c1) else (fX9_plan_L182 (nI s) (nI r) l3 l4 (nI aw') (nI (mk5 (fun p => Nat.blt p (N 1) && hsf (B 5) (A 135 s) p))) l7 l9 (nI (ln i)) ex fu (nI re) (nI (c + 1)) (aw A3 156 (nI m) x) V3 c1)) else (fX9_plan_L182 (nI s) (nI r) l3 l4 (nI aw') (nI (mk5 (fun p => Nat.blt p (N 1) && hsf (B 5) (A 135 s) p))) l7 l9 (nI (ln i)) ex fu (nI re) (nI (c + 1)) A3 V3 c1)))) = ex (nI re') A2 V2 c2 ∧ agr A V A2 V2 ∧ BI (dlR N B tx (A 131) (A 135 s) s r aw') (2 ^ N 1) a0 i (2 ^ N 1) re' ln' fr' lb' ∧ re ≤ re' ∧ (∀ k, k < re → ln' k = ln k) ∧ rarr A2 re' ln' fr' lb' ∧ V2 132 41 = -1 ∧ V2 132 42 = V1 132 42 := by
          intro x hx
          have hwl : wlb d c (lb (ln i)) < 2 ^ N 1 := by
            unfold wlb
            by_cases z : d = 0
            · rw [if_pos z]; omega
            · rw [if_neg z]; exact lb_lt hB hd (by omega)
          rw [bC_in ⟨x10, by decide⟩, tC (by omega), hra3.2.1 m x10, nI_1]
          cases hfm : fr m with
          | none =>
            have hre : re < 1024 := room_new hB (fun k hk => (hra.1 k hk).2) x10 hfm
            rw [show ofr none = -1 from rfl, if_pos rfl, bC_in ⟨hre, by decide⟩, sO]
            have hB2 := BI_new hB hi hc1 (by omega) hd hdl hfm
            have hne : ∀ k, k < re → ln k ≠ m := fun k hk z => by
              obtain ⟨d', g1, -⟩ := hB.2.1 k hk
              rw [z, hfm] at g1; cases g1
            have hln : va_up ln re m i = ln i := va_up_ne _ _ (by omega)
            have a153 : ∀ j, (aw (aw (aw A3 155 (nI m) (nI (d + 1))) 156 (nI m) x) 154 (nI re) (nI m)) 154 j = if j = re then nI m else A3 154 j := fun j => by rw [aw_s, aw_n (by decide), aw_n (by decide), tC (by omega)]; rfl
            have a154 : ∀ j, (aw (aw (aw A3 155 (nI m) (nI (d + 1))) 156 (nI m) x) 154 (nI re) (nI m)) 155 j = if j = m then nI (d + 1) else A3 155 j := fun j => by rw [aw_n (by decide), aw_n (by decide), aw_s, tC (by omega)]; rfl
            have a155 : ∀ j, (aw (aw (aw A3 155 (nI m) (nI (d + 1))) 156 (nI m) x) 154 (nI re) (nI m)) 156 j = if j = m then x else A3 156 j := fun j => by rw [aw_n (by decide), aw_s, aw_n (by decide), tC (by omega)]; rfl
            have hra2 : rarr (aw (aw (aw A3 155 (nI m) (nI (d + 1))) 156 (nI m) x) 154 (nI re) (nI m)) (re + 1) (va_up ln re m) (va_up fr m (some (d + 1))) (va_up lb m (wlb d c (lb (ln i)))) := by
              refine ⟨fun k hk => ?_, fun n hn => ?_, fun n e hn he => ?_⟩
              · rw [a153]
                by_cases z : k = re
                · rw [if_pos z, z, va_up_self]; exact ⟨rfl, x10⟩
                · rw [if_neg z, va_up_ne _ _ z]; exact hra3.1 k (by omega)
              · rw [a154]
                by_cases z : n = m
                · rw [if_pos z, z, va_up_self]; rfl
                · rw [if_neg z, va_up_ne _ _ z]; exact hra3.2.1 n hn
              · rw [a155]
                by_cases z : n = m
                · rw [z, va_up_self] at he
                  cases he
                  rw [if_pos z, z, va_up_self, hx]
                  rfl
                · rw [va_up_ne _ _ z] at he
                  rw [if_neg z, va_up_ne _ _ z]
                  exact hra3.2.2 n e hn he
            obtain ⟨A5, V5, c5, re', ln', fr', lb', g1, g2, g3, g4, g5, g6, g7, g8⟩ := ih (c + 1) fu (aw (aw (aw A3 155 (nI m) (nI (d + 1))) 156 (nI m) x) 154 (nI re) (nI m)) V3 c1 (re + 1) (va_up ln re m) (va_up fr m (some (d + 1))) (va_up lb m (wlb d c (lb (ln i)))) (agr_w (agr_w (agr_w x4 rfl) rfl) rfl) (by omega) (by omega) (by omega) hB2 (by omega) hra2 (x8.trans h41)
            rw [hln] at g1
            exact ⟨A5, V5, c5, re', ln', fr', lb', g1, g2, g3, by omega, fun k hk => by rw [g5 k (by omega), va_up_ne _ _ (by omega)], g6, g7, g8.trans x9⟩
          | some d' =>
            have hd're := fr_lt hB hfm
            rw [show ofr (some d') = nI d' from rfl, if_neg (by simp (disch := omega) only [ltI, leI, eqI, tI, tI1, ti_0, ti_1, ti_2, ti_3, ti_4, ti_5, ti_6, ti_7, ti_8, ti_9, ti_10, ti_11, ti_12, ti_14, ti_18, ti_30, ti_39, ti_40, ti_41, ti_45, ti_50, ti_59, ti_97, ti_99, ti_100, ti_122, ti_160, ti_243, ti_255, ti_399, ti_999, ti_1000, ti_1024, ti_99999, tm_1, tm_2, tm_3, tm_4, tm_5, tm_7, tm_11, tm_12, tm_13, tm_14, tm_100, if_pos, if_neg, if_true, if_false, bC_in, bI_s, bS_s, bX_s, bY_s, sO, tC]; omega)]
            by_cases z : d' = d + 1
            · subst z
              have hlm := lb_lt hB hfm (by omega)
              rw [if_pos rfl, hra3.2.2 m (d + 1) x10 hfm, show olb (d + 1) (lb m) = nI (lb m) from rfl, hx]
              by_cases y : lb m ≤ wlb d c (lb (ln i))
              · rw [if_pos (by simp (disch := omega) only [ltI, leI, eqI, tI, tI1, ti_0, ti_1, ti_2, ti_3, ti_4, ti_5, ti_6, ti_7, ti_8, ti_9, ti_10, ti_11, ti_12, ti_14, ti_18, ti_30, ti_39, ti_40, ti_41, ti_45, ti_50, ti_59, ti_97, ti_99, ti_100, ti_122, ti_160, ti_243, ti_255, ti_399, ti_999, ti_1000, ti_1024, ti_99999, tm_1, tm_2, tm_3, tm_4, tm_5, tm_7, tm_11, tm_12, tm_13, tm_14, tm_100, if_pos, if_neg, if_true, if_false, bC_in, bI_s, bS_s, bX_s, bY_s, sO, tC]; omega)]
                have hB2 := BI_lab hB hi hc1 (by omega) hd hdl hfm (x := lb m) (Nat.min_eq_left y).symm
                have elb : va_up lb m (lb m) = lb := by
                  funext j
                  by_cases q : j = m
                  · rw [q, va_up_self]
                  · rw [va_up_ne _ _ q]
                rw [elb] at hB2
                obtain ⟨A5, V5, c5, re', ln', fr', lb', g1, g2, g3, g4, g5, g6, g7, g8⟩ := ih (c + 1) fu A3 V3 c1 re ln fr lb x4 (by omega) (by omega) (by omega) hB2 hi hra3 (x8.trans h41)
                exact ⟨A5, V5, c5, re', ln', fr', lb', g1, g2, g3, g4, g5, g6, g7, g8.trans x9⟩
              · rw [if_neg (by simp (disch := omega) only [ltI, leI, eqI, tI, tI1, ti_0, ti_1, ti_2, ti_3, ti_4, ti_5, ti_6, ti_7, ti_8, ti_9, ti_10, ti_11, ti_12, ti_14, ti_18, ti_30, ti_39, ti_40, ti_41, ti_45, ti_50, ti_59, ti_97, ti_99, ti_100, ti_122, ti_160, ti_243, ti_255, ti_399, ti_999, ti_1000, ti_1024, ti_99999, tm_1, tm_2, tm_3, tm_4, tm_5, tm_7, tm_11, tm_12, tm_13, tm_14, tm_100, if_pos, if_neg, if_true, if_false, bC_in, bI_s, bS_s, bX_s, bY_s, sO, tC]; omega)]
                have hB2 := BI_lab hB hi hc1 (by omega) hd hdl hfm (x := wlb d c (lb (ln i))) (Nat.min_eq_right (by omega)).symm
                have hra2 : rarr (aw A3 156 (nI m) (nI (wlb d c (lb (ln i))))) re ln fr (va_up lb m (wlb d c (lb (ln i)))) := by
                  refine ⟨fun k hk => by rw [aw_n (by decide)]; exact hra3.1 k hk, fun n hn => by rw [aw_n (by decide)]; exact hra3.2.1 n hn, fun n e hn he => ?_⟩
                  rw [aw_s, tC (by omega)]
                  by_cases q : n = m
                  · rw [q, hfm] at he
                    cases he
                    rw [q, pk_us, va_up_self]
                    rfl
                  · rw [pk_un q, va_up_ne _ _ q]
                    exact hra3.2.2 n e hn he
                obtain ⟨A5, V5, c5, re', ln', fr', lb', g1, g2, g3, g4, g5, g6, g7, g8⟩ := ih (c + 1) fu (aw A3 156 (nI m) (nI (wlb d c (lb (ln i))))) V3 c1 re ln fr _ (agr_w x4 rfl) (by omega) (by omega) (by omega) hB2 hi hra2 (x8.trans h41)
                exact ⟨A5, V5, c5, re', ln', fr', lb', g1, g2, g3, g4, g5, g6, g7, g8.trans x9⟩
            · rw [if_neg (by simp (disch := omega) only [ltI, leI, eqI, tI, tI1, ti_0, ti_1, ti_2, ti_3, ti_4, ti_5, ti_6, ti_7, ti_8, ti_9, ti_10, ti_11, ti_12, ti_14, ti_18, ti_30, ti_39, ti_40, ti_41, ti_45, ti_50, ti_59, ti_97, ti_99, ti_100, ti_122, ti_160, ti_243, ti_255, ti_399, ti_999, ti_1000, ti_1024, ti_99999, tm_1, tm_2, tm_3, tm_4, tm_5, tm_7, tm_11, tm_12, tm_13, tm_14, tm_100, if_pos, if_neg, if_true, if_false, bC_in, bI_s, bS_s, bX_s, bY_s, sO, tC]; omega)]
              have hB2 := BI_skip hB hi hd hdl hfm z
              obtain ⟨A5, V5, c5, re', ln', fr', lb', g1, g2, g3, g4, g5, g6, g7, g8⟩ := ih (c + 1) fu A3 V3 c1 re ln fr lb x4 (by omega) (by omega) (by omega) hB2 hi hra3 (x8.trans h41)
              exact ⟨A5, V5, c5, re', ln', fr', lb', g1, g2, g3, g4, g5, g6, g7, g8.trans x9⟩
        rw [bC_in ⟨hli, by decide⟩, tC (show ln i < 2 ^ 20 by omega), f154, f155]
        by_cases z : d = 0
        · rw [if_pos (by rw [z]; rfl)]
          exact blk (nI c) (by unfold wlb; rw [if_pos z])
        · rw [if_neg (by simp (disch := omega) only [ltI, leI, eqI, tI, tI1, ti_0, ti_1, ti_2, ti_3, ti_4, ti_5, ti_6, ti_7, ti_8, ti_9, ti_10, ti_11, ti_12, ti_14, ti_18, ti_30, ti_39, ti_40, ti_41, ti_45, ti_50, ti_59, ti_97, ti_99, ti_100, ti_122, ti_160, ti_243, ti_255, ti_399, ti_999, ti_1000, ti_1024, ti_99999, tm_1, tm_2, tm_3, tm_4, tm_5, tm_7, tm_11, tm_12, tm_13, tm_14, tm_100, if_pos, if_neg, if_true, if_false, bC_in, bI_s, bS_s, bX_s, bY_s, sO, tC]; omega)]
          exact blk (olb d (lb (ln i))) (by unfold olb wlb; rw [if_neg z, if_neg z])
/-- behind the first that is done: only the least beginning is sought -/
theorem r_L182x (l1 l2 l3 l4 l5 l6 l7 l9 l10 : Int32) (ex : Int32 → xM → xM → Value → Option xS) (A1 V1 : xM) (c1 : Value) (l8 : Int32) (h : ¬ V1 132 41 = -1) : fX9_plan_L182 l1 l2 l3 l4 l5 l6 l7 l9 l10 ex FU l8 1 A1 V1 c1 = ex l8 A1 V1 c1 := by
  show fX9_plan_L182 l1 l2 l3 l4 l5 l6 l7 l9 l10 ex (4999 + 1) l8 1 A1 V1 c1 = _
  rw [fX9_plan_L182, if_neg h, ite_self]
theorem r_scan (hv : iv N B A V tx cu) {dl : Nat → Nat → Option Nat} {M a0 i0 c0 re wa no D : Nat} {ln : Nat → Nat} {fr : Nat → Option Nat} {lb : Nat → Nat} (hM : M ≤ 32) (hB : BI dl M a0 i0 c0 re ln fr lb) (ha0 : a0 < 1024) (hwa : wa < 32) (hno : no < 32) (hD : D < 1024) (l1 l2 l5 l6 : Int32) (ex : xM → xM → Value → Option xS) : ∀ k i fu (A1 V1 : xM) (c1 : Value) (L : Nat), agr A V A1 V1 → i + k = re → k < fu → rarr A1 re ln fr lb → V1 132 41 = nI D → V1 132 42 = olb D L → L < 32 → (D = 0 → ∀ j, i ≤ j → j < re → fr (ln j) ≠ some 0) → ∃ (A2 V2 : xM) (c2 : Value) (L' : Nat), fX9_plan_L91 l1 l2 (nI wa) (nI no) l5 l6 (nI a0) ex fu (nI re) (nI i) A1 V1 c1 = ex A2 V2 c2 ∧ agr A V A2 V2 ∧ V2 132 41 = nI D ∧ V2 132 42 = olb D L' ∧ (L' = L ∨ ∃ j, j < re ∧ dnb a0 wa no (ln j) (N 1) = true ∧ fr (ln j) = some D ∧ L' = lb (ln j)) ∧ L' ≤ L ∧ ∀ j, i ≤ j → j < re → dnb a0 wa no (ln j) (N 1) = true → fr (ln j) = some D → 1 ≤ D → L' ≤ lb (ln j) := by
  obtain ⟨-, ⟨p1, p2, p3⟩, -⟩ := id hv.1
  intro k
  induction k with
  | zero =>
    intro i fu A1 V1 c1 L ha hi hf hra h41 h42 hL h0
    obtain ⟨fu, rfl⟩ : ∃ m, fu = m + 1 := ⟨fu - 1, by omega⟩
    have hreS : re ≤ 1024 := re_le hB (fun k hk => (hra.1 k hk).2)
    refine ⟨A1, V1, c1, L, ?_, ha, h41, h42, Or.inl rfl, Nat.le_refl _, fun j h1 h2 => by omega⟩
    rw [fX9_plan_L91, if_pos (by simp (disch := omega) only [ltI, leI, eqI, tI, tI1, ti_0, ti_1, ti_2, ti_3, ti_4, ti_5, ti_6, ti_7, ti_8, ti_9, ti_10, ti_11, ti_12, ti_14, ti_18, ti_30, ti_39, ti_40, ti_41, ti_45, ti_50, ti_59, ti_97, ti_99, ti_100, ti_122, ti_160, ti_243, ti_255, ti_399, ti_999, ti_1000, ti_1024, ti_99999, tm_1, tm_2, tm_3, tm_4, tm_5, tm_7, tm_11, tm_12, tm_13, tm_14, tm_100, if_pos, if_neg, if_true, if_false, bC_in, bI_s, bS_s, bX_s, bY_s, sO, tC]; omega)]
  | succ k ih =>
    intro i fu A1 V1 c1 L ha hi hf hra h41 h42 hL h0
    obtain ⟨fu, rfl⟩ : ∃ m, fu = m + 1 := ⟨fu - 1, by omega⟩
    have hreS : re ≤ 1024 := re_le hB (fun k hk => (hra.1 k hk).2)
    obtain ⟨hl1, hl2⟩ := hra.1 i (by omega)
    have e4 : V1 132 4 = nI (N 1) := (ha.2 132 4 rfl).trans p2
    have n41 : ¬ V1 132 41 = -1 := by rw [h41]; simp (disch := omega) only [ltI, leI, eqI, tI, tI1, ti_0, ti_1, ti_2, ti_3, ti_4, ti_5, ti_6, ti_7, ti_8, ti_9, ti_10, ti_11, ti_12, ti_14, ti_18, ti_30, ti_39, ti_40, ti_41, ti_45, ti_50, ti_59, ti_97, ti_99, ti_100, ti_122, ti_160, ti_243, ti_255, ti_399, ti_999, ti_1000, ti_1024, ti_99999, tm_1, tm_2, tm_3, tm_4, tm_5, tm_7, tm_11, tm_12, tm_13, tm_14, tm_100, if_pos, if_neg, if_true, if_false, bC_in, bI_s, bS_s, bX_s, bY_s, sO, tC]; omega
    obtain ⟨d, hd, -⟩ : ∃ d, fr (ln i) = some d ∧ d ≤ i := hB.2.1 i (by omega)
    have hdre := fr_lt hB hd
    rw [fX9_plan_L91, if_neg (by simp (disch := omega) only [ltI, leI, eqI, tI, tI1, ti_0, ti_1, ti_2, ti_3, ti_4, ti_5, ti_6, ti_7, ti_8, ti_9, ti_10, ti_11, ti_12, ti_14, ti_18, ti_30, ti_39, ti_40, ti_41, ti_45, ti_50, ti_59, ti_97, ti_99, ti_100, ti_122, ti_160, ti_243, ti_255, ti_399, ti_999, ti_1000, ti_1024, ti_99999, tm_1, tm_2, tm_3, tm_4, tm_5, tm_7, tm_11, tm_12, tm_13, tm_14, tm_100, if_pos, if_neg, if_true, if_false, bC_in, bI_s, bS_s, bX_s, bY_s, sO, tC]; omega), bC_in ⟨by omega, by decide⟩, tC (by omega), hl1, r_done (N := N) hl2 ha0 hwa hno p3 e4, bI_s, bC_in ⟨hl2, by decide⟩, bC_in ⟨hl2, by decide⟩, tC (show ln i < 2 ^ 20 by omega), hra.2.1 _ hl2, hd, show ofr (some d) = nI d from rfl, hra.2.2 _ d hl2 hd, h41, h42, sO]
    -- it goes on with the same
    have same : (dnb a0 wa no (ln i) (N 1) = true → fr (ln i) = some D → 1 ≤ D → L ≤ lb (ln i)) → ∃ (A2 V2 : xM) (c2 : Value) (L' : Nat), fX9_plan_L91 l1 l2 (nI wa) (nI no) l5 l6 (nI a0) ex fu (nI re) (nI (i + 1)) A1 V1 c1 = ex A2 V2 c2 ∧ agr A V A2 V2 ∧ V2 132 41 = nI D ∧ V2 132 42 = olb D L' ∧ (L' = L ∨ ∃ j, j < re ∧ dnb a0 wa no (ln j) (N 1) = true ∧ fr (ln j) = some D ∧ L' = lb (ln j)) ∧ L' ≤ L ∧ ∀ j, i ≤ j → j < re → dnb a0 wa no (ln j) (N 1) = true → fr (ln j) = some D → 1 ≤ D → L' ≤ lb (ln j) := by
      intro q
      obtain ⟨A2, V2, c2, L', g1, g2, g3, g4, g5, g6, g7⟩ := ih (i + 1) fu A1 V1 c1 L ha (by omega) (by omega) hra h41 h42 hL (fun z j h1 h2 => h0 z j (by omega) h2)
      refine ⟨A2, V2, c2, L', g1, g2, g3, g4, g5, g6, fun j h1 h2 h3 h4 h5 => ?_⟩
      by_cases z : j = i
      · subst z
        exact Nat.le_trans g6 (q h3 h4 h5)
      · exact g7 j (by omega) h2 h3 h4 h5
    cases hdn : dnb a0 wa no (ln i) (N 1) with
    | false =>
      rw [nbf, if_pos rfl, r_L182x _ _ _ _ _ _ _ _ _ _ _ _ _ _ n41]
      exact same (fun z => by rw [hdn] at z; cases z)
    | true =>
      rw [nbt, if_neg (by decide), if_neg (show ¬ nI D = -1 by simp (disch := omega) only [ltI, leI, eqI, tI, tI1, ti_0, ti_1, ti_2, ti_3, ti_4, ti_5, ti_6, ti_7, ti_8, ti_9, ti_10, ti_11, ti_12, ti_14, ti_18, ti_30, ti_39, ti_40, ti_41, ti_45, ti_50, ti_59, ti_97, ti_99, ti_100, ti_122, ti_160, ti_243, ti_255, ti_399, ti_999, ti_1000, ti_1024, ti_99999, tm_1, tm_2, tm_3, tm_4, tm_5, tm_7, tm_11, tm_12, tm_13, tm_14, tm_100, if_pos, if_neg, if_true, if_false, bC_in, bI_s, bS_s, bX_s, bY_s, sO, tC]; omega)]
      by_cases z : d = D
      · subst z
        rw [if_pos rfl]
        have hd1 : 1 ≤ d := by
          by_cases y : d = 0
          · exact absurd (y ▸ hd) (h0 y i (Nat.le_refl _) (by omega))
          · omega
        have hlb := lb_lt hB hd hd1
        have e1 : olb d L = nI L := by unfold olb; rw [if_neg (by omega)]
        have e2 : olb d (lb (ln i)) = nI (lb (ln i)) := by unfold olb; rw [if_neg (by omega)]
        rw [e1, e2]
        by_cases y : L ≤ lb (ln i)
        · rw [if_pos (by simp (disch := omega) only [ltI, leI, eqI, tI, tI1, ti_0, ti_1, ti_2, ti_3, ti_4, ti_5, ti_6, ti_7, ti_8, ti_9, ti_10, ti_11, ti_12, ti_14, ti_18, ti_30, ti_39, ti_40, ti_41, ti_45, ti_50, ti_59, ti_97, ti_99, ti_100, ti_122, ti_160, ti_243, ti_255, ti_399, ti_999, ti_1000, ti_1024, ti_99999, tm_1, tm_2, tm_3, tm_4, tm_5, tm_7, tm_11, tm_12, tm_13, tm_14, tm_100, if_pos, if_neg, if_true, if_false, bC_in, bI_s, bS_s, bX_s, bY_s, sO, tC]; omega), r_L182x _ _ _ _ _ _ _ _ _ _ _ _ _ _ n41]
          exact same (fun _ _ _ => y)
        · rw [if_neg (by simp (disch := omega) only [ltI, leI, eqI, tI, tI1, ti_0, ti_1, ti_2, ti_3, ti_4, ti_5, ti_6, ti_7, ti_8, ti_9, ti_10, ti_11, ti_12, ti_14, ti_18, ti_30, ti_39, ti_40, ti_41, ti_45, ti_50, ti_59, ti_97, ti_99, ti_100, ti_122, ti_160, ti_243, ti_255, ti_399, ti_999, ti_1000, ti_1024, ti_99999, tm_1, tm_2, tm_3, tm_4, tm_5, tm_7, tm_11, tm_12, tm_13, tm_14, tm_100, if_pos, if_neg, if_true, if_false, bC_in, bI_s, bS_s, bX_s, bY_s, sO, tC]; omega), r_L182x _ _ _ _ _ _ _ _ _ _ _ _ _ _ (by rw [up2_n (by omega), up2_s]; simp (disch := omega) only [ltI, leI, eqI, tI, tI1, ti_0, ti_1, ti_2, ti_3, ti_4, ti_5, ti_6, ti_7, ti_8, ti_9, ti_10, ti_11, ti_12, ti_14, ti_18, ti_30, ti_39, ti_40, ti_41, ti_45, ti_50, ti_59, ti_97, ti_99, ti_100, ti_122, ti_160, ti_243, ti_255, ti_399, ti_999, ti_1000, ti_1024, ti_99999, tm_1, tm_2, tm_3, tm_4, tm_5, tm_7, tm_11, tm_12, tm_13, tm_14, tm_100, if_pos, if_neg, if_true, if_false, bC_in, bI_s, bS_s, bX_s, bY_s, sO, tC]; omega)]
          obtain ⟨A2, V2, c2, L', g1, g2, g3, g4, g5, g6, g7⟩ := ih (i + 1) fu A1 (up2 (up2 V1 132 41 (nI d)) 132 42 (nI (lb (ln i)))) c1 (lb (ln i)) (agr_v (agr_v ha rfl) rfl) (by omega) (by omega) hra (by rw [up2_n (by omega), up2_s]) (by rw [up2_s, e2]) (by omega) (fun z j h1 h2 => h0 z j (by omega) h2)
          refine ⟨A2, V2, c2, L', g1, g2, g3, g4, ?_, by omega, fun j h1 h2 h3 h4 h5 => ?_⟩
          · rcases g5 with g5 | g5
            · exact Or.inr ⟨i, by omega, hdn, hd, g5⟩
            · exact Or.inr g5
          · by_cases x : j = i
            · subst x; exact g6
            · exact g7 j (by omega) h2 h3 h4 h5
      · rw [if_neg (by simp (disch := omega) only [ltI, leI, eqI, tI, tI1, ti_0, ti_1, ti_2, ti_3, ti_4, ti_5, ti_6, ti_7, ti_8, ti_9, ti_10, ti_11, ti_12, ti_14, ti_18, ti_30, ti_39, ti_40, ti_41, ti_45, ti_50, ti_59, ti_97, ti_99, ti_100, ti_122, ti_160, ti_243, ti_255, ti_399, ti_999, ti_1000, ti_1024, ti_99999, tm_1, tm_2, tm_3, tm_4, tm_5, tm_7, tm_11, tm_12, tm_13, tm_14, tm_100, if_pos, if_neg, if_true, if_false, bC_in, bI_s, bS_s, bX_s, bY_s, sO, tC]; omega), r_L182x _ _ _ _ _ _ _ _ _ _ _ _ _ _ n41]
        exact same (fun _ q => absurd (Option.some.inj (hd.symm.trans q)) z)
/-- what the reference's search leaves -/
def rres (V : xM) (dl : Nat → Nat → Option Nat) (M a0 : Nat) (dn : Nat → Prop) : Prop := (V 132 41 = -1 ∧ V 132 42 = -1 ∧ noBest dl M a0 dn) ∨ ∃ D L, D < 1024 ∧ V 132 41 = nI D ∧ V 132 42 = olb D L ∧ isBest dl M a0 dn D L
theorem r_L91 (hv : iv N B A V tx cu) {s r aw' a0 wa no : Nat} (hs : s < N 0) (hr : r < 4) (haw : aw' < 32) (hwa : wa < 32) (hno : no < 32) (ha0 : a0 < 1024) (ex : xM → xM → Value → Option xS) : ∀ k i fu (A1 V1 : xM) (c1 : Value) (re : Nat) (ln : Nat → Nat) (fr : Nat → Option Nat) (lb : Nat → Nat), agr A V A1 V1 → i + k = 1024 → k + 1024 < fu → i ≤ re → BI (dlR N B tx (A 131) (A 135 s) s r aw') (2 ^ N 1) a0 i 1 re ln fr lb → rarr A1 re ln fr lb → V1 132 41 = -1 → V1 132 42 = -1 → (∀ j, j < i → dnb a0 wa no (ln j) (N 1) = false) → ∃ (A2 V2 : xM) (c2 : Value), fX9_plan_L91 (nI s) (nI r) (nI wa) (nI no) (nI aw') (nI (mk5 (fun p => Nat.blt p (N 1) && hsf (B 5) (A 135 s) p))) (nI a0) ex fu (nI re) (nI i) A1 V1 c1 = ex A2 V2 c2 ∧ agr A V A2 V2 ∧ rres V2 (dlR N B tx (A 131) (A 135 s) s r aw') (2 ^ N 1) a0 (fun n => dnb a0 wa no n (N 1) = true) := by
  obtain ⟨-, ⟨p1, p2, p3⟩, -⟩ := id hv.1
  have h32 := p2_32 _ p3
  have hpos := Nat.two_pow_pos (N 1)
  -- none is done
  have fin0 : ∀ (i fu : Nat) (A1 V1 : xM) (c1 : Value) (re : Nat) (ln : Nat → Nat) (fr : Nat → Option Nat) (lb : Nat → Nat), agr A V A1 V1 → i = re → i ≤ 1024 → 0 < fu → BI (dlR N B tx (A 131) (A 135 s) s r aw') (2 ^ N 1) a0 i 1 re ln fr lb → V1 132 41 = -1 → V1 132 42 = -1 → (∀ j, j < i → dnb a0 wa no (ln j) (N 1) = false) → ∃ (A2 V2 : xM) (c2 : Value), fX9_plan_L91 (nI s) (nI r) (nI wa) (nI no) (nI aw') (nI (mk5 (fun p => Nat.blt p (N 1) && hsf (B 5) (A 135 s) p))) (nI a0) ex fu (nI re) (nI i) A1 V1 c1 = ex A2 V2 c2 ∧ agr A V A2 V2 ∧ rres V2 (dlR N B tx (A 131) (A 135 s) s r aw') (2 ^ N 1) a0 (fun n => dnb a0 wa no n (N 1) = true) := by
    intro i fu A1 V1 c1 re ln fr lb ha hi hi2 hf hB h41 h42 hno'
    obtain ⟨fu, rfl⟩ : ∃ m, fu = m + 1 := ⟨fu - 1, by omega⟩
    refine ⟨A1, V1, c1, by rw [fX9_plan_L91, if_pos (by simp (disch := omega) only [ltI, leI, eqI, tI, tI1, ti_0, ti_1, ti_2, ti_3, ti_4, ti_5, ti_6, ti_7, ti_8, ti_9, ti_10, ti_11, ti_12, ti_14, ti_18, ti_30, ti_39, ti_40, ti_41, ti_45, ti_50, ti_59, ti_97, ti_99, ti_100, ti_122, ti_160, ti_243, ti_255, ti_399, ti_999, ti_1000, ti_1024, ti_99999, tm_1, tm_2, tm_3, tm_4, tm_5, tm_7, tm_11, tm_12, tm_13, tm_14, tm_100, if_pos, if_neg, if_true, if_false, bC_in, bI_s, bS_s, bX_s, bY_s, sO, tC]; omega)], ha, Or.inl ⟨h41, h42, fun w n hw hdn => ?_⟩⟩
    obtain ⟨d, g1, -⟩ := BI_all hB w.length (fun k d hk _ _ => by omega) w n hw (Nat.le_refl _)
    obtain ⟨k, k1, k2⟩ := hB.2.2.1 n d g1
    have := hno' k (by omega)
    rw [k2] at this
    have hdn : dnb a0 wa no n (N 1) = true := hdn
    rw [this] at hdn
    cases hdn
  intro k
  induction k with
  | zero =>
    intro i fu A1 V1 c1 re ln fr lb ha hi hf hire hB hra h41 h42 hno'
    have hreS : re ≤ 1024 := re_le hB (fun k hk => (hra.1 k hk).2)
    exact fin0 i fu A1 V1 c1 re ln fr lb ha (by omega) (by omega) (by omega) hB h41 h42 hno'
  | succ k ih =>
    intro i fu A1 V1 c1 re ln fr lb ha hi hf hire hB hra h41 h42 hno'
    have hreS : re ≤ 1024 := re_le hB (fun k hk => (hra.1 k hk).2)
    by_cases hie : i = re
    · exact fin0 i fu A1 V1 c1 re ln fr lb ha hie (by omega) (by omega) hB h41 h42 hno'
    have hilt : i < re := by omega
    obtain ⟨fu, rfl⟩ : ∃ m, fu = m + 1 := ⟨fu - 1, by omega⟩
    obtain ⟨hl1, hl2⟩ := hra.1 i hilt
    have e4 : V1 132 4 = nI (N 1) := (ha.2 132 4 rfl).trans p2
    obtain ⟨d, hd, hdi⟩ : ∃ d, fr (ln i) = some d ∧ d ≤ i := hB.2.1 i hilt
    rw [fX9_plan_L91, if_neg (by simp (disch := omega) only [ltI, leI, eqI, tI, tI1, ti_0, ti_1, ti_2, ti_3, ti_4, ti_5, ti_6, ti_7, ti_8, ti_9, ti_10, ti_11, ti_12, ti_14, ti_18, ti_30, ti_39, ti_40, ti_41, ti_45, ti_50, ti_59, ti_97, ti_99, ti_100, ti_122, ti_160, ti_243, ti_255, ti_399, ti_999, ti_1000, ti_1024, ti_99999, tm_1, tm_2, tm_3, tm_4, tm_5, tm_7, tm_11, tm_12, tm_13, tm_14, tm_100, if_pos, if_neg, if_true, if_false, bC_in, bI_s, bS_s, bX_s, bY_s, sO, tC]; omega), bC_in ⟨by omega, by decide⟩, tC (by omega), hl1, r_done (N := N) hl2 ha0 hwa hno p3 e4, bI_s, sO]
    cases hdn : dnb a0 wa no (ln i) (N 1) with
    | false =>
      rw [nbf, if_pos rfl]
      obtain ⟨A2, V2, c2, re', ln', fr', lb', g1, g2, g3, g4, g5, g6, g7, g8⟩ := r_L182 hv (a0 := a0) (i := i) hs hr haw (nI wa) (nI no) (nI a0) (nI i) (fun (l8_50 : Int32) (A57 V58 : xM) (c59 : Value) => fX9_plan_L91 (nI s) (nI r) (nI wa) (nI no) (nI aw') (nI (mk5 (fun p => Nat.blt p (N 1) && hsf (B 5) (A 135 s) p))) (nI a0) ex fu l8_50 (nI (i + 1)) A57 V58 c59) (2 ^ N 1 - 1) 1 FU A1 V1 c1 re ln fr lb ha (by omega) (Nat.le_refl _) (fu_gt (by omega)) hB hilt hra h41
      obtain ⟨A5, V5, c5, u1, u2, u3⟩ := ih (i + 1) fu A2 V2 c2 re' ln' fr' lb' g2 (by omega) (by omega) (by omega) (BI_next g3 (by omega)) g6 g7 (g8.trans h42) (fun j hj => by
        rw [g5 j (by omega)]
        by_cases z : j = i
        · rw [z]; exact hdn
        · exact hno' j (by omega))
      exact ⟨A5, V5, c5, Eq.trans g1 u1, u2, u3⟩
    | true =>
      rw [nbt, if_neg (by decide), if_pos h41, bC_in ⟨hl2, by decide⟩, tC (show ln i < 2 ^ 20 by omega), hra.2.1 _ hl2, hd, show ofr (some d) = nI d from rfl, hra.2.2 _ d hl2 hd, r_L182x _ _ _ _ _ _ _ _ _ _ _ _ _ _ (by rw [up2_n (by omega), up2_s]; simp (disch := omega) only [ltI, leI, eqI, tI, tI1, ti_0, ti_1, ti_2, ti_3, ti_4, ti_5, ti_6, ti_7, ti_8, ti_9, ti_10, ti_11, ti_12, ti_14, ti_18, ti_30, ti_39, ti_40, ti_41, ti_45, ti_50, ti_59, ti_97, ti_99, ti_100, ti_122, ti_160, ti_243, ti_255, ti_399, ti_999, ti_1000, ti_1024, ti_99999, tm_1, tm_2, tm_3, tm_4, tm_5, tm_7, tm_11, tm_12, tm_13, tm_14, tm_100, if_pos, if_neg, if_true, if_false, bC_in, bI_s, bS_s, bX_s, bY_s, sO, tC]; omega)]
      have hlbL : (if d = 0 then 0 else lb (ln i)) < 32 := by
        by_cases z : d = 0
        · rw [if_pos z]; omega
        · rw [if_neg z]; have := lb_lt hB hd (by omega); omega
      have eL : olb d (lb (ln i)) = olb d (if d = 0 then 0 else lb (ln i)) := by
        unfold olb
        by_cases z : d = 0
        · rw [if_pos z, if_pos z]
        · rw [if_neg z, if_neg z, if_neg z]
      obtain ⟨A2, V2, c2, L', g1, g2, g3, g4, g5, g6, g7⟩ := r_scan hv (wa := wa) (no := no) h32 hB ha0 hwa hno (show d < 1024 by omega) (nI s) (nI r) (nI aw') (nI (mk5 (fun p => Nat.blt p (N 1) && hsf (B 5) (A 135 s) p))) ex (re - (i + 1)) (i + 1) fu A1 (up2 (up2 V1 132 41 (nI d)) 132 42 (olb d (lb (ln i)))) c1 (if d = 0 then 0 else lb (ln i)) (agr_v (agr_v ha rfl) rfl) (by omega) (by omega) hra (by rw [up2_n (by omega), up2_s]) (by rw [up2_s]; exact eL) hlbL (fun z j h1 h2 h3 => by
        have hz := hB.2.2.2.2.2.2.1 (ln j) 0 h3
        obtain ⟨w, w1, w2, -⟩ := hz
        have : w = [] := List.length_eq_zero_iff.mp w2
        subst this
        have e0 : a0 = ln j := Option.some.inj w1
        have := hB.2.2.2.1 0 j (by omega) h2 (by rw [hB.1.2.1]; exact e0)
        omega)
      refine ⟨A2, V2, c2, g1, g2, Or.inr ⟨d, L', by omega, g3, g4, ?_, fun w n hw hdw => ?_⟩⟩
      · have att : ∃ j, j < re ∧ dnb a0 wa no (ln j) (N 1) = true ∧ fr (ln j) = some d ∧ (1 ≤ d → L' = lb (ln j)) := by
          rcases g5 with g5 | ⟨j, j1, j2, j3, j4⟩
          · exact ⟨i, hilt, hdn, hd, fun z => by rw [g5, if_neg (by omega)]⟩
          · exact ⟨j, j1, j2, j3, fun _ => j4⟩
        obtain ⟨j, j1, j2, j3, j4⟩ := att
        obtain ⟨w, w1, w2, w3⟩ := hB.2.2.2.2.2.2.1 (ln j) d j3
        exact ⟨w, ln j, w1, j2, w2, fun z => by rw [j4 z]; exact (w3 z).symm⟩
      · have hdw : dnb a0 wa no n (N 1) = true := hdw
        have hlow : ∀ k d', k < re → fr (ln k) = some d' → d' < d → k < i := fun k d' hk hk2 hlt => by
          by_cases y : k < i
          · exact y
          · have := hB.2.2.2.2.1 i k d d' (by omega) hk hd hk2
            omega
        have low : w.length ≤ d → d ≤ w.length ∧ (1 ≤ d → L' ≤ wfst w) := by
          intro hlen
          obtain ⟨d', e1, e2, e3⟩ := BI_all hB d hlow w n hw hlen
          obtain ⟨k', k1, k2⟩ := hB.2.2.1 n d' e1
          have hge : d ≤ d' := by
            by_cases y : d' < d
            · have := hno' k' (hlow k' d' k1 (by rw [k2]; exact e1) y)
              rw [k2] at this
              rw [this] at hdw
              cases hdw
            · omega
          refine ⟨by omega, fun z => ?_⟩
          have hdd : d' = d := by omega
          subst hdd
          have l1 := e3 (by omega) z
          have l2 : L' ≤ lb n := by
            rw [← k2]
            by_cases y : k' = i
            · rw [y]
              have := g6
              rw [if_neg (by omega)] at this
              exact this
            · have : i < k' := by
                by_cases x : k' < i
                · have := hno' k' x
                  rw [k2] at this
                  rw [this] at hdw
                  cases hdw
                · omega
              exact g7 k' (by omega) k1 (by rw [k2]; exact hdw) (by rw [k2]; exact e1) z
          omega
        refine ⟨?_, fun z1 z2 => (low (by omega)).2 z2⟩
        by_cases y : w.length ≤ d
        · exact (low y).1
        · omega
theorem r_fill (l1 l2 l3 l4 l5 l6 l7 : Int32) (V1 : xM) (c1 : Value) (ex : xM → xM → Value → Option xS) : ∀ k i n (A1 : xM), i + k = 1024 → k < n → ∃ A2, fX9_plan_L29 l1 l2 l3 l4 l5 l6 l7 ex n (nI i) A1 V1 c1 = ex A2 V1 c1 ∧ (∀ j, i ≤ j → j < 1024 → A2 155 j = -1) ∧ (∀ j, j < i → A2 155 j = A1 155 j) ∧ ∀ b, b ≠ 155 → A2 b = A1 b := by
  intro k
  induction k with
  | zero =>
    intro i n A1 hi hn
    obtain ⟨n, rfl⟩ : ∃ m, n = m + 1 := ⟨n - 1, by omega⟩
    refine ⟨A1, ?_, fun j h1 h2 => by omega, fun _ _ => rfl, fun _ _ => rfl⟩
    rw [fX9_plan_L29, if_pos (by simp (disch := omega) only [ltI, leI, eqI, tI, tI1, ti_0, ti_1, ti_2, ti_3, ti_4, ti_5, ti_6, ti_7, ti_8, ti_9, ti_10, ti_11, ti_12, ti_14, ti_18, ti_30, ti_39, ti_40, ti_41, ti_45, ti_50, ti_59, ti_97, ti_99, ti_100, ti_122, ti_160, ti_243, ti_255, ti_399, ti_999, ti_1000, ti_1024, ti_99999, tm_1, tm_2, tm_3, tm_4, tm_5, tm_7, tm_11, tm_12, tm_13, tm_14, tm_100, if_pos, if_neg, if_true, if_false, bC_in, bI_s, bS_s, bX_s, bY_s, sO, tC]; omega)]
  | succ k ih =>
    intro i n A1 hi hn
    obtain ⟨n, rfl⟩ : ∃ m, n = m + 1 := ⟨n - 1, by omega⟩
    obtain ⟨A2, w1, w2, w3, w4⟩ := ih (i + 1) n (aw A1 155 (nI i) (-1)) (by omega) (by omega)
    refine ⟨A2, ?_, fun j h1 h2 => ?_, fun j h1 => ?_, fun b hb => (w4 b hb).trans (aw_n hb)⟩
    · rw [fX9_plan_L29, if_neg (by simp (disch := omega) only [ltI, leI, eqI, tI, tI1, ti_0, ti_1, ti_2, ti_3, ti_4, ti_5, ti_6, ti_7, ti_8, ti_9, ti_10, ti_11, ti_12, ti_14, ti_18, ti_30, ti_39, ti_40, ti_41, ti_45, ti_50, ti_59, ti_97, ti_99, ti_100, ti_122, ti_160, ti_243, ti_255, ti_399, ti_999, ti_1000, ti_1024, ti_99999, tm_1, tm_2, tm_3, tm_4, tm_5, tm_7, tm_11, tm_12, tm_13, tm_14, tm_100, if_pos, if_neg, if_true, if_false, bC_in, bI_s, bS_s, bX_s, bY_s, sO, tC]; omega), bC_in ⟨by omega, by decide⟩, sO]
      exact w1
    · by_cases q : j = i
      · subst q
        rw [w3 j (by omega), aw_s, tC (by omega), pk_us]
      · exact w2 j (by omega) h2
    · rw [w3 j (by omega), aw_s, tC (by omega), pk_un (by omega)]
theorem r_plan (hv : iv N B A V tx cu) (ha : agr A V A1 V1) (c1 : Value) {s r aw' wa no : Nat} (hs : s < N 0) (hr : r < 4) (haw : aw' < 32) (hwa : wa < 32) (hno : no < 32) : ∃ (A2 V2 : xM) (c2 : Value), fX9_plan (nI s) (nI r) (nI wa) (nI no) (nI aw') A1 V1 c1 = some (A2, V2, c2) ∧ agr A V A2 V2 ∧ rres V2 (dlR N B tx (A 131) (A 135 s) s r aw') (2 ^ N 1) (cd 4 (K0 B s) (N 1)) (fun n => dnb (cd 4 (K0 B s) (N 1)) wa no n (N 1) = true) := by
  obtain ⟨v1, v2, v3, v4, v5, v6, v7, v8, v9, v10, v11, v12, v13⟩ := id hv
  obtain ⟨⟨s1, s2, s3⟩, ⟨p1, p2, p3⟩, -, ⟨t1, t2, t3⟩, ⟨l1, l2, l3⟩, -⟩ := v1
  have e4 : V1 132 4 = nI (N 1) := (ha.2 132 4 rfl).trans p2
  have e134 : A1 135 = A 135 := ha.1 135 rfl
  have e138 : A1 139 = A 139 := ha.1 139 rfl
  have hwh := r_whoHas (N := N) (A1 := A1) (V1 := V1) (l := 139) (s := s) (F := B 5) (by omega) p3 e4 (by rw [e134]; exact (need_ok hv hs).2) (fun i hi => ⟨by rw [e138]; exact v7.2.2 i hi, F_le hv hi⟩)
  rw [e134] at hwh
  obtain ⟨A2, w1, w2, w3⟩ := r_take (A1 := A1) (l := 139) (s := s) (by decide) (by omega) p3 e4 c1
  have ha2 : agr A V A2 V1 := agr_1 ha (r := 152) rfl w3
  have hK0 : ∀ p, p < N 1 → K0 B s p ≤ 3 := fun p hp => (v7.1 p s (by omega) (by omega)).1
  have hst := r_state (N := N) (A1 := A2) (V1 := V1) (K := K0 B s) p3 e4 (fun p hp => ⟨by rw [w2 p hp, e138]; exact v7.2.2 _ (by omega), hK0 p hp⟩)
  have ha0 := cd5 (N := N) p3 hK0
  obtain ⟨a0, h0⟩ : ∃ a0, a0 = cd 4 (K0 B s) (N 1) := ⟨_, rfl⟩
  rw [← h0] at hst ha0 ⊢
  obtain ⟨A3, x1, x2, x3, x4⟩ := r_fill (nI s) (nI r) (nI wa) (nI no) (nI aw') (nI (mk5 (fun p => Nat.blt p (N 1) && hsf (B 5) (A 135 s) p))) (nI a0) V1 c1 (fun (A122 V123 : xM) (c124 : Value) => bC (xq_in (nI a0) 1024) (fX9_plan_L91 (nI s) (nI r) (nI wa) (nI no) (nI aw') (nI (mk5 (fun p => Nat.blt p (N 1) && hsf (B 5) (A 135 s) p))) (nI a0) (fun (A142 V143 : xM) (c144 : Value) => some (A142, V143, c144)) FU (1 : Int32) (0 : Int32) (aw (aw (aw A122 154 (0 : Int32) (nI a0)) 155 (nI a0) (0 : Int32)) 156 (nI a0) (-1 : Int32)) (up2 (up2 V123 132 41 (-1 : Int32)) 132 42 (-1 : Int32)) c124)) 1024 0 FU A2 (by omega) (fu_gt (by omega))
  have ha3 : agr A V A3 V1 := agr_1 ha2 (r := 155) rfl x4
  have hra : rarr (aw (aw (aw A3 154 (0 : Int32) (nI a0)) 155 (nI a0) (0 : Int32)) 156 (nI a0) (-1 : Int32)) 1 (fun _ => a0) (fun n => if n = a0 then some 0 else none) (fun _ => 0) := by
    refine ⟨fun k hk => ?_, fun n hn => ?_, fun n e hn he => ?_⟩
    · have : k = 0 := by omega
      subst this
      rw [aw_n (by decide), aw_n (by decide), aw_s]
      exact ⟨rfl, ha0⟩
    · rw [aw_n (by decide), aw_s, aw_n (by decide), tC (by omega)]
      by_cases z : n = a0
      · rw [z, pk_us]; show _ = ofr (if a0 = a0 then some 0 else none); rw [if_pos rfl]; rfl
      · rw [pk_un z, x2 n (Nat.zero_le _) hn]; show _ = ofr (if n = a0 then some 0 else none); rw [if_neg z]; rfl
    · have he : (if n = a0 then some 0 else none) = some e := he
      by_cases z : n = a0
      · rw [if_pos z] at he
        cases he
        rw [z, aw_s, tC (by omega), pk_us]
        rfl
      · rw [if_neg z] at he; cases he
  obtain ⟨A5, V5, c5, u1, u2, u3⟩ := r_L91 hv hs hr haw hwa hno ha0 (fun (A142 V143 : xM) (c144 : Value) => some (A142, V143, c144)) 1024 0 FU (aw (aw (aw A3 154 (0 : Int32) (nI a0)) 155 (nI a0) (0 : Int32)) 156 (nI a0) (-1 : Int32)) (up2 (up2 V1 132 41 (-1 : Int32)) 132 42 (-1 : Int32)) c1 1 (fun _ => a0) _ (fun _ => 0) (agr_v (agr_v (agr_w (agr_w (agr_w ha3 rfl) rfl) rfl) rfl) rfl) (by omega) (fu_gt (by omega)) (by omega) (BI_0 (fun _ => a0) rfl _) hra (by rw [up2_n (by omega), up2_s]) (by rw [up2_s]) (fun j hj => by omega)
  refine ⟨A5, V5, c5, ?_, u2, u3⟩
  unfold fX9_plan
  rw [hwh, bI_s, w1, bS_s, hst, bI_s]
  refine Eq.trans x1 ?_
  rw [bC_in ⟨ha0, by decide⟩]
  exact u1
end RS
