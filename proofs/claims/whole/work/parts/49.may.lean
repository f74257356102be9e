/-! WHETHER A SONG MAY BE SUNG: one picture for both sides. K: what each knows of it; C: the company. -/
def kn (K : Nat → Nat) (C : Nat → Bool) : Nat → Bool := fun p => C p && Nat.ble 2 (K p)
def sgs (B : Nat → Nat → Nat) (K : Nat → Nat) (C : Nat → Bool) : Nat → Bool := fun p => (C p && Nat.ble 2 (K p)) && sg (B 2 p) (B 4 p) (ct C - 1)
def nms (k w b s r e : Nat) : Nat → Int32
  | 0 => nI k
  | 1 => nI w
  | 2 => nI b
  | 3 => nI s
  | 4 => nI r
  | _ => nI e
def myp (B : Nat → Nat → Nat) (tx : List xh_T) (f0 : Nat → Int32) (t s r e : Nat) (K : Nat → Nat) (C : Nat → Bool) : Bool := sy tx f0 t 0 (nms (ct (kn K C)) (ct (sgs B K C)) (ct C) s r e)
def inP (P : Nat) (C : Nat → Bool) : Prop := ∀ p, p < 5 → C p = true → p < P
theorem inP_f {P : Nat} {C : Nat → Bool} (h : inP P C) {p : Nat} (hp : p < 5) (q : P ≤ p) : C p = false := by
  cases hc : C p with
  | false => rfl
  | true => have := h p hp hc; omega
theorem ct_0 {C : Nat → Bool} (h : ct C = 0) : ∀ p, p < 5 → C p = false := by
  unfold ct at h
  have hb : ∀ b : Bool, b.toNat = 0 → b = false := by decide
  intro p hp
  match p, hp with
  | 0, _ => exact hb _ (by omega)
  | 1, _ => exact hb _ (by omega)
  | 2, _ => exact hb _ (by omega)
  | 3, _ => exact hb _ (by omega)
  | 4, _ => exact hb _ (by omega)
theorem ct_pos {C : Nat → Bool} {p : Nat} (hp : p < 5) (h : C p = true) : 1 ≤ ct C := by
  by_cases q : ct C = 0
  · rw [ct_0 q p hp] at h; cases h
  · omega
theorem cti_e (f : Nat → Bool) (P : Nat) : ∀ k, (∀ p, P ≤ p → p < P + k → f p = false) → cti f (P + k) = cti f P
  | 0, _ => rfl
  | k + 1, h => by
    show cti f (P + k) + (f (P + k)).toNat = _
    rw [cti_e f P k (fun p h1 h2 => h p h1 (by omega)), h (P + k) (by omega) (by omega)]
    rfl
theorem cti_ct {f : Nat → Bool} {P : Nat} (hP : P ≤ 5) (h : ∀ p, P ≤ p → p < 5 → f p = false) : cti f P = ct f := by
  rw [← cti_5]
  obtain ⟨k, hk⟩ : ∃ k, 5 = P + k := ⟨5 - P, by omega⟩
  rw [hk, cti_e f P k (fun p h1 h2 => h p h1 (by omega))]
theorem bC_b {α : Type} (b : Bool) (k : Option α) : bC (decide (nI b.toNat = 0) || decide (nI b.toNat = 1)) k = k := by cases b <;> rfl
theorem kn_p {P : Nat} {K : Nat → Nat} {C : Nat → Bool} (h : inP P C) : inP P (kn K C) := fun p hp q => h p hp (Bool.and_eq_true _ _ ▸ q).1
theorem sgs_p {P : Nat} {B : Nat → Nat → Nat} {K : Nat → Nat} {C : Nat → Bool} (h : inP P C) : inP P (sgs B K C) := fun p hp q => h p hp (by simp only [sgs, Bool.and_eq_true] at q; exact q.1.1)
section MAY
variable {N : Nat → Nat} {B : Nat → Nat → Nat} {A V A1 V1 : xM} {tx : List xh_T} {cu : Value} {K : Nat → Nat} {C : Nat → Bool}
theorem c_singers (hv : iv N B A1 V1 tx cu) (hC : inP (N 1) C) {s l : Nat} (hs : s < 6) (hs5 : V1 81 5 = nI s) (hW : A1 (l + 1) s = nI (mk5 (fun p => Nat.ble 2 (K p)))) : fX6_singers l (nI (mk5 C)) A1 V1 = some (nI (mk5 (sgs B K C))) := by
  obtain ⟨v1, v2, v3, v4, v5, v6, v7, v8, v9, v10, v11, v12, v13⟩ := hv
  have c5 := ct_le C
  unfold fX6_singers
  rw [hs5, bC_in ⟨hs, by decide⟩, m_cnt, bI_s, tC (by omega), hW, m_and]
  unfold fX2_singers
  rw [if_neg (by simp (disch := omega) only [ltI, leI, eqI, tI, tI1, ti_0, ti_1, ti_2, ti_3, ti_4, ti_5, ti_6, ti_7, ti_8, ti_9, ti_10, ti_11, ti_12, ti_14, ti_18, ti_30, ti_39, ti_40, ti_41, ti_45, ti_50, ti_59, ti_97, ti_99, ti_100, ti_122, ti_160, ti_243, ti_255, ti_399, ti_999, ti_1000, ti_1024, ti_99999, tm_1, tm_2, tm_3, tm_4, tm_5, tm_7, tm_11, tm_12, tm_13, tm_14, tm_100, if_pos, if_neg, if_true, if_false, bC_in, bI_s, bS_s, bX_s, bY_s, sO, tC]; omega), if_pos (by simp (disch := omega) only [ltI, leI, eqI, tI, tI1, ti_0, ti_1, ti_2, ti_3, ti_4, ti_5, ti_6, ti_7, ti_8, ti_9, ti_10, ti_11, ti_12, ti_14, ti_18, ti_30, ti_39, ti_40, ti_41, ti_45, ti_50, ti_59, ti_97, ti_99, ti_100, ti_122, ti_160, ti_243, ti_255, ti_399, ti_999, ti_1000, ti_1024, ti_99999, tm_1, tm_2, tm_3, tm_4, tm_5, tm_7, tm_11, tm_12, tm_13, tm_14, tm_100, if_pos, if_neg, if_true, if_false, bC_in, bI_s, bS_s, bX_s, bY_s, sO, tC]; omega), bC_in ⟨by omega, by decide⟩, tC (by omega), bI_s]
  refine congrArg some ?_
  by_cases h0 : ct C = 0
  · have h1 : mk5 (fun p => Nat.ble 2 (K p) && C p) = 0 := by
      rw [mk5_c (g := fun _ => false) (fun p hp => by rw [ct_0 h0 p hp, Bool.and_false])]
      rfl
    have h2 : mk5 (sgs B K C) = 0 := by
      rw [mk5_c (g := fun _ => false) (fun p hp => by unfold sgs; rw [ct_0 h0 p hp]; rfl)]
      rfl
    rw [h1, h2, nI_0]
    exact Int32.zero_and
  · rw [v6.1 (ct C) (by omega) c5, m_and]
    refine congrArg nI (mk5_c (fun p hp => ?_))
    unfold sgs
    cases hc : C p with
    | false => rw [Bool.and_false]; rfl
    | true =>
      rw [show Nat.blt p (N 1) = true from Nat.blt_eq.mpr (hC p hp hc)]
      simp
theorem c_may (hv : iv N B A V tx cu) (ha : agr A V A1 V1) (hC : inP (N 1) C) {t s r e l : Nat} (ht : t ≤ tx.length) (hs : s < 6) (hs5 : V1 81 5 = nI s) (hW : A1 (l + 1) s = nI (mk5 (fun p => Nat.ble 2 (K p)))) (h3 : A1 83 3 = nI s) (h4 : A1 83 4 = nI r) (h5 : A1 83 5 = nI e) : ∃ A2, fX6_may tx l (nI (mk5 C)) A1 V1 (.ref (tref t)) = some (nI (myp B tx (A 131) t s r e K C).toNat, A2, V1, .ref (tref t)) ∧ (∀ b, b ≠ 82 → b ≠ 83 → A2 b = A1 b) ∧ ∀ m, m < 6 → A2 83 m = nms (ct (kn K C)) (ct (sgs B K C)) (ct C) s r e m := by
  have hv1 : iv N B A1 V1 tx cu := iv_agr ha hv
  have hk : mk5 (fun p => Nat.ble 2 (K p) && C p) = mk5 (kn K C) := mk5_c (fun p _ => Bool.and_comm _ _)
  have hnm : ∀ m, m < 6 → (aw (aw (aw A1 83 (0 : Int32) (nI (ct (kn K C)))) 83 (1 : Int32) (nI (ct (sgs B K C)))) 83 (2 : Int32) (nI (ct C))) 83 m = nms (ct (kn K C)) (ct (sgs B K C)) (ct C) s r e m := by
    intro m hm
    match m, hm with
    | 0, _ => rfl
    | 1, _ => rfl
    | 2, _ => rfl
    | 3, _ => exact h3
    | 4, _ => exact h4
    | 5, _ => exact h5
  obtain ⟨A2, t1, t2⟩ := c_says (part := 0) hv (agr_w (agr_w (agr_w ha rfl) rfl) rfl) ht (by decide) hnm
  have t1 : fX6_says tx 0 (aw (aw (aw A1 83 (0 : Int32) (nI (ct (kn K C)))) 83 (1 : Int32) (nI (ct (sgs B K C)))) 83 (2 : Int32) (nI (ct C))) V1 (.ref (tref t)) = some (nI (myp B tx (A 131) t s r e K C).toNat, A2, V1, .ref (tref t)) := t1
  refine ⟨A2, ?_, fun b h1 h2 => (t2 b h1).trans (by rw [aw_n h2, aw_n h2, aw_n h2]), fun m hm => ?_⟩
  · unfold fX6_may
    rw [hs5, bC_in ⟨hs, by decide⟩, tC (by omega), hW, m_and, hk, m_cnt, bI_s, c_singers hv1 hC hs hs5 hW, bI_s, m_cnt, bI_s, m_cnt, bI_s]
    unfold fX6_before
    rw [bS_s, t1, bX_s, bC_b]
  · rw [t2 83 (by decide)]
    exact hnm m hm
/-- whether it is spoilt -/
def spi (B : Nat → Nat → Nat) (K : Nat → Nat) (C : Nat → Bool) : Nat → Bool
  | 0 => false
  | i + 1 => spi B K C i || (sgs B K C i && (B 2 i == 5 || K i == 3))
theorem r_may_L (hk : ∀ p, p < N 1 → A1 136 p = nI (B 2 p) ∧ B 2 p ≤ 5) (hm : ∀ p, p < N 1 → A1 138 p = nI (B 4 p) ∧ B 4 p ≤ 9) (hK : ∀ p, p < N 1 → A1 152 p = nI (K p) ∧ K p ≤ 3) (h5 : N 1 ≤ 5) (l1 l2 l3 l5 : Int32) (ex : Int32 → xM → xM → Value → Option (Int32 × xS)) : ∀ k i n (V1 : xM), i + k = N 1 → k < n → V1 132 4 = nI (N 1) → V1 132 35 = nI (mk5 (fun q => Nat.blt q i && sgs B K C q)) → V1 132 36 = nI (spi B K C i).toNat → ∃ V2, fX9_may_L23 l1 l2 l3 (nI (mk5 C)) l5 (nI (ct C)) ex n (nI (cti (kn K C) i)) (nI i) A1 V1 cu = ex (nI (cti (kn K C) (N 1))) A1 V2 cu ∧ V2 132 35 = nI (mk5 (fun q => Nat.blt q (N 1) && sgs B K C q)) ∧ V2 132 36 = nI (spi B K C (N 1)).toNat ∧ ∀ a j, ¬ (a = 132 ∧ (j = 35 ∨ j = 36)) → V2 a j = V1 a j := by
  intro k
  induction k with
  | zero =>
    intro i n V1 hi hn h4 h35 h36
    obtain ⟨n, rfl⟩ : ∃ m, n = m + 1 := ⟨n - 1, by omega⟩
    have : i = N 1 := by omega
    subst this
    refine ⟨V1, ?_, h35, h36, fun _ _ _ => rfl⟩
    rw [fX9_may_L23]
    simp (disch := omega) only [ltI, leI, eqI, tI, tI1, ti_0, ti_1, ti_2, ti_3, ti_4, ti_5, ti_6, ti_7, ti_8, ti_9, ti_10, ti_11, ti_12, ti_14, ti_18, ti_30, ti_39, ti_40, ti_41, ti_45, ti_50, ti_59, ti_97, ti_99, ti_100, ti_122, ti_160, ti_243, ti_255, ti_399, ti_999, ti_1000, ti_1024, ti_99999, tm_1, tm_2, tm_3, tm_4, tm_5, tm_7, tm_11, tm_12, tm_13, tm_14, tm_100, if_pos, if_neg, if_true, if_false, bC_in, bI_s, bS_s, bX_s, bY_s, sO, tC, h4]
  | succ k ih =>
    intro i n V1 hi hn h4 h35 h36
    obtain ⟨n, rfl⟩ : ∃ m, n = m + 1 := ⟨n - 1, by omega⟩
    have hi5 : i < 5 := by omega
    have hsh := mk5_sh C hi5
    obtain ⟨hk1, hk2⟩ := hk i (by omega)
    obtain ⟨hm1, hm2⟩ := hm i (by omega)
    obtain ⟨hK1, hK2⟩ := hK i (by omega)
    have c5 := ct_le C
    have t5 : cti (kn K C) i ≤ i := by
      have : ∀ f : Nat → Bool, ∀ i, cti f i ≤ i := by
        intro f i
        induction i with
        | zero => exact Nat.le_refl _
        | succ i ih =>
          have hb : (f i).toNat ≤ 1 := by cases f i <;> decide
          rw [cti]
          omega
      exact this _ _
    -- one that isn't counted among the singers
    have skip : sgs B K C i = false → nI (mk5 (fun q => Nat.blt q (i + 1) && sgs B K C q)) = nI (mk5 (fun q => Nat.blt q i && sgs B K C q)) ∧ spi B K C (i + 1) = spi B K C i := by
      intro q
      constructor
      · refine congrArg nI (mk5_c (fun p hp => ?_))
        by_cases hpi : p = i
        · subst hpi; rw [q, Bool.and_false, Bool.and_false]
        · have : Nat.blt p (i + 1) = Nat.blt p i := by
            apply Bool.eq_iff_iff.mpr
            rw [Nat.blt_eq, Nat.blt_eq]
            omega
          rw [this]
      · rw [spi, q, Bool.false_and, Bool.or_false]
    have take : sgs B K C i = true → nI (mk5 (fun q => Nat.blt q i && sgs B K C q)) ||| (1 : Int32) <<< (nI i &&& 31) = nI (mk5 (fun q => Nat.blt q (i + 1) && sgs B K C q)) ∧ spi B K C (i + 1) = (spi B K C i || (B 2 i == 5 || K i == 3)) := by
      intro q
      constructor
      · rw [mk5_or _ hi5]
        refine congrArg nI (mk5_c (fun p hp => ?_))
        unfold fs
        by_cases hpi : p = i
        · subst hpi
          rw [if_pos rfl, q, Bool.and_true]
          exact (Nat.blt_eq.mpr (by omega)).symm
        · rw [if_neg hpi]
          have : Nat.blt p (i + 1) = Nat.blt p i := by
            apply Bool.eq_iff_iff.mpr
            rw [Nat.blt_eq, Nat.blt_eq]
            omega
          rw [this]
      · rw [spi, q, Bool.true_and]
    have go0 : kn K C i = false → sgs B K C i = false → ∃ V2, fX9_may_L23 l1 l2 l3 (nI (mk5 C)) l5 (nI (ct C)) ex n (nI (cti (kn K C) i)) (nI (i + 1)) A1 V1 cu = ex (nI (cti (kn K C) (N 1))) A1 V2 cu ∧ V2 132 35 = nI (mk5 (fun q => Nat.blt q (N 1) && sgs B K C q)) ∧ V2 132 36 = nI (spi B K C (N 1)).toNat ∧ ∀ a j, ¬ (a = 132 ∧ (j = 35 ∨ j = 36)) → V2 a j = V1 a j := by
      intro q1 q2
      have hc : cti (kn K C) (i + 1) = cti (kn K C) i := by rw [cti, q1]; rfl
      have := ih (i + 1) n V1 (by omega) (by omega) h4 (h35.trans (skip q2).1.symm) (h36.trans (by rw [(skip q2).2]))
      rw [hc] at this
      exact this
    have go1 : kn K C i = true → sgs B K C i = false → ∃ V2, fX9_may_L23 l1 l2 l3 (nI (mk5 C)) l5 (nI (ct C)) ex n (nI (cti (kn K C) i + 1)) (nI (i + 1)) A1 V1 cu = ex (nI (cti (kn K C) (N 1))) A1 V2 cu ∧ V2 132 35 = nI (mk5 (fun q => Nat.blt q (N 1) && sgs B K C q)) ∧ V2 132 36 = nI (spi B K C (N 1)).toNat ∧ ∀ a j, ¬ (a = 132 ∧ (j = 35 ∨ j = 36)) → V2 a j = V1 a j := by
      intro q1 q2
      have hc : cti (kn K C) (i + 1) = cti (kn K C) i + 1 := by rw [cti, q1]; rfl
      have := ih (i + 1) n V1 (by omega) (by omega) h4 (h35.trans (skip q2).1.symm) (h36.trans (by rw [(skip q2).2]))
      rw [hc] at this
      exact this
    have go2 : kn K C i = true → sgs B K C i = true → ∀ x : Int32, x = nI (spi B K C i || (B 2 i == 5 || K i == 3)).toNat → ∃ V2, fX9_may_L23 l1 l2 l3 (nI (mk5 C)) l5 (nI (ct C)) ex n (nI (cti (kn K C) i + 1)) (nI (i + 1)) A1 (up2 (up2 V1 132 35 (nI (mk5 (fun q => Nat.blt q i && sgs B K C q)) ||| (1 : Int32) <<< (nI i &&& 31))) 132 36 x) cu = ex (nI (cti (kn K C) (N 1))) A1 V2 cu ∧ V2 132 35 = nI (mk5 (fun q => Nat.blt q (N 1) && sgs B K C q)) ∧ V2 132 36 = nI (spi B K C (N 1)).toNat ∧ ∀ a j, ¬ (a = 132 ∧ (j = 35 ∨ j = 36)) → V2 a j = V1 a j := by
      intro q1 q2 x hx
      have hc : cti (kn K C) (i + 1) = cti (kn K C) i + 1 := by rw [cti, q1]; rfl
      obtain ⟨V2, w1, w2, w3, w4⟩ := ih (i + 1) n (up2 (up2 V1 132 35 (nI (mk5 (fun q => Nat.blt q i && sgs B K C q)) ||| (1 : Int32) <<< (nI i &&& 31))) 132 36 x) (by omega) (by omega) (by rw [up2_n (by omega), up2_n (by omega)]; exact h4) (by rw [up2_n (by omega), up2_s]; exact (take q2).1) (by rw [up2_s, hx, (take q2).2])
      rw [hc] at w1
      refine ⟨V2, w1, w2, w3, fun a j h => ?_⟩
      rw [w4 a j h, up2_n (by omega), up2_n (by omega)]
    rw [fX9_may_L23, if_neg (by simp (disch := omega) only [ltI, leI, eqI, tI, tI1, ti_0, ti_1, ti_2, ti_3, ti_4, ti_5, ti_6, ti_7, ti_8, ti_9, ti_10, ti_11, ti_12, ti_14, ti_18, ti_30, ti_39, ti_40, ti_41, ti_45, ti_50, ti_59, ti_97, ti_99, ti_100, ti_122, ti_160, ti_243, ti_255, ti_399, ti_999, ti_1000, ti_1024, ti_99999, tm_1, tm_2, tm_3, tm_4, tm_5, tm_7, tm_11, tm_12, tm_13, tm_14, tm_100, if_pos, if_neg, if_true, if_false, bC_in, bI_s, bS_s, bX_s, bY_s, sO, tC, h4]; omega), hsh]
    cases hc : C i with
    | false =>
      rw [nbf, if_neg (by decide), sO]
      exact go0 (by simp [kn, hc]) (by simp [sgs, hc])
    | true =>
      rw [nbt, if_pos rfl, bC_in ⟨hi5, by decide⟩]
      have cpos := ct_pos hi5 hc
      by_cases hk2' : 2 ≤ K i
      · have hkn : kn K C i = true := by simp only [kn, hc, Bool.true_and]; exact Nat.ble_eq.mpr hk2'
        have hkb : Nat.ble 2 (K i) = true := Nat.ble_eq.mpr hk2'
        have hby : nI (ct C) - 1 = nI (ct C - 1) := by rw [show (1 : Int32) = nI 1 from rfl, pk_sub (by omega)]
        rw [if_neg (by simp (disch := omega) only [ltI, leI, eqI, tI, tI1, ti_0, ti_1, ti_2, ti_3, ti_4, ti_5, ti_6, ti_7, ti_8, ti_9, ti_10, ti_11, ti_12, ti_14, ti_18, ti_30, ti_39, ti_40, ti_41, ti_45, ti_50, ti_59, ti_97, ti_99, ti_100, ti_122, ti_160, ti_243, ti_255, ti_399, ti_999, ti_1000, ti_1024, ti_99999, tm_1, tm_2, tm_3, tm_4, tm_5, tm_7, tm_11, tm_12, tm_13, tm_14, tm_100, if_pos, if_neg, if_true, if_false, bC_in, bI_s, bS_s, bX_s, bY_s, sO, tC, hK1]; omega), hby, h35]
        have blk : sgs B K C i = true → ∃ V2, (if ((up2 V1 132 35 (nI (mk5 (fun q => Nat.blt q i && sgs B K C q)) ||| (1 : Int32) <<< (nI i &&& 31))) 132 36) = 0 then (if (A1 136 (nI i).toNatClampNeg) = (5 : Int32) then (fX9_may_L23 l1 l2 l3 (nI (mk5 C)) l5 (nI (ct C)) ex n (nI (cti (kn K C) i) + Int32.ofInt 1) (nI i + Int32.ofInt 1) A1 (up2 (up2 V1 132 35 (nI (mk5 (fun q => Nat.blt q i && sgs B K C q)) ||| (1 : Int32) <<< (nI i &&& 31))) 132 36 (1 : Int32)) cu) else (if (A1 152 (nI i).toNatClampNeg) = (3 : Int32) then (fX9_may_L23 l1 l2 l3 (nI (mk5 C)) l5 (nI (ct C)) ex n (nI (cti (kn K C) i) + Int32.ofInt 1) (nI i + Int32.ofInt 1) A1 (up2 (up2 V1 132 35 (nI (mk5 (fun q => Nat.blt q i && sgs B K C q)) ||| (1 : Int32) <<< (nI i &&& 31))) 132 36 (1 : Int32)) cu) else (fX9_may_L23 l1 l2 l3 (nI (mk5 C)) l5 (nI (ct C)) ex n (nI (cti (kn K C) i) + Int32.ofInt 1) (nI i + Int32.ofInt 1) A1 (up2 (up2 V1 132 35 (nI (mk5 (fun q => Nat.blt q i && sgs B K C q)) ||| (1 : Int32) <<< (nI i &&& 31))) 132 36 (0 : Int32)) cu))) else (fX9_may_L23 l1 l2 l3 (nI (mk5 C)) l5 (nI (ct C)) ex n (nI (cti (kn K C) i) + Int32.ofInt 1) (nI i + Int32.ofInt 1) A1 (up2 (up2 V1 132 35 (nI (mk5 (fun q => Nat.blt q i && sgs B K C q)) ||| (1 : Int32) <<< (nI i &&& 31))) 132 36 (1 : Int32)) cu)) = ex (nI (cti (kn K C) (N 1))) A1 V2 cu ∧ V2 132 35 = nI (mk5 (fun q => Nat.blt q (N 1) && sgs B K C q)) ∧ V2 132 36 = nI (spi B K C (N 1)).toNat ∧ ∀ a j, ¬ (a = 132 ∧ (j = 35 ∨ j = 36)) → V2 a j = V1 a j := by
          intro q
          rw [up2_n (by omega), h36, tC (by omega), hk1, hK1, sO, sO]
          cases hsp : spi B K C i with
          | true =>
            rw [nbt, if_neg (by decide)]
            exact go2 hkn q 1 (by rw [hsp]; rfl)
          | false =>
            rw [nbf, if_pos rfl]
            by_cases q5 : B 2 i = 5
            · rw [if_pos (by rw [q5]; rfl)]
              exact go2 hkn q 1 (by rw [hsp, q5]; rfl)
            · rw [if_neg (by simp (disch := omega) only [ltI, leI, eqI, tI, tI1, ti_0, ti_1, ti_2, ti_3, ti_4, ti_5, ti_6, ti_7, ti_8, ti_9, ti_10, ti_11, ti_12, ti_14, ti_18, ti_30, ti_39, ti_40, ti_41, ti_45, ti_50, ti_59, ti_97, ti_99, ti_100, ti_122, ti_160, ti_243, ti_255, ti_399, ti_999, ti_1000, ti_1024, ti_99999, tm_1, tm_2, tm_3, tm_4, tm_5, tm_7, tm_11, tm_12, tm_13, tm_14, tm_100, if_pos, if_neg, if_true, if_false, bC_in, bI_s, bS_s, bX_s, bY_s, sO, tC]; omega)]
              by_cases q3 : K i = 3
              · rw [if_pos (by rw [q3]; rfl)]
                exact go2 hkn q 1 (by rw [hsp, q3, show ((3 : Nat) == 3) = true from rfl, Bool.or_true, Bool.or_true]; rfl)
              · rw [if_neg (by simp (disch := omega) only [ltI, leI, eqI, tI, tI1, ti_0, ti_1, ti_2, ti_3, ti_4, ti_5, ti_6, ti_7, ti_8, ti_9, ti_10, ti_11, ti_12, ti_14, ti_18, ti_30, ti_39, ti_40, ti_41, ti_45, ti_50, ti_59, ti_97, ti_99, ti_100, ti_122, ti_160, ti_243, ti_255, ti_399, ti_999, ti_1000, ti_1024, ti_99999, tm_1, tm_2, tm_3, tm_4, tm_5, tm_7, tm_11, tm_12, tm_13, tm_14, tm_100, if_pos, if_neg, if_true, if_false, bC_in, bI_s, bS_s, bX_s, bY_s, sO, tC]; omega)]
                exact go2 hkn q 0 (by rw [hsp, beq_eq_false_iff_ne.mpr q5, beq_eq_false_iff_ne.mpr q3]; rfl)
        by_cases k2 : B 2 i = 2
        · rw [if_pos (by simp (disch := omega) only [ltI, leI, eqI, tI, tI1, ti_0, ti_1, ti_2, ti_3, ti_4, ti_5, ti_6, ti_7, ti_8, ti_9, ti_10, ti_11, ti_12, ti_14, ti_18, ti_30, ti_39, ti_40, ti_41, ti_45, ti_50, ti_59, ti_97, ti_99, ti_100, ti_122, ti_160, ti_243, ti_255, ti_399, ti_999, ti_1000, ti_1024, ti_99999, tm_1, tm_2, tm_3, tm_4, tm_5, tm_7, tm_11, tm_12, tm_13, tm_14, tm_100, if_pos, if_neg, if_true, if_false, bC_in, bI_s, bS_s, bX_s, bY_s, sO, tC, hk1]; omega), sO, sO]
          exact go1 hkn (by simp [sgs, hc, hkb, sg, k2])
        · rw [if_neg (by simp (disch := omega) only [ltI, leI, eqI, tI, tI1, ti_0, ti_1, ti_2, ti_3, ti_4, ti_5, ti_6, ti_7, ti_8, ti_9, ti_10, ti_11, ti_12, ti_14, ti_18, ti_30, ti_39, ti_40, ti_41, ti_45, ti_50, ti_59, ti_97, ti_99, ti_100, ti_122, ti_160, ti_243, ti_255, ti_399, ti_999, ti_1000, ti_1024, ti_99999, tm_1, tm_2, tm_3, tm_4, tm_5, tm_7, tm_11, tm_12, tm_13, tm_14, tm_100, if_pos, if_neg, if_true, if_false, bC_in, bI_s, bS_s, bX_s, bY_s, sO, tC, hk1]; omega)]
          by_cases k1 : B 2 i = 1
          · rw [if_pos (by simp (disch := omega) only [ltI, leI, eqI, tI, tI1, ti_0, ti_1, ti_2, ti_3, ti_4, ti_5, ti_6, ti_7, ti_8, ti_9, ti_10, ti_11, ti_12, ti_14, ti_18, ti_30, ti_39, ti_40, ti_41, ti_45, ti_50, ti_59, ti_97, ti_99, ti_100, ti_122, ti_160, ti_243, ti_255, ti_399, ti_999, ti_1000, ti_1024, ti_99999, tm_1, tm_2, tm_3, tm_4, tm_5, tm_7, tm_11, tm_12, tm_13, tm_14, tm_100, if_pos, if_neg, if_true, if_false, bC_in, bI_s, bS_s, bX_s, bY_s, sO, tC, hk1]; omega)]
            by_cases km : B 4 i < ct C - 1
            · rw [if_pos (by simp (disch := omega) only [ltI, leI, eqI, tI, tI1, ti_0, ti_1, ti_2, ti_3, ti_4, ti_5, ti_6, ti_7, ti_8, ti_9, ti_10, ti_11, ti_12, ti_14, ti_18, ti_30, ti_39, ti_40, ti_41, ti_45, ti_50, ti_59, ti_97, ti_99, ti_100, ti_122, ti_160, ti_243, ti_255, ti_399, ti_999, ti_1000, ti_1024, ti_99999, tm_1, tm_2, tm_3, tm_4, tm_5, tm_7, tm_11, tm_12, tm_13, tm_14, tm_100, if_pos, if_neg, if_true, if_false, bC_in, bI_s, bS_s, bX_s, bY_s, sO, tC, hm1]; omega), sO, sO]
              refine go1 hkn ?_
              have : Nat.ble (ct C - 1) (B 4 i) = false := by
                cases z : Nat.ble (ct C - 1) (B 4 i) with
                | false => rfl
                | true => have := Nat.ble_eq.mp z; omega
              simp [sgs, hc, hkb, sg, k1, this]
            · rw [if_neg (by simp (disch := omega) only [ltI, leI, eqI, tI, tI1, ti_0, ti_1, ti_2, ti_3, ti_4, ti_5, ti_6, ti_7, ti_8, ti_9, ti_10, ti_11, ti_12, ti_14, ti_18, ti_30, ti_39, ti_40, ti_41, ti_45, ti_50, ti_59, ti_97, ti_99, ti_100, ti_122, ti_160, ti_243, ti_255, ti_399, ti_999, ti_1000, ti_1024, ti_99999, tm_1, tm_2, tm_3, tm_4, tm_5, tm_7, tm_11, tm_12, tm_13, tm_14, tm_100, if_pos, if_neg, if_true, if_false, bC_in, bI_s, bS_s, bX_s, bY_s, sO, tC, hm1]; omega)]
              refine blk ?_
              have : Nat.ble (ct C - 1) (B 4 i) = true := Nat.ble_eq.mpr (by omega)
              simp [sgs, hc, hkb, sg, k1, this]
          · rw [if_neg (by simp (disch := omega) only [ltI, leI, eqI, tI, tI1, ti_0, ti_1, ti_2, ti_3, ti_4, ti_5, ti_6, ti_7, ti_8, ti_9, ti_10, ti_11, ti_12, ti_14, ti_18, ti_30, ti_39, ti_40, ti_41, ti_45, ti_50, ti_59, ti_97, ti_99, ti_100, ti_122, ti_160, ti_243, ti_255, ti_399, ti_999, ti_1000, ti_1024, ti_99999, tm_1, tm_2, tm_3, tm_4, tm_5, tm_7, tm_11, tm_12, tm_13, tm_14, tm_100, if_pos, if_neg, if_true, if_false, bC_in, bI_s, bS_s, bX_s, bY_s, sO, tC, hk1]; omega)]
            refine blk ?_
            simp [sgs, hc, hkb, sg, k1, k2]
      · have hkb : Nat.ble 2 (K i) = false := by
          cases z : Nat.ble 2 (K i) with
          | false => rfl
          | true => have := Nat.ble_eq.mp z; omega
        rw [if_pos (by simp (disch := omega) only [ltI, leI, eqI, tI, tI1, ti_0, ti_1, ti_2, ti_3, ti_4, ti_5, ti_6, ti_7, ti_8, ti_9, ti_10, ti_11, ti_12, ti_14, ti_18, ti_30, ti_39, ti_40, ti_41, ti_45, ti_50, ti_59, ti_97, ti_99, ti_100, ti_122, ti_160, ti_243, ti_255, ti_399, ti_999, ti_1000, ti_1024, ti_99999, tm_1, tm_2, tm_3, tm_4, tm_5, tm_7, tm_11, tm_12, tm_13, tm_14, tm_100, if_pos, if_neg, if_true, if_false, bC_in, bI_s, bS_s, bX_s, bY_s, sO, tC, hK1]; omega), sO]
        exact go0 (by simp [kn, hkb]) (by simp [sgs, hkb])
/-- who is spoiling, of all -/
def spt (N : Nat → Nat) (B : Nat → Nat → Nat) (K : Nat → Nat) (C : Nat → Bool) : Bool := spi B K C (N 1)
theorem r_may (hv : iv N B A V tx cu) (ha : agr A V A1 V1) (c1 : Value) (hC : inP (N 1) C) {t s r e : Nat} (ht : t ≤ tx.length) (hK : ∀ p, p < N 1 → A1 152 p = nI (K p) ∧ K p ≤ 3) : ∃ A2 V2, fX9_may (nI t) (nI s) (nI r) (nI (mk5 C)) (nI e) A1 V1 c1 = some (nI (myp B tx (A 131) t s r e K C).toNat, A2, V2, c1) ∧ (∀ b, b ≠ 150 → b ≠ 151 → A2 b = A1 b) ∧ V2 132 35 = nI (mk5 (sgs B K C)) ∧ V2 132 36 = nI (spt N B K C).toNat ∧ (∀ a j, ¬ (a = 132 ∧ (j = 35 ∨ j = 36)) → V2 a j = V1 a j) ∧ ∀ m, m < 6 → A2 151 m = nms (ct (kn K C)) (ct (sgs B K C)) (ct C) s r e m := by
  have hv1 : iv N B A1 V1 tx cu := iv_agr ha hv
  obtain ⟨v1, v2, v3, v4, v5, -⟩ := id hv1
  obtain ⟨-, ⟨p1, p2, p3⟩, -⟩ := v1
  obtain ⟨V2, w1, w2, w3, w4⟩ := r_may_L (cu := c1) (A1 := A1) (K := K) (C := C) (fun p hp => ⟨(v5 p hp).1.2.1, (v5 p hp).1.2.2⟩) (fun p hp => ⟨(v5 p hp).2.2.2.1, (v5 p hp).2.2.2.2⟩) hK p3 (nI t) (nI s) (nI r) (nI e) (fun (l7_16 : Int32) (A19 V20 : xM) (c21 : Value) => bI (fX9_size (V20 132 35) (aw A19 151 (0 : Int32) l7_16) V20) (fun x22 => bX (fX9_says (nI t) (0 : Int32) (aw (aw (aw (aw (aw (aw A19 151 (0 : Int32) l7_16) 151 (1 : Int32) x22) 151 (2 : Int32) (nI (ct C))) 151 (3 : Int32) (nI s)) 151 (4 : Int32) (nI r)) 151 (5 : Int32) (nI e)) V20 c21) (fun x24 A25 V26 c27 => bC (decide (x24 = 0) || decide (x24 = 1)) (some (x24, A25, V26, c27))))) (N 1) 0 FU (up2 (up2 V1 132 35 (0 : Int32)) 132 36 (0 : Int32)) (by omega) (fu_gt (by omega)) (by rw [up2_n (by omega), up2_n (by omega)]; exact p2) (by rw [up2_n (by omega), up2_s]; rfl) (by rw [up2_s]; rfl)
  have hms : mk5 (fun q => Nat.blt q (N 1) && sgs B K C q) = mk5 (sgs B K C) := mk5_c (fun p hp => by
    by_cases q : p < N 1
    · rw [Nat.blt_eq.mpr q, Bool.true_and]
    · rw [inP_f (sgs_p hC) hp (by omega), Bool.and_false])
  rw [hms] at w2
  rw [cti_ct p3 (fun p h1 h2 => inP_f (kn_p hC) h2 h1)] at w1
  have w4' : ∀ a j, ¬ (a = 132 ∧ (j = 35 ∨ j = 36)) → V2 a j = V1 a j := fun a j h => by rw [w4 a j h, up2_n (by omega), up2_n (by omega)]
  have hnm : ∀ m, m < 6 → (aw (aw (aw (aw (aw (aw A1 151 (0 : Int32) (nI (ct (kn K C)))) 151 (1 : Int32) (nI (ct (sgs B K C)))) 151 (2 : Int32) (nI (ct C))) 151 (3 : Int32) (nI s)) 151 (4 : Int32) (nI r)) 151 (5 : Int32) (nI e)) 151 m = nms (ct (kn K C)) (ct (sgs B K C)) (ct C) s r e m := by
    intro m hm
    match m, hm with
    | 0, _ => rfl
    | 1, _ => rfl
    | 2, _ => rfl
    | 3, _ => rfl
    | 4, _ => rfl
    | 5, _ => rfl
  have ha2 : agr A V A1 V2 := ⟨ha.1, fun a j q => by
    rw [w4' a j (by rintro ⟨rfl, rfl | rfl⟩ <;> cases q)]
    exact ha.2 a j q⟩
  obtain ⟨A2, t1, t2⟩ := r_says (part := 0) hv (agr_w (agr_w (agr_w (agr_w (agr_w (agr_w ha2 rfl) rfl) rfl) rfl) rfl) rfl) c1 ht (by decide) hnm
  have t1 : fX9_says (nI t) 0 (aw (aw (aw (aw (aw (aw A1 151 (0 : Int32) (nI (ct (kn K C)))) 151 (1 : Int32) (nI (ct (sgs B K C)))) 151 (2 : Int32) (nI (ct C))) 151 (3 : Int32) (nI s)) 151 (4 : Int32) (nI r)) 151 (5 : Int32) (nI e)) V2 c1 = some (nI (myp B tx (A 131) t s r e K C).toNat, A2, V2, c1) := t1
  refine ⟨A2, V2, ?_, fun b h1 h2 => (t2 b h1).trans (by rw [aw_n h2, aw_n h2, aw_n h2, aw_n h2, aw_n h2, aw_n h2]), w2, w3, w4', fun m hm => by rw [t2 151 (by decide)]; exact hnm m hm⟩
  unfold fX9_may
  rw [m_size, bI_s]
  refine Eq.trans w1 ?_
  rw [w2, m_size, bI_s, t1, bX_s, bC_b]
end MAY
