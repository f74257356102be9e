/-! EVENINGS BY LOT. -/
def lot (n : Nat) : Nat := n * 48271 % 2147483647
def dlt (n0 : Nat) : Nat → Nat
  | 0 => n0
  | i + 1 => lot (dlt n0 i)
def dcm (st n0 : Nat) : Nat → Nat → Bool
  | 0 => fun _ => false
  | i + 1 => if dlt n0 (i + 1) % 2 = 1 ∧ ct (dcm st n0 i) < st then fs (dcm st n0 i) i true else dcm st n0 i
theorem lot_lt (n : Nat) : lot n < 2147483647 := Nat.mod_lt _ (by decide)
theorem dlt_lt {n0 : Nat} (h : n0 < 2147483648) : ∀ i, dlt n0 i < 2147483648
  | 0 => h
  | i + 1 => Nat.lt_of_lt_of_le (lot_lt _) (by decide)
theorem lot_i {n : Nat} (h : n < 2147483648) : lN n * (48271 : Int64) - lN n * (48271 : Int64) / (2147483647 : Int64) * (2147483647 : Int64) = lN (lot n) := by
  have e : lN n * (48271 : Int64) = lN (n * 48271) := lN_mul n 48271
  rw [e]
  exact pk_lRem (a := n * 48271) (b := 2147483647) (by omega) (by decide) (by decide)
theorem lN_a1 {n : Nat} (h : n < 2147483648) : lN n &&& (1 : Int64) = lN (n % 2) := by
  apply Int64.toBitVec_inj.mp
  apply BitVec.eq_of_toNat_eq
  rw [Int64.toBitVec_and, BitVec.toNat_and]
  show (BitVec.ofNat 64 n).toNat &&& 1 = (BitVec.ofNat 64 (n % 2)).toNat
  rw [BitVec.toNat_ofNat, BitVec.toNat_ofNat, Nat.mod_eq_of_lt (show n < 2 ^ 64 by omega), Nat.mod_eq_of_lt (show n % 2 < 2 ^ 64 by omega)]
  exact Nat.and_one_is_mod n
theorem odd_c {n : Nat} (h : n < 2147483648) : (lg_cmp (lN n &&& (1 : Int64)) 0 = 0) = (n % 2 = 0) := by
  rw [lN_a1 h]
  apply propext
  rw [lg_cmp_eq]
  exact pk_lEQ (a := n % 2) (b := 0) (by omega) (by decide)
theorem odd_r {n : Nat} (h : n < 2147483648) : (lg_cmp (lN n - lN n / (2 : Int64) * (2 : Int64)) 1 = 0) = (n % 2 = 1) := by
  have e : lN n - lN n / (2 : Int64) * (2 : Int64) = lN (n % 2) := pk_lRem (a := n) (b := 2) (by omega) (by decide) (by decide)
  rw [e]
  apply propext
  rw [lg_cmp_eq]
  exact pk_lEQ (a := n % 2) (b := 1) (by omega) (by decide)
theorem dcm_f (st n0 : Nat) : ∀ i p, i ≤ p → dcm st n0 i p = false
  | 0, _, _ => rfl
  | i + 1, p, h => by
    rw [dcm]
    split
    · unfold fs
      rw [if_neg (by omega)]
      exact dcm_f st n0 i p (by omega)
    · exact dcm_f st n0 i p (by omega)
theorem ct_fs {C : Nat → Bool} {i : Nat} (hi : i < 5) (h : C i = false) : ct (fs C i true) = ct C + 1 := by
  match i, hi with
  | 0, _ => simp [ct, fs, h]; omega
  | 1, _ => simp [ct, fs, h]; omega
  | 2, _ => simp [ct, fs, h]; omega
  | 3, _ => simp [ct, fs, h]; omega
  | 4, _ => simp [ct, fs, h]
theorem dcm_p (st n0 P : Nat) : inP P (dcm st n0 P) := fun p _ q => by
  by_cases h : p < P
  · exact h
  · rw [dcm_f st n0 P p (by omega)] at q; cases q
theorem dcm_ct (st n0 : Nat) : ∀ i, i ≤ 5 → ct (dcm st n0 i) ≤ st
  | 0, _ => Nat.zero_le _
  | i + 1, h => by
    have ih := dcm_ct st n0 i (by omega)
    rw [dcm]
    split
    · rename_i q
      rw [ct_fs (by omega) (dcm_f st n0 i i (Nat.le_refl _))]
      omega
    · exact ih
section DR
variable {N : Nat → Nat} {B : Nat → Nat → Nat} {A V A1 V1 : xM} {tx : List xh_T} {cu : Value} {K : Nat → Nat} {C : Nat → Bool}
theorem c_dr1 {st n0 : Nat} (hst : st ≤ 5) (h0 : n0 < 2147483648) (h5 : N 1 ≤ 5) (h3 : V1 65 3 = nI (N 1)) (l2 l4 l5 l8 : Int32) (c1 : Value) (ex : Int64 → Int32 → Option xS) : ∀ k i n, i + k = N 1 → k < n → fX8_draw_L54 tx l2 l4 l5 l8 A1 V1 c1 ex n (lN (dlt n0 i)) (nI (mk5 (dcm st n0 i))) (nI (st - ct (dcm st n0 i))) (nI i) = ex (lN (dlt n0 (N 1))) (nI (mk5 (dcm st n0 (N 1)))) := by
  intro k
  induction k with
  | zero =>
    intro i n hi hn
    obtain ⟨n, rfl⟩ : ∃ m, n = m + 1 := ⟨n - 1, by omega⟩
    have : i = N 1 := by omega
    rw [fX8_draw_L54, this, if_pos (by simp (disch := omega) only [ltI, leI, eqI, tI, tI1, ti_0, ti_1, ti_2, ti_3, ti_4, ti_5, ti_6, ti_7, ti_8, ti_9, ti_10, ti_11, ti_12, ti_14, ti_18, ti_30, ti_39, ti_40, ti_41, ti_45, ti_50, ti_59, ti_97, ti_99, ti_100, ti_122, ti_160, ti_243, ti_255, ti_399, ti_999, ti_1000, ti_1024, ti_99999, tm_1, tm_2, tm_3, tm_4, tm_5, tm_7, tm_11, tm_12, tm_13, tm_14, tm_100, if_pos, if_neg, if_true, if_false, bC_in, bI_s, bS_s, bX_s, bY_s, sO, tC, h3]; omega)]
  | succ k ih =>
    intro i n hi hn
    obtain ⟨n, rfl⟩ : ∃ m, n = m + 1 := ⟨n - 1, by omega⟩
    have t := ih (i + 1) n (by omega) (by omega)
    have hd := dlt_lt h0 i
    have hd2 : dlt n0 (i + 1) = lot (dlt n0 i) := rfl
    have hl := lot_lt (dlt n0 i)
    have hc := dcm_ct st n0 i (by omega)
    have oc := odd_c (n := lot (dlt n0 i)) (by omega)
    rw [fX8_draw_L54, if_neg (by simp (disch := omega) only [ltI, leI, eqI, tI, tI1, ti_0, ti_1, ti_2, ti_3, ti_4, ti_5, ti_6, ti_7, ti_8, ti_9, ti_10, ti_11, ti_12, ti_14, ti_18, ti_30, ti_39, ti_40, ti_41, ti_45, ti_50, ti_59, ti_97, ti_99, ti_100, ti_122, ti_160, ti_243, ti_255, ti_399, ti_999, ti_1000, ti_1024, ti_99999, tm_1, tm_2, tm_3, tm_4, tm_5, tm_7, tm_11, tm_12, tm_13, tm_14, tm_100, if_pos, if_neg, if_true, if_false, bC_in, bI_s, bS_s, bX_s, bY_s, sO, tC, h3]; omega), lot_i hd, sO]
    rw [dcm, hd2] at t
    by_cases q : lot (dlt n0 i) % 2 = 1
    · rw [if_neg (by rw [oc]; omega)]
      by_cases q2 : ct (dcm st n0 i) < st
      · rw [if_pos ⟨q, q2⟩, ct_fs (by omega) (dcm_f st n0 i i (Nat.le_refl _))] at t
        rw [if_neg (by simp (disch := omega) only [ltI, leI, eqI, tI, tI1, ti_0, ti_1, ti_2, ti_3, ti_4, ti_5, ti_6, ti_7, ti_8, ti_9, ti_10, ti_11, ti_12, ti_14, ti_18, ti_30, ti_39, ti_40, ti_41, ti_45, ti_50, ti_59, ti_97, ti_99, ti_100, ti_122, ti_160, ti_243, ti_255, ti_399, ti_999, ti_1000, ti_1024, ti_99999, tm_1, tm_2, tm_3, tm_4, tm_5, tm_7, tm_11, tm_12, tm_13, tm_14, tm_100, if_pos, if_neg, if_true, if_false, bC_in, bI_s, bS_s, bX_s, bY_s, sO, tC]; omega), mk5_or _ (by omega), show st - ct (dcm st n0 i) = (st - (ct (dcm st n0 i) + 1)) + 1 by omega, lJ]
        exact t
      · rw [if_neg (fun z => q2 z.2)] at t
        rw [if_pos (by simp (disch := omega) only [ltI, leI, eqI, tI, tI1, ti_0, ti_1, ti_2, ti_3, ti_4, ti_5, ti_6, ti_7, ti_8, ti_9, ti_10, ti_11, ti_12, ti_14, ti_18, ti_30, ti_39, ti_40, ti_41, ti_45, ti_50, ti_59, ti_97, ti_99, ti_100, ti_122, ti_160, ti_243, ti_255, ti_399, ti_999, ti_1000, ti_1024, ti_99999, tm_1, tm_2, tm_3, tm_4, tm_5, tm_7, tm_11, tm_12, tm_13, tm_14, tm_100, if_pos, if_neg, if_true, if_false, bC_in, bI_s, bS_s, bX_s, bY_s, sO, tC]; omega)]
        exact t
    · rw [if_neg (fun z => q z.1)] at t
      rw [if_pos (by rw [oc]; omega)]
      exact t
theorem r_dr1 {st n0 r : Nat} (hst : st ≤ 5) (hr : r < 4) (h133 : A1 134 r = nI st) (h0 : n0 < 2147483648) (h5 : N 1 ≤ 5) (h3 : V1 132 4 = nI (N 1)) (l2 l4 l7 l8 : Int32) (c1 : Value) (ex : Int64 → Int32 → Option xS) : ∀ k i n, i + k = N 1 → k < n → fX9_draw_L42 l2 (nI r) l4 l7 l8 A1 V1 c1 ex n (lN (dlt n0 i)) (nI (mk5 (dcm st n0 i))) (nI i) = ex (lN (dlt n0 (N 1))) (nI (mk5 (dcm st n0 (N 1)))) := by
  intro k
  induction k with
  | zero =>
    intro i n hi hn
    obtain ⟨n, rfl⟩ : ∃ m, n = m + 1 := ⟨n - 1, by omega⟩
    have : i = N 1 := by omega
    rw [fX9_draw_L42, this, if_pos (by simp (disch := omega) only [ltI, leI, eqI, tI, tI1, ti_0, ti_1, ti_2, ti_3, ti_4, ti_5, ti_6, ti_7, ti_8, ti_9, ti_10, ti_11, ti_12, ti_14, ti_18, ti_30, ti_39, ti_40, ti_41, ti_45, ti_50, ti_59, ti_97, ti_99, ti_100, ti_122, ti_160, ti_243, ti_255, ti_399, ti_999, ti_1000, ti_1024, ti_99999, tm_1, tm_2, tm_3, tm_4, tm_5, tm_7, tm_11, tm_12, tm_13, tm_14, tm_100, if_pos, if_neg, if_true, if_false, bC_in, bI_s, bS_s, bX_s, bY_s, sO, tC, h3]; omega)]
  | succ k ih =>
    intro i n hi hn
    obtain ⟨n, rfl⟩ : ∃ m, n = m + 1 := ⟨n - 1, by omega⟩
    have t := ih (i + 1) n (by omega) (by omega)
    have hd := dlt_lt h0 i
    have hd2 : dlt n0 (i + 1) = lot (dlt n0 i) := rfl
    have hl := lot_lt (dlt n0 i)
    have hc := dcm_ct st n0 i (by omega)
    have oc := odd_r (n := lot (dlt n0 i)) (by omega)
    rw [fX9_draw_L42, if_neg (by simp (disch := omega) only [ltI, leI, eqI, tI, tI1, ti_0, ti_1, ti_2, ti_3, ti_4, ti_5, ti_6, ti_7, ti_8, ti_9, ti_10, ti_11, ti_12, ti_14, ti_18, ti_30, ti_39, ti_40, ti_41, ti_45, ti_50, ti_59, ti_97, ti_99, ti_100, ti_122, ti_160, ti_243, ti_255, ti_399, ti_999, ti_1000, ti_1024, ti_99999, tm_1, tm_2, tm_3, tm_4, tm_5, tm_7, tm_11, tm_12, tm_13, tm_14, tm_100, if_pos, if_neg, if_true, if_false, bC_in, bI_s, bS_s, bX_s, bY_s, sO, tC, h3]; omega), lot_i hd, sO, m_size, bI_s, bC_in ⟨hr, by decide⟩, tC (by omega), h133]
    rw [dcm, hd2] at t
    by_cases q : lot (dlt n0 i) % 2 = 1
    · rw [if_pos (by rw [oc]; exact q)]
      by_cases q2 : ct (dcm st n0 i) < st
      · rw [if_pos ⟨q, q2⟩] at t
        rw [if_neg (by simp (disch := omega) only [ltI, leI, eqI, tI, tI1, ti_0, ti_1, ti_2, ti_3, ti_4, ti_5, ti_6, ti_7, ti_8, ti_9, ti_10, ti_11, ti_12, ti_14, ti_18, ti_30, ti_39, ti_40, ti_41, ti_45, ti_50, ti_59, ti_97, ti_99, ti_100, ti_122, ti_160, ti_243, ti_255, ti_399, ti_999, ti_1000, ti_1024, ti_99999, tm_1, tm_2, tm_3, tm_4, tm_5, tm_7, tm_11, tm_12, tm_13, tm_14, tm_100, if_pos, if_neg, if_true, if_false, bC_in, bI_s, bS_s, bX_s, bY_s, sO, tC]; omega), mk5_or _ (by omega)]
        exact t
      · rw [if_neg (fun z => q2 z.2)] at t
        rw [if_pos (by simp (disch := omega) only [ltI, leI, eqI, tI, tI1, ti_0, ti_1, ti_2, ti_3, ti_4, ti_5, ti_6, ti_7, ti_8, ti_9, ti_10, ti_11, ti_12, ti_14, ti_18, ti_30, ti_39, ti_40, ti_41, ti_45, ti_50, ti_59, ti_97, ti_99, ti_100, ti_122, ti_160, ti_243, ti_255, ti_399, ti_999, ti_1000, ti_1024, ti_99999, tm_1, tm_2, tm_3, tm_4, tm_5, tm_7, tm_11, tm_12, tm_13, tm_14, tm_100, if_pos, if_neg, if_true, if_false, bC_in, bI_s, bS_s, bX_s, bY_s, sO, tC]; omega)]
        exact t
    · rw [if_neg (fun z => q z.1)] at t
      rw [if_neg (by rw [oc]; exact q)]
      exact t
theorem c_dr10 {st n0 : Nat} (hst : st ≤ 5) (h0 : n0 < 2147483648) (h5 : N 1 ≤ 5) (h3 : V1 65 3 = nI (N 1)) (l2 l4 l5 l8 : Int32) (c1 : Value) (ex : Int64 → Int32 → Option xS) : fX8_draw_L54 tx l2 l4 l5 l8 A1 V1 c1 ex FU (lN n0) 0 (nI st) 0 = ex (lN (dlt n0 (N 1))) (nI (mk5 (dcm st n0 (N 1)))) := c_dr1 hst h0 h5 h3 l2 l4 l5 l8 c1 ex (N 1) 0 FU (by omega) (fu_gt (by omega))
theorem r_dr10 {st n0 r : Nat} (hst : st ≤ 5) (hr : r < 4) (h133 : A1 134 r = nI st) (h0 : n0 < 2147483648) (h5 : N 1 ≤ 5) (h3 : V1 132 4 = nI (N 1)) (l2 l4 l7 l8 : Int32) (c1 : Value) (ex : Int64 → Int32 → Option xS) : fX9_draw_L42 l2 (nI r) l4 l7 l8 A1 V1 c1 ex FU (lN n0) 0 0 = ex (lN (dlt n0 (N 1))) (nI (mk5 (dcm st n0 (N 1)))) := r_dr1 hst hr h133 h0 h5 h3 l2 l4 l7 l8 c1 ex (N 1) 0 FU (by omega) (fu_gt (by omega))
/-- whether any could learn it -/
def cld (B : Nat → Nat → Nat) (K : Nat → Nat) (C has : Nat → Bool) : Bool := anyp (sgs B K C) && anyp (fun p => C p && (has p && !Nat.ble 2 (K p)))
theorem c_could (hv : iv N B A1 V1 tx cu) (hC : inP (N 1) C) {s l : Nat} {has : Nat → Bool} (hs : s < 6) (hs5 : V1 81 5 = nI s) (hW : A1 (l + 1) s = nI (mk5 (fun p => Nat.ble 2 (K p)))) (hh : hasC A1 l s has) : fX6_couldTeach l (nI (mk5 C)) A1 V1 = some (nI (cld B K C has).toNat) := by
  obtain ⟨x, x1, -, x3⟩ := c_able hs hs5 hW hh
  unfold fX6_couldTeach cld
  rw [c_singers hv hC hs hs5 hW, bI_s, x1, bI_s, x3]
  cases h1 : anyp (sgs B K C) with
  | false => rw [if_pos (by rw [anyp_i]; exact h1)]; rfl
  | true =>
    rw [if_neg (by rw [anyp_i, h1]; decide)]
    cases h2 : anyp (fun p => C p && (has p && !Nat.ble 2 (K p))) with
    | false => rw [if_pos (by rw [anyp_i]; exact h2)]; rfl
    | true => rw [if_neg (by rw [anyp_i, h2]; decide)]; rfl
theorem nxt_no {f0 : Nat → Int32} {t s r e : Nat} {has : Nat → Bool} (h : cld B K C has = false) {p : Nat} (hp : p < 5) : nxt N B tx f0 t s r e K C (fun _ => false) has p = K p := by
  unfold nxt
  by_cases q : myp B tx f0 t s r e K C = true
  · rw [if_pos q]
    unfold spr
    by_cases q2 : anyp (sgs B K C) = true
    · rw [if_pos q2]
      unfold cld at h
      rw [q2, Bool.true_and] at h
      have := anyp_f h p hp
      refine lrn_0 ?_
      by_cases k2 : 2 ≤ K p
      · exact Or.inl k2
      · right
        have e1 : Nat.ble 2 (K p) = false := by
          cases z : Nat.ble 2 (K p) with
          | false => rfl
          | true => exact absurd (Nat.ble_eq.mp z) k2
        rw [e1, Bool.not_false, Bool.and_true] at this
        cases hc : C p with
        | false => right; exact ⟨Bool.and_false _, Bool.and_false _⟩
        | true => left; rw [hc, Bool.true_and] at this; exact this
    · rw [if_neg q2]
  · rw [if_neg q]
def dks (N : Nat → Nat) (B : Nat → Nat → Nat) (tx : List xh_T) (f0 : Nat → Int32) (nd : Int32) (s r : Nat) : Nat → Nat → (Nat → Nat) → Nat → Nat → Nat
  | 0, _, K, _ => K
  | k + 1, e, K, n0 => dks N B tx f0 nd s r k (e + 1) (nxt N B tx f0 (N 3) s r e K (dcm (B 1 r) n0 (N 1)) (fun _ => false) (hsf (B 5) nd)) (dlt n0 (N 1))
theorem nxt_0 {f0 : Nat → Int32} {t s r e : Nat} {D has : Nat → Bool} (hC : inP (N 1) C) (hD : inP (N 1) D) {p : Nat} (hp : p < 5) (h : N 1 ≤ p) : nxt N B tx f0 t s r e K C D has p = K p := by
  unfold nxt
  by_cases q : myp B tx f0 t s r e K C = true
  · rw [if_pos q]
    unfold spr
    by_cases q2 : anyp (sgs B K C) = true
    · rw [if_pos q2]
      exact lrn_0 (Or.inr (Or.inr ⟨by rw [inP_f hC hp h, Bool.and_false], by rw [inP_f hD hp h, Bool.and_false]⟩))
    · rw [if_neg q2]
  · rw [if_neg q]
theorem nof {P : Nat} : inP P (fun _ => false) := fun _ _ q => by cases q
theorem dks_ok (hv : iv N B A V tx cu) {nd : Int32} {f0 : Nat → Int32} {s r : Nat} : ∀ k e (K : Nat → Nat) n0, (∀ p, p < 5 → K p ≤ 3 ∧ (N 1 ≤ p → K p = 0)) → ∀ p, p < 5 → dks N B tx f0 nd s r k e K n0 p ≤ 3 ∧ (N 1 ≤ p → dks N B tx f0 nd s r k e K n0 p = 0) := by
  intro k
  induction k with
  | zero => intro e K n0 h; exact h
  | succ k ih =>
    intro e K n0 h
    refine ih (e + 1) _ _ (fun p hp => ⟨nxt_le (fun q => (hv.2.2.2.2.1 p q).1.2.2) (dcm_p _ _ _) nof hp (h p hp).1, fun q => ?_⟩)
    rw [nxt_0 (dcm_p _ _ _) nof hp q]
    exact (h p hp).2 q
theorem c_draw_L (hv : iv N B A V tx cu) {s r cnt : Nat} (hs : s < N 0) (hr : r < 4) (hcn : cnt ≤ 30) (ex : xM → xM → Value → Option xS) : ∀ k e n (K : Nat → Nat) (n0 : Nat) (A1 V1 : xM) (c1 : Value), agr A V A1 V1 → e + k = cnt → k < n → n0 < 2147483648 → (∀ p, p < 5 → K p ≤ 3) → r3 A1 77 s K → (∀ t, t < 6 → t ≠ s → r3 A1 77 t (K0 B t)) → ∃ A2 V2 c2, fX8_draw_L32 tx (nI s) (nI r) (nI cnt) ex n (lN n0) (nI e) A1 V1 c1 = ex A2 V2 c2 ∧ agr A V A2 V2 ∧ r3 A2 77 s (dks N B tx (A 131) (A 135 s) s r k e K n0) := by
  obtain ⟨v1, v2, v3, v4, v5, v6, v7, v8, v9, v10, v11, v12, v13⟩ := id hv
  obtain ⟨⟨s1, s2, s3⟩, ⟨p1, p2, p3⟩, -, ⟨t1, t2, t3⟩, ⟨l1, l2, l3⟩, -⟩ := v1
  obtain ⟨r1, r2, r3', r4⟩ := v3 r hr
  intro k
  induction k with
  | zero =>
    intro e n K n0 A1 V1 c1 ha hi hn h0 hK hk1 hk2
    obtain ⟨n, rfl⟩ : ∃ m, n = m + 1 := ⟨n - 1, by omega⟩
    refine ⟨A1, V1, c1, ?_, ha, hk1⟩
    rw [fX8_draw_L32, if_pos (by simp (disch := omega) only [ltI, leI, eqI, tI, tI1, ti_0, ti_1, ti_2, ti_3, ti_4, ti_5, ti_6, ti_7, ti_8, ti_9, ti_10, ti_11, ti_12, ti_14, ti_18, ti_30, ti_39, ti_40, ti_41, ti_45, ti_50, ti_59, ti_97, ti_99, ti_100, ti_122, ti_160, ti_243, ti_255, ti_399, ti_999, ti_1000, ti_1024, ti_99999, tm_1, tm_2, tm_3, tm_4, tm_5, tm_7, tm_11, tm_12, tm_13, tm_14, tm_100, if_pos, if_neg, if_true, if_false, bC_in, bI_s, bS_s, bX_s, bY_s, sO, tC]; omega)]
  | succ k ih =>
    intro e n K n0 A1 V1 c1 ha hi hn h0 hK hk1 hk2
    obtain ⟨n, rfl⟩ : ∃ m, n = m + 1 := ⟨n - 1, by omega⟩
    have e3 : V1 65 3 = nI (N 1) := (ha.2 65 3 rfl).trans p1
    have e16 : V1 64 16 = nI (N 3) := (ha.2 64 16 rfl).trans l1
    have e99 : A1 100 r = nI (B 1 r) := by rw [ha.1 100 rfl]; exact r1
    have hC := dcm_p (B 1 r) n0 (N 1)
    have hdl := dlt_lt h0 (N 1)
    rw [fX8_draw_L32, if_neg (by simp (disch := omega) only [ltI, leI, eqI, tI, tI1, ti_0, ti_1, ti_2, ti_3, ti_4, ti_5, ti_6, ti_7, ti_8, ti_9, ti_10, ti_11, ti_12, ti_14, ti_18, ti_30, ti_39, ti_40, ti_41, ti_45, ti_50, ti_59, ti_97, ti_99, ti_100, ti_122, ti_160, ti_243, ti_255, ti_399, ti_999, ti_1000, ti_1024, ti_99999, tm_1, tm_2, tm_3, tm_4, tm_5, tm_7, tm_11, tm_12, tm_13, tm_14, tm_100, if_pos, if_neg, if_true, if_false, bC_in, bI_s, bS_s, bX_s, bY_s, sO, tC]; omega), bC_in ⟨hr, by decide⟩, tC (by omega), e99, e16, tC (show N 3 < 2 ^ 20 by omega)]
    rw [c_dr10 (N := N) r4 h0 p3 e3, bC_t (law_ok2 l3 t3)]
    unfold fX6_begin
    rw [bS_s]
    -- the names
    have ha2 : agr A V (aw (aw (aw A1 83 (3 : Int32) (nI s)) 83 (4 : Int32) (nI r)) 83 (5 : Int32) (nI e)) (up2 V1 81 5 (nI s)) := agr_v (agr_w (agr_w (agr_w ha rfl) rfl) rfl) rfl
    have mv : ∀ l, l ≠ 83 → (aw (aw (aw A1 83 (3 : Int32) (nI s)) 83 (4 : Int32) (nI r)) 83 (5 : Int32) (nI e)) l = A1 l := fun l hl => by rw [aw_n hl, aw_n hl, aw_n hl]
    have rr : ∀ t Kt, r3 A1 77 t Kt → r3 (aw (aw (aw A1 83 (3 : Int32) (nI s)) 83 (4 : Int32) (nI r)) 83 (5 : Int32) (nI e)) 77 t Kt := fun t Kt h => by
      unfold r3 at h ⊢
      rw [mv (77 + 1) (by decide), mv (77 + 2) (by decide), mv (77 + 3) (by decide)]
      exact h
    have hv2 : iv N B (aw (aw (aw A1 83 (3 : Int32) (nI s)) 83 (4 : Int32) (nI r)) 83 (5 : Int32) (nI e)) (up2 V1 81 5 (nI s)) tx (.ref (tref (N 3))) := iv_agr ha2 hv
    have nd6 : ∀ j : Nat, j < 6 → A 135 s = nI j → j ≠ s := by
      intro j hj hq q
      obtain ⟨g1, g2⟩ := v4 s hs
      rw [g1, hq] at g2
      rcases g2 with g2 | ⟨i, hi', g2⟩
      · have := congrArg Int32.toInt g2
        rw [tI (by omega), tm_1] at this
        omega
      · have := (nI_eq (by omega) (by omega)).mp g2
        omega
    have hasT : ∀ A' V' : xM, agr A V A' V' → (∀ t, t < 6 → t ≠ s → r3 A' 77 t (K0 B t)) → hasC A' 77 s (hsf (B 5) (A 135 s)) := by
      intro A' V' h1 h2
      obtain ⟨g1, g2⟩ := need_ok hv hs
      have e72 : A' 72 s = A 135 s := by rw [h1.1 72 rfl]; exact g1
      rcases g2 with g2 | ⟨j, hj, g2⟩
      · left
        refine ⟨by rw [e72, g2], fun p _ => ?_⟩
        unfold hsf
        rw [g2]
        rfl
      · right
        refine ⟨j, hj, by rw [e72, g2], ?_⟩
        rw [(h2 j hj (nd6 j hj g2)).1]
        refine congrArg nI (mk5_c (fun p _ => ?_))
        unfold hsf K0
        rw [g2, decide_eq_false (by simp (disch := omega) only [ltI, leI, eqI, tI, tI1, ti_0, ti_1, ti_2, ti_3, ti_4, ti_5, ti_6, ti_7, ti_8, ti_9, ti_10, ti_11, ti_12, ti_14, ti_18, ti_30, ti_39, ti_40, ti_41, ti_45, ti_50, ti_59, ti_97, ti_99, ti_100, ti_122, ti_160, ti_243, ti_255, ti_399, ti_999, ti_1000, ti_1024, ti_99999, tm_1, tm_2, tm_3, tm_4, tm_5, tm_7, tm_11, tm_12, tm_13, tm_14, tm_100, if_pos, if_neg, if_true, if_false, bC_in, bI_s, bS_s, bX_s, bY_s, sO, tC]; omega), Bool.false_or, tC (by omega)]
    have hh := hasT _ _ ha2 (fun t h1 h2 => rr t _ (hk2 t h1 h2))
    rw [c_could hv2 hC (by omega) (up2_s _ _ _ _) (rr s K hk1).1 hh, bI_s, sO]
    have nle : ∀ p, p < 5 → nxt N B tx (A 131) (N 3) s r e K (dcm (B 1 r) n0 (N 1)) (fun _ => false) (hsf (B 5) (A 135 s)) p ≤ 3 := fun p hp => nxt_le (fun q => (v5 p q).1.2.2) hC nof hp (hK p hp)
    have stay : ∀ (A' V' : xM) (c' : Value), agr A V A' V' → r3 A' 77 s (nxt N B tx (A 131) (N 3) s r e K (dcm (B 1 r) n0 (N 1)) (fun _ => false) (hsf (B 5) (A 135 s))) → (∀ t, t < 6 → t ≠ s → r3 A' 77 t (K0 B t)) → ∃ A2 V2 c2, fX8_draw_L32 tx (nI s) (nI r) (nI cnt) ex n (lN (dlt n0 (N 1))) (nI (e + 1)) A' V' c' = ex A2 V2 c2 ∧ agr A V A2 V2 ∧ r3 A2 77 s (dks N B tx (A 131) (A 135 s) s r (k + 1) e K n0) := fun A' V' c' h1 h2 h3 => ih (e + 1) n _ _ A' V' c' h1 (by omega) (by omega) hdl nle h2 h3
    cases hcd : cld B K (dcm (B 1 r) n0 (N 1)) (hsf (B 5) (A 135 s)) with
    | false =>
      rw [nbf, if_pos rfl]
      exact stay _ _ (.ref (tref (N 3))) ha2 (r3_c (fun p hp => (nxt_no hcd hp).symm) (rr s K hk1)) (fun t h1 h2 => rr t _ (hk2 t h1 h2))
    | true =>
      rw [nbt, if_neg (by decide)]
      obtain ⟨A3, x1, x2, x3⟩ := c_may (K := K) (l := 77) (r := r) (e := e) hv ha2 hC l3 (show s < 6 by omega) (up2_s _ _ _ _) (rr s K hk1).1 rfl rfl rfl
      rw [x1, bX_s]
      have ha3 : agr A V A3 (up2 V1 81 5 (nI s)) := ⟨fun a q => by
        rw [x2 a (fun z => by subst z; cases q) (fun z => by subst z; cases q)]
        exact ha2.1 a q, ha2.2⟩
      have rr3 : ∀ t Kt, r3 A1 77 t Kt → r3 A3 77 t Kt := fun t Kt h => by
        have h := rr t Kt h
        unfold r3 at h ⊢
        rw [x2 (77 + 1) (by decide) (by decide), x2 (77 + 2) (by decide) (by decide), x2 (77 + 3) (by decide) (by decide)]
        exact h
      cases hm : myp B tx (A 131) (N 3) s r e K (dcm (B 1 r) n0 (N 1)) with
      | false =>
        rw [nbf, if_pos rfl]
        have en : nxt N B tx (A 131) (N 3) s r e K (dcm (B 1 r) n0 (N 1)) (fun _ => false) (hsf (B 5) (A 135 s)) = K := by unfold nxt; rw [hm, if_neg (by decide)]
        exact stay _ _ (.ref (tref (N 3))) ha3 (by rw [en]; exact rr3 s K hk1) (fun t h1 h2 => rr3 t _ (hk2 t h1 h2))
      | true =>
        rw [nbt, if_neg (by decide)]
        obtain ⟨A4, y1, y2, y3, y4⟩ := c_spread (l := 77) (D := fun _ => false) (r := r) (e := e) hv ha3 hC nof (fun p _ => Bool.and_false _) l3 (show s < 6 by omega) (up2_s _ _ _ _) (rr3 s K hk1) hK (hasT _ _ ha3 (fun t h1 h2 => rr3 t _ (hk2 t h1 h2))) (Or.inl rfl) x3
        have y1 : fX6_spread tx 77 (nI (mk5 (dcm (B 1 r) n0 (N 1)))) 0 A3 (up2 V1 81 5 (nI s)) (.ref (tref (N 3))) = some (A4, up2 V1 81 5 (nI s), .ref (tref (N 3))) := y1
        rw [y1, bS_s]
        have ha4 : agr A V A4 (up2 V1 81 5 (nI s)) := ⟨fun a q => by
          rw [y3 a (fun z => by subst z; cases q) (fun z => by subst z; cases q) (fun z => by subst z; cases q) (fun z => by subst z; cases q)]
          exact ha3.1 a q, ha3.2⟩
        have en : nxt N B tx (A 131) (N 3) s r e K (dcm (B 1 r) n0 (N 1)) (fun _ => false) (hsf (B 5) (A 135 s)) = spr N B tx (A 131) (N 3) s r e K (dcm (B 1 r) n0 (N 1)) (fun _ => false) (hsf (B 5) (A 135 s)) := by unfold nxt; rw [hm, if_pos rfl]
        exact stay _ _ (.ref (tref (N 3))) ha4 (by rw [en]; exact y2) (fun t h1 h2 => by
          have h := rr3 t _ (hk2 t h1 h2)
          unfold r3 at h ⊢
          rw [y4 (77 + 1) t (by decide) h2, y4 (77 + 2) t (by decide) h2, y4 (77 + 3) t (by decide) h2]
          exact h)
theorem c_draw (hv : iv N B A V tx cu) (ha : agr A V A1 V1) (c1 : Value) {s h seed : Nat} (hs : s < N 0) (hh : h < 400) (hc : h % 100 ≤ 30) (hsd : seed < 200000) : ∃ A2 V2 c2, fX8_draw tx (nI seed) (nI s) (nI h) A1 V1 c1 = some (A2, V2, c2) ∧ agr A V A2 V2 ∧ r3 A2 77 s (dks N B tx (A 131) (A 135 s) s (h / 100) (h % 100) 0 (K0 B s) (seed + 1)) := by
  obtain ⟨v1, v2, v3, v4, v5, v6, v7, v8, v9, v10, v11, v12, v13⟩ := id hv
  have s3 : N 0 ≤ 6 := v1.1.2.2
  obtain ⟨A3, x1, x2, x3⟩ := c_take (l0 := 77) (l2 := 73) (by omega) A1 V1 c1
  have ha3 : agr A V A3 V1 := ⟨fun a q => by
    rw [x3 a (fun z => by subst z; cases q) (fun z => by subst z; cases q) (fun z => by subst z; cases q)]
    exact ha.1 a q, ha.2⟩
  have rows : ∀ t, t < 6 → r3 A3 77 t (K0 B t) := by
    intro t ht
    have e74 : A1 74 = A 74 := ha.1 74 rfl
    have e75 : A1 75 = A 75 := ha.1 75 rfl
    have e76 : A1 76 = A 76 := ha.1 76 rfl
    refine ⟨?_, ?_, ?_⟩
    · rw [x2 t 1 (Or.inl rfl) ht]; show A1 74 t = _; rw [e74]; exact (v7.2.1 t ht).1
    · rw [x2 t 2 (Or.inr (Or.inl rfl)) ht]; show A1 75 t = _; rw [e75]; exact (v7.2.1 t ht).2.1
    · rw [x2 t 3 (Or.inr (Or.inr rfl)) ht]; show A1 76 t = _; rw [e76]; exact (v7.2.1 t ht).2.2
  obtain ⟨A4, V4, c4, y1, y2, y3⟩ := c_draw_L hv hs (r := h / 100) (by omega) hc (fun (A50 V51 : xM) (c52 : Value) => some (A50, V51, c52)) (h % 100) 0 FU (K0 B s) (seed + 1) A3 V1 c1 ha3 (by omega) (fu_gt (by omega)) (by omega) (fun p hp => (v7.1 p s hp (by omega)).1) (rows s (by omega)) (fun t ht _ => rows t ht)
  refine ⟨A4, V4, c4, ?_, y2, y3⟩
  unfold fX8_draw
  have d1 : nI h / 100 = nI (h / 100) := pk_div (by omega) (by decide) (by decide)
  have d2 : nI h - nI h / 100 * 100 = nI (h % 100) := pk_rem (by omega) (by decide) (by decide)
  have d3 : (nI seed + 1).toInt64 = lN (seed + 1) := by rw [nI_1, nI_l (by omega)]
  rw [x1, bS_s, d2, d1, d3]
  exact y1
theorem r_draw_L (hv : iv N B A V tx cu) {s r cnt : Nat} (hs : s < N 0) (hr : r < 4) (hcn : cnt ≤ 30) (ex : xM → xM → Value → Option xS) : ∀ k e n (K : Nat → Nat) (n0 : Nat) (A1 V1 : xM) (c1 : Value), agr A V A1 V1 → e + k = cnt → k < n → n0 < 2147483648 → (∀ p, p < 5 → K p ≤ 3) → (∀ p, p < N 1 → A1 152 p = nI (K p)) → ∃ A2 V2 c2, fX9_draw_L29 (nI s) (nI r) (nI cnt) (nI (mk5 (fun p => Nat.blt p (N 1) && hsf (B 5) (A 135 s) p))) ex n (lN n0) (nI e) A1 V1 c1 = ex A2 V2 c2 ∧ agr A V A2 V2 ∧ ∀ p, p < N 1 → A2 152 p = nI (dks N B tx (A 131) (A 135 s) s r k e K n0 p) := by
  obtain ⟨v1, v2, v3, v4, v5, v6, v7, v8, v9, v10, v11, v12, v13⟩ := id hv
  obtain ⟨⟨s1, s2, s3⟩, ⟨p1, p2, p3⟩, -, ⟨t1, t2, t3⟩, ⟨l1, l2, l3⟩, -⟩ := v1
  obtain ⟨r1, r2, r3', r4⟩ := v3 r hr
  intro k
  induction k with
  | zero =>
    intro e n K n0 A1 V1 c1 ha hi hn h0 hK hk1
    obtain ⟨n, rfl⟩ : ∃ m, n = m + 1 := ⟨n - 1, by omega⟩
    refine ⟨A1, V1, c1, ?_, ha, hk1⟩
    rw [fX9_draw_L29, if_pos (by simp (disch := omega) only [ltI, leI, eqI, tI, tI1, ti_0, ti_1, ti_2, ti_3, ti_4, ti_5, ti_6, ti_7, ti_8, ti_9, ti_10, ti_11, ti_12, ti_14, ti_18, ti_30, ti_39, ti_40, ti_41, ti_45, ti_50, ti_59, ti_97, ti_99, ti_100, ti_122, ti_160, ti_243, ti_255, ti_399, ti_999, ti_1000, ti_1024, ti_99999, tm_1, tm_2, tm_3, tm_4, tm_5, tm_7, tm_11, tm_12, tm_13, tm_14, tm_100, if_pos, if_neg, if_true, if_false, bC_in, bI_s, bS_s, bX_s, bY_s, sO, tC]; omega)]
  | succ k ih =>
    intro e n K n0 A1 V1 c1 ha hi hn h0 hK hk1
    obtain ⟨n, rfl⟩ : ∃ m, n = m + 1 := ⟨n - 1, by omega⟩
    have e4 : V1 132 4 = nI (N 1) := (ha.2 132 4 rfl).trans p2
    have e16 : V1 132 16 = nI (N 3) := (ha.2 132 16 rfl).trans l2
    have e133 : A1 134 r = nI (B 1 r) := by rw [ha.1 134 rfl]; exact r2
    have hC := dcm_p (B 1 r) n0 (N 1)
    have hdl := dlt_lt h0 (N 1)
    rw [fX9_draw_L29, if_neg (by simp (disch := omega) only [ltI, leI, eqI, tI, tI1, ti_0, ti_1, ti_2, ti_3, ti_4, ti_5, ti_6, ti_7, ti_8, ti_9, ti_10, ti_11, ti_12, ti_14, ti_18, ti_30, ti_39, ti_40, ti_41, ti_45, ti_50, ti_59, ti_97, ti_99, ti_100, ti_122, ti_160, ti_243, ti_255, ti_399, ti_999, ti_1000, ti_1024, ti_99999, tm_1, tm_2, tm_3, tm_4, tm_5, tm_7, tm_11, tm_12, tm_13, tm_14, tm_100, if_pos, if_neg, if_true, if_false, bC_in, bI_s, bS_s, bX_s, bY_s, sO, tC]; omega), e16, sO]
    rw [r_dr10 (N := N) (st := B 1 r) r4 hr e133 h0 p3 e4]
    obtain ⟨A3, V3, x1, x2, x3, x4⟩ := r_begin (K := K) (s := s) (r := r) (e := e) hv ha c1 hC l3 (fun p hp => ⟨hk1 p hp, hK p (by omega)⟩) (fun _ => false) (fun p => Nat.blt p (N 1) && hsf (B 5) (A 135 s) p)
    have x1 : fX9_begin (nI (N 3)) (nI s) (nI r) (nI (mk5 (dcm (B 1 r) n0 (N 1)))) 0 (nI e) (nI (mk5 (fun p => Nat.blt p (N 1) && hsf (B 5) (A 135 s) p))) A1 V1 c1 = some (nI (myp B tx (A 131) (N 3) s r e K (dcm (B 1 r) n0 (N 1))).toNat, A3, V3, c1) := x1
    have ha3 : agr A V A3 V3 := by
      refine ⟨fun a q => ?_, fun a i q => ?_⟩
      · rw [x2 a (fun z => by subst z; cases q) (fun z => by subst z; cases q) (fun z => by subst z; cases q)]
        exact ha.1 a q
      · rw [x4 a i (by rintro ⟨rfl, rfl | rfl⟩ <;> cases q)]
        exact ha.2 a i q
    rw [x1, bX_s]
    have eK : ∀ p, p < N 1 → nxt N B tx (A 131) (N 3) s r e K (dcm (B 1 r) n0 (N 1)) (fun _ => false) (fun p => Nat.blt p (N 1) && hsf (B 5) (A 135 s) p) p = nxt N B tx (A 131) (N 3) s r e K (dcm (B 1 r) n0 (N 1)) (fun _ => false) (hsf (B 5) (A 135 s)) p := by
      intro p hp
      unfold nxt
      by_cases q1 : myp B tx (A 131) (N 3) s r e K (dcm (B 1 r) n0 (N 1)) = true
      · rw [if_pos q1, if_pos q1]
        unfold spr
        by_cases q2 : anyp (sgs B K (dcm (B 1 r) n0 (N 1))) = true
        · rw [if_pos q2, if_pos q2]
          exact lrn_c rfl rfl (fun _ => by rw [Nat.blt_eq.mpr hp, Bool.true_and])
        · rw [if_neg q2, if_neg q2]
      · rw [if_neg q1, if_neg q1]
    exact ih (e + 1) n _ _ A3 V3 c1 ha3 (by omega) (by omega) hdl (fun p hp => nxt_le (fun q => (v5 p q).1.2.2) hC nof hp (hK p hp)) (fun p hp => (x3 p hp).trans (congrArg nI (eK p hp)))
theorem F_le (hv : iv N B A V tx cu) {i : Nat} (hi : i < 30) : B 5 i ≤ 3 := by
  have := (hv.2.2.2.2.2.2.1.1 (i / 6) (i % 6) (by omega) (by omega)).1
  rw [show 6 * (i / 6) + i % 6 = i by omega] at this
  exact this
theorem r_draw (hv : iv N B A V tx cu) (ha : agr A V A1 V1) (c1 : Value) {s h seed : Nat} (hs : s < N 0) (hh : h < 400) (hc : h % 100 ≤ 30) (hsd : seed < 200000) : ∃ A2 V2 c2, fX9_draw (nI seed) (nI s) (nI (h / 100)) (nI (h % 100)) A1 V1 c1 = some (A2, V2, c2) ∧ agr A V A2 V2 ∧ ∀ p, p < N 1 → A2 152 p = nI (dks N B tx (A 131) (A 135 s) s (h / 100) (h % 100) 0 (K0 B s) (seed + 1) p) := by
  obtain ⟨v1, v2, v3, v4, v5, v6, v7, v8, v9, v10, v11, v12, v13⟩ := id hv
  obtain ⟨⟨s1, s2, s3⟩, ⟨p1, p2, p3⟩, -, ⟨t1, t2, t3⟩, ⟨l1, l2, l3⟩, -⟩ := v1
  have e4 : V1 132 4 = nI (N 1) := (ha.2 132 4 rfl).trans p2
  have e134 : A1 135 = A 135 := ha.1 135 rfl
  have e138 : A1 139 = A 139 := ha.1 139 rfl
  have hwh := r_whoHas (N := N) (A1 := A1) (V1 := V1) (l := 139) (s := s) (F := B 5) (by omega) p3 e4 (by rw [e134]; exact (need_ok hv hs).2) (fun i hi => ⟨by rw [e138]; exact v7.2.2 i hi, F_le hv hi⟩)
  rw [e134] at hwh
  obtain ⟨A2, w1, w2, w3⟩ := r_take (A1 := A1) (l := 139) (s := s) (by decide) (by omega) p3 e4 c1
  have ha2 : agr A V A2 V1 := agr_1 ha (r := 152) rfl w3
  have hK0 : ∀ p, p < 5 → K0 B s p ≤ 3 := fun p hp => (v7.1 p s hp (by omega)).1
  obtain ⟨A4, V4, c4, y1, y2, y3⟩ := r_draw_L hv hs (r := h / 100) (by omega) hc (fun (A35 V36 : xM) (c37 : Value) => some (A35, V36, c37)) (h % 100) 0 FU (K0 B s) (seed + 1) A2 V1 c1 ha2 (by omega) (fu_gt (by omega)) (by omega) hK0 (fun p hp => by rw [w2 p hp, e138]; exact v7.2.2 _ (by omega))
  refine ⟨A4, V4, c4, ?_, y2, y3⟩
  have d3 : (nI seed).toInt64 + (1 : Int64) = lN (seed + 1) := by
    rw [nI_l (by omega)]
    exact lN_add seed 1
  unfold fX9_draw
  rw [hwh, bI_s, w1, bS_s, d3]
  exact y1
end DR
