/-! SONGS THAT ARE LOST. -/
theorem nbt : nI (true : Bool).toNat = 1 := by decide
theorem nbf : nI (false : Bool).toNat = 0 := by decide
def cti (f : Nat → Bool) : Nat → Nat
  | 0 => 0
  | i + 1 => cti f i + (f i).toNat
theorem cti_5 (f : Nat → Bool) : cti f 5 = ct f := by simp [cti, ct]
theorem q_size (f : Nat → Bool) (A V : xM) (ex : Int32 → Option Int32) : ∀ k i n, i + k = 5 → k < n → fX9_size_L4 (nI (mk5 f)) A V ex n (nI (cti f i)) (nI i) = ex (nI (ct f)) := by
  intro k
  induction k with
  | zero =>
    intro i n hi hn
    obtain ⟨n, rfl⟩ : ∃ m, n = m + 1 := ⟨n - 1, by omega⟩
    have : i = 5 := by omega
    subst this
    rw [fX9_size_L4, cti_5]
    simp (disch := omega) only [ltI, leI, eqI, tI, tI1, ti_0, ti_1, ti_2, ti_3, ti_4, ti_5, ti_6, ti_7, ti_8, ti_9, ti_10, ti_11, ti_12, ti_14, ti_18, ti_30, ti_39, ti_40, ti_41, ti_45, ti_50, ti_59, ti_97, ti_99, ti_100, ti_122, ti_160, ti_243, ti_255, ti_399, ti_999, ti_1000, ti_1024, ti_99999, tm_1, tm_2, tm_3, tm_4, tm_5, tm_7, tm_11, tm_12, tm_13, tm_14, tm_100, if_pos, if_neg, if_true, if_false, bC_in, bI_s, bS_s, bX_s, bY_s, sO, tC]
  | succ k ih =>
    intro i n hi hn
    obtain ⟨n, rfl⟩ : ∃ m, n = m + 1 := ⟨n - 1, by omega⟩
    have h5 : i < 5 := by omega
    rw [fX9_size_L4, mk5_sh f h5, nI_add]
    simp (disch := omega) only [ltI, leI, eqI, tI, tI1, ti_0, ti_1, ti_2, ti_3, ti_4, ti_5, ti_6, ti_7, ti_8, ti_9, ti_10, ti_11, ti_12, ti_14, ti_18, ti_30, ti_39, ti_40, ti_41, ti_45, ti_50, ti_59, ti_97, ti_99, ti_100, ti_122, ti_160, ti_243, ti_255, ti_399, ti_999, ti_1000, ti_1024, ti_99999, tm_1, tm_2, tm_3, tm_4, tm_5, tm_7, tm_11, tm_12, tm_13, tm_14, tm_100, if_pos, if_neg, if_true, if_false, bC_in, bI_s, bS_s, bX_s, bY_s, sO, tC]
    exact ih (i + 1) n (by omega) (by omega)
theorem m_size (f : Nat → Bool) (A V : xM) : fX9_size (nI (mk5 f)) A V = some (nI (ct f)) := q_size f A V _ 5 0 FU rfl (by decide)
def pl (D : Nat → Nat) (w : Nat → Bool) : Nat → Int64
  | 0 => 1000000000
  | n + 1 => if w n = true then pl D w n * (nI (D n)).toInt64 / 100 else pl D w n
theorem pl_c {D : Nat → Nat} {w v : Nat → Bool} : ∀ n, (∀ p, p < n → w p = v p) → pl D w n = pl D v n
  | 0, _ => rfl
  | n + 1, h => by rw [pl, pl, h n (by omega), pl_c n (fun p hp => h p (by omega))]
theorem c_pl {A V : xM} {P : Nat} (hP : V 65 3 = nI P) (h5 : P ≤ 5) {D : Nat → Nat} (hD : ∀ p, p < P → A 67 p = nI (D p)) (w : Nat → Bool) (ex : Int64 → Option Int64) : ∀ k i n, i + k = P → k < n → fX8_partsLost_L20 (nI (mk5 w)) A V ex n (pl D w i) (nI i) = ex (pl D w P) := by
  intro k
  induction k with
  | zero =>
    intro i n hi hn
    obtain ⟨n, rfl⟩ : ∃ m, n = m + 1 := ⟨n - 1, by omega⟩
    have : i = P := by omega
    subst this
    rw [fX8_partsLost_L20]
    simp (disch := omega) only [ltI, leI, eqI, tI, tI1, ti_0, ti_1, ti_2, ti_3, ti_4, ti_5, ti_6, ti_7, ti_8, ti_9, ti_10, ti_11, ti_12, ti_14, ti_18, ti_30, ti_39, ti_40, ti_41, ti_45, ti_50, ti_59, ti_97, ti_99, ti_100, ti_122, ti_160, ti_243, ti_255, ti_399, ti_999, ti_1000, ti_1024, ti_99999, tm_1, tm_2, tm_3, tm_4, tm_5, tm_7, tm_11, tm_12, tm_13, tm_14, tm_100, if_pos, if_neg, if_true, if_false, bC_in, bI_s, bS_s, bX_s, bY_s, sO, tC, hP]
  | succ k ih =>
    intro i n hi hn
    obtain ⟨n, rfl⟩ : ∃ m, n = m + 1 := ⟨n - 1, by omega⟩
    have hm := mk5_sh w (show i < 5 by omega)
    have hDi := hD i (by omega)
    have t := ih (i + 1) n (by omega) (by omega)
    rw [fX8_partsLost_L20, hm]
    rw [pl] at t
    cases hw : w i with
    | true =>
      rw [hw, if_pos rfl] at t
      simp (disch := omega) only [ltI, leI, eqI, tI, tI1, ti_0, ti_1, ti_2, ti_3, ti_4, ti_5, ti_6, ti_7, ti_8, ti_9, ti_10, ti_11, ti_12, ti_14, ti_18, ti_30, ti_39, ti_40, ti_41, ti_45, ti_50, ti_59, ti_97, ti_99, ti_100, ti_122, ti_160, ti_243, ti_255, ti_399, ti_999, ti_1000, ti_1024, ti_99999, tm_1, tm_2, tm_3, tm_4, tm_5, tm_7, tm_11, tm_12, tm_13, tm_14, tm_100, if_pos, if_neg, if_true, if_false, bC_in, bI_s, bS_s, bX_s, bY_s, sO, tC, hP, nbt, hDi]
      exact t
    | false =>
      rw [hw, if_neg (by decide)] at t
      simp (disch := omega) only [ltI, leI, eqI, tI, tI1, ti_0, ti_1, ti_2, ti_3, ti_4, ti_5, ti_6, ti_7, ti_8, ti_9, ti_10, ti_11, ti_12, ti_14, ti_18, ti_30, ti_39, ti_40, ti_41, ti_45, ti_50, ti_59, ti_97, ti_99, ti_100, ti_122, ti_160, ti_243, ti_255, ti_399, ti_999, ti_1000, ti_1024, ti_99999, tm_1, tm_2, tm_3, tm_4, tm_5, tm_7, tm_11, tm_12, tm_13, tm_14, tm_100, if_pos, if_neg, if_true, if_false, bC_in, bI_s, bS_s, bX_s, bY_s, sO, tC, hP, nbf, hDi]
      exact t
theorem r_pl {A V : xM} {P s : Nat} (hs : s < 6) (hP : V 132 4 = nI P) (h5 : P ≤ 5) {D F : Nat → Nat} (hD : ∀ p, p < P → A 137 p = nI (D p)) (hF : ∀ j, j < 30 → A 139 j = nI (F j)) (hF3 : ∀ p, p < 5 → F (6 * p + s) ≤ 3) (m : Nat → Bool) (ex : Int64 → Option Int64) : ∀ k i n, i + k = P → k < n → fX9_parts_L7 (nI s) (nI (mk5 m)) A V ex n (pl D (fun p => m p || Nat.ble 2 (F (6 * p + s))) i) (nI i) = ex (pl D (fun p => m p || Nat.ble 2 (F (6 * p + s))) P) := by
  intro k
  induction k with
  | zero =>
    intro i n hi hn
    obtain ⟨n, rfl⟩ : ∃ m, n = m + 1 := ⟨n - 1, by omega⟩
    have : i = P := by omega
    subst this
    rw [fX9_parts_L7]
    simp (disch := omega) only [ltI, leI, eqI, tI, tI1, ti_0, ti_1, ti_2, ti_3, ti_4, ti_5, ti_6, ti_7, ti_8, ti_9, ti_10, ti_11, ti_12, ti_14, ti_18, ti_30, ti_39, ti_40, ti_41, ti_45, ti_50, ti_59, ti_97, ti_99, ti_100, ti_122, ti_160, ti_243, ti_255, ti_399, ti_999, ti_1000, ti_1024, ti_99999, tm_1, tm_2, tm_3, tm_4, tm_5, tm_7, tm_11, tm_12, tm_13, tm_14, tm_100, if_pos, if_neg, if_true, if_false, bC_in, bI_s, bS_s, bX_s, bY_s, sO, tC, hP]
  | succ k ih =>
    intro i n hi hn
    obtain ⟨n, rfl⟩ : ∃ m, n = m + 1 := ⟨n - 1, by omega⟩
    have hm := mk5_sh m (show i < 5 by omega)
    have hDi := hD i (by omega)
    have hFi := hF (6 * i + s) (by omega)
    have hF3i := hF3 i (by omega)
    have i6 : (6 : Int32) * nI i + nI s = nI (6 * i + s) := by rw [show (6 : Int32) = nI 6 from rfl, pk_mul, nI_add]
    have t := ih (i + 1) n (by omega) (by omega)
    rw [fX9_parts_L7, hm, i6]
    rw [pl] at t
    cases hw : m i with
    | true =>
      rw [hw, Bool.true_or, if_pos rfl] at t
      simp (disch := omega) only [ltI, leI, eqI, tI, tI1, ti_0, ti_1, ti_2, ti_3, ti_4, ti_5, ti_6, ti_7, ti_8, ti_9, ti_10, ti_11, ti_12, ti_14, ti_18, ti_30, ti_39, ti_40, ti_41, ti_45, ti_50, ti_59, ti_97, ti_99, ti_100, ti_122, ti_160, ti_243, ti_255, ti_399, ti_999, ti_1000, ti_1024, ti_99999, tm_1, tm_2, tm_3, tm_4, tm_5, tm_7, tm_11, tm_12, tm_13, tm_14, tm_100, if_pos, if_neg, if_true, if_false, bC_in, bI_s, bS_s, bX_s, bY_s, sO, tC, hP, nbt, hDi]
      exact t
    | false =>
      rw [hw, Bool.false_or] at t
      by_cases h2 : 2 ≤ F (6 * i + s)
      · rw [if_pos (Nat.ble_eq.mpr h2)] at t
        simp (disch := omega) only [ltI, leI, eqI, tI, tI1, ti_0, ti_1, ti_2, ti_3, ti_4, ti_5, ti_6, ti_7, ti_8, ti_9, ti_10, ti_11, ti_12, ti_14, ti_18, ti_30, ti_39, ti_40, ti_41, ti_45, ti_50, ti_59, ti_97, ti_99, ti_100, ti_122, ti_160, ti_243, ti_255, ti_399, ti_999, ti_1000, ti_1024, ti_99999, tm_1, tm_2, tm_3, tm_4, tm_5, tm_7, tm_11, tm_12, tm_13, tm_14, tm_100, if_pos, if_neg, if_true, if_false, bC_in, bI_s, bS_s, bX_s, bY_s, sO, tC, hP, nbf, hDi, hFi]
        exact t
      · rw [if_neg (fun q => h2 (Nat.ble_eq.mp q))] at t
        simp (disch := omega) only [ltI, leI, eqI, tI, tI1, ti_0, ti_1, ti_2, ti_3, ti_4, ti_5, ti_6, ti_7, ti_8, ti_9, ti_10, ti_11, ti_12, ti_14, ti_18, ti_30, ti_39, ti_40, ti_41, ti_45, ti_50, ti_59, ti_97, ti_99, ti_100, ti_122, ti_160, ti_243, ti_255, ti_399, ti_999, ti_1000, ti_1024, ti_99999, tm_1, tm_2, tm_3, tm_4, tm_5, tm_7, tm_11, tm_12, tm_13, tm_14, tm_100, if_pos, if_neg, if_true, if_false, bC_in, bI_s, bS_s, bX_s, bY_s, sO, tC, hP, nbf, hDi, hFi]
        exact t
/-- LOST, of a set of those who know it too -/
def plo (N : Nat → Nat) (B : Nat → Nat → Nat) (s : Nat) (m : Nat → Bool) : Int64 := pl (B 3) (fun p => m p || Nat.ble 2 (B 5 (6 * p + s))) (N 1)
section LO
variable {N : Nat → Nat} {B : Nat → Nat → Nat} {A V : xM} {tx : List xh_T} {cu : Value}
theorem c_lost (hv : iv N B A V tx cu) {s : Nat} (hs : s < 6) (m : Nat → Bool) : fX8_partsLost (nI s) (nI (mk5 m)) A V = some (plo N B s m) := by
  obtain ⟨v1, v2, v3, v4, v5, v6, v7, v8, v9, v10, v11, v12, v13⟩ := hv
  obtain ⟨⟨s1, s2, s3⟩, ⟨p1, p2, p3⟩, -⟩ := v1
  obtain ⟨f1, f2, f3⟩ := v7
  have hk := (f2 s hs).1
  unfold fX8_partsLost
  rw [bC_in ⟨hs, by decide⟩, tC (by omega), hk, m_or]
  have := c_pl (A := A) (V := V) p1 p3 (D := B 3) (fun p hp => (v5 p hp).2.1.1) (fun p => Nat.ble 2 (B 5 (6 * p + s)) || m p) some (N 1) 0 FU (by omega) (by have : FU = 5000 := rfl; omega)
  refine Eq.trans this (congrArg some ?_)
  exact pl_c _ (fun p _ => Bool.or_comm _ _)
theorem r_lost (hv : iv N B A V tx cu) {s : Nat} (hs : s < 6) (m : Nat → Bool) : fX9_parts (nI s) (nI (mk5 m)) A V = some (plo N B s m) := by
  obtain ⟨v1, v2, v3, v4, v5, v6, v7, v8, v9, v10, v11, v12, v13⟩ := hv
  obtain ⟨⟨s1, s2, s3⟩, ⟨p1, p2, p3⟩, -⟩ := v1
  obtain ⟨f1, f2, f3⟩ := v7
  exact r_pl (A := A) (V := V) hs p2 p3 (D := B 3) (F := B 5) (fun p hp => (v5 p hp).2.1.2.1) f3 (fun p hp => (f1 p s hp hs).1) m some (N 1) 0 FU (by omega) (by have : FU = 5000 := rfl; omega)
theorem c_lost_c (hv : iv N B A V tx cu) {s c : Nat} (hs : s < 6) (hc : c < 32) : fX8_partsLost (nI s) (nI c) A V = some (plo N B s (bt c)) := by
  have := c_lost hv hs (bt c)
  rw [bt_mk c hc] at this
  exact this
theorem r_lost_c (hv : iv N B A V tx cu) {s c : Nat} (hs : s < 6) (hc : c < 32) : fX9_parts (nI s) (nI c) A V = some (plo N B s (bt c)) := by
  have := r_lost hv hs (bt c)
  rw [bt_mk c hc] at this
  exact this
end LO
theorem op_lost {LL : Nat} {xs : Nat → Int32} {d : Nat} (hd : 62 ≤ d) (a b : Int32) : iv_opl (xk_ro LL xs) d 99 199 [.int a, .int b] := by
  refine opl_mk0 (fc := fX8_lost a b) (fm := fX9_lost a b) (fun tx A V cu r e => sX8_lost (by omega) e) (fun tx A V cu r e => sX9_lost (by omega) e) ?_
  intro N B A V tx cu hv
  obtain ⟨⟨s1, s2, s3⟩, ⟨p1, p2, p3⟩, -⟩ := id hv.1
  have h32 := p2_32 _ p3
  have hsp := sh_p (N 1) (by omega)
  unfold fX8_lost fX9_lost
  rw [s1, s2, p1, p2]
  rcases ix3 a (N 0) (by omega) with h | h | ⟨j, hj, rfl⟩
  · refine ⟨_, if_pos (by simp (disch := omega) only [ltI, leI, eqI, tI, tI1, ti_0, ti_1, ti_2, ti_3, ti_4, ti_5, ti_6, ti_7, ti_8, ti_9, ti_10, ti_11, ti_12, ti_14, ti_18, ti_30, ti_39, ti_40, ti_41, ti_45, ti_50, ti_59, ti_97, ti_99, ti_100, ti_122, ti_160, ti_243, ti_255, ti_399, ti_999, ti_1000, ti_1024, ti_99999, tm_1, tm_2, tm_3, tm_4, tm_5, tm_7, tm_11, tm_12, tm_13, tm_14, tm_100, if_pos, if_neg, if_true, if_false, bC_in, bI_s, bS_s, bX_s, bY_s, sO, tC]; exact h), if_pos (by simp (disch := omega) only [ltI, leI, eqI, tI, tI1, ti_0, ti_1, ti_2, ti_3, ti_4, ti_5, ti_6, ti_7, ti_8, ti_9, ti_10, ti_11, ti_12, ti_14, ti_18, ti_30, ti_39, ti_40, ti_41, ti_45, ti_50, ti_59, ti_97, ti_99, ti_100, ti_122, ti_160, ti_243, ti_255, ti_399, ti_999, ti_1000, ti_1024, ti_99999, tm_1, tm_2, tm_3, tm_4, tm_5, tm_7, tm_11, tm_12, tm_13, tm_14, tm_100, if_pos, if_neg, if_true, if_false, bC_in, bI_s, bS_s, bX_s, bY_s, sO, tC]; exact h)⟩
  · refine ⟨-4611686018427387904, ?_, ?_⟩
    · simp (disch := omega) only [ltI, leI, eqI, tI, tI1, ti_0, ti_1, ti_2, ti_3, ti_4, ti_5, ti_6, ti_7, ti_8, ti_9, ti_10, ti_11, ti_12, ti_14, ti_18, ti_30, ti_39, ti_40, ti_41, ti_45, ti_50, ti_59, ti_97, ti_99, ti_100, ti_122, ti_160, ti_243, ti_255, ti_399, ti_999, ti_1000, ti_1024, ti_99999, tm_1, tm_2, tm_3, tm_4, tm_5, tm_7, tm_11, tm_12, tm_13, tm_14, tm_100, if_pos, if_neg, if_true, if_false, bC_in, bI_s, bS_s, bX_s, bY_s, sO, tC]
    · simp (disch := omega) only [ltI, leI, eqI, tI, tI1, ti_0, ti_1, ti_2, ti_3, ti_4, ti_5, ti_6, ti_7, ti_8, ti_9, ti_10, ti_11, ti_12, ti_14, ti_18, ti_30, ti_39, ti_40, ti_41, ti_45, ti_50, ti_59, ti_97, ti_99, ti_100, ti_122, ti_160, ti_243, ti_255, ti_399, ti_999, ti_1000, ti_1024, ti_99999, tm_1, tm_2, tm_3, tm_4, tm_5, tm_7, tm_11, tm_12, tm_13, tm_14, tm_100, if_pos, if_neg, if_true, if_false, bC_in, bI_s, bS_s, bX_s, bY_s, sO, tC]
  rcases ppl b p3 with ⟨h1, c, hc, rfl⟩ | ⟨h1, h2⟩
  · refine ⟨plo N B j (bt c), ?_, ?_⟩
    · rw [if_pos h1]
      rw [c_lost_c hv (by omega) (by omega)]
      simp (disch := omega) only [ltI, leI, eqI, tI, tI1, ti_0, ti_1, ti_2, ti_3, ti_4, ti_5, ti_6, ti_7, ti_8, ti_9, ti_10, ti_11, ti_12, ti_14, ti_18, ti_30, ti_39, ti_40, ti_41, ti_45, ti_50, ti_59, ti_97, ti_99, ti_100, ti_122, ti_160, ti_243, ti_255, ti_399, ti_999, ti_1000, ti_1024, ti_99999, tm_1, tm_2, tm_3, tm_4, tm_5, tm_7, tm_11, tm_12, tm_13, tm_14, tm_100, if_pos, if_neg, if_true, if_false, bC_in, bI_s, bS_s, bX_s, bY_s, sO, tC]
    · rw [hsp]
      simp (disch := omega) only [ltI, leI, eqI, tI, tI1, ti_0, ti_1, ti_2, ti_3, ti_4, ti_5, ti_6, ti_7, ti_8, ti_9, ti_10, ti_11, ti_12, ti_14, ti_18, ti_30, ti_39, ti_40, ti_41, ti_45, ti_50, ti_59, ti_97, ti_99, ti_100, ti_122, ti_160, ti_243, ti_255, ti_399, ti_999, ti_1000, ti_1024, ti_99999, tm_1, tm_2, tm_3, tm_4, tm_5, tm_7, tm_11, tm_12, tm_13, tm_14, tm_100, if_pos, if_neg, if_true, if_false, bC_in, bI_s, bS_s, bX_s, bY_s, sO, tC]
      rw [r_lost_c hv (by omega) (by omega)]
      simp (disch := omega) only [ltI, leI, eqI, tI, tI1, ti_0, ti_1, ti_2, ti_3, ti_4, ti_5, ti_6, ti_7, ti_8, ti_9, ti_10, ti_11, ti_12, ti_14, ti_18, ti_30, ti_39, ti_40, ti_41, ti_45, ti_50, ti_59, ti_97, ti_99, ti_100, ti_122, ti_160, ti_243, ti_255, ti_399, ti_999, ti_1000, ti_1024, ti_99999, tm_1, tm_2, tm_3, tm_4, tm_5, tm_7, tm_11, tm_12, tm_13, tm_14, tm_100, if_pos, if_neg, if_true, if_false, bC_in, bI_s, bS_s, bX_s, bY_s, sO, tC]
  · refine ⟨-4611686018427387904, ?_, ?_⟩
    · rw [if_neg h1]
      simp (disch := omega) only [ltI, leI, eqI, tI, tI1, ti_0, ti_1, ti_2, ti_3, ti_4, ti_5, ti_6, ti_7, ti_8, ti_9, ti_10, ti_11, ti_12, ti_14, ti_18, ti_30, ti_39, ti_40, ti_41, ti_45, ti_50, ti_59, ti_97, ti_99, ti_100, ti_122, ti_160, ti_243, ti_255, ti_399, ti_999, ti_1000, ti_1024, ti_99999, tm_1, tm_2, tm_3, tm_4, tm_5, tm_7, tm_11, tm_12, tm_13, tm_14, tm_100, if_pos, if_neg, if_true, if_false, bC_in, bI_s, bS_s, bX_s, bY_s, sO, tC]
    · rw [hsp]
      rcases h2 with h2 | h2
      · simp (disch := omega) only [ltI, leI, eqI, tI, tI1, ti_0, ti_1, ti_2, ti_3, ti_4, ti_5, ti_6, ti_7, ti_8, ti_9, ti_10, ti_11, ti_12, ti_14, ti_18, ti_30, ti_39, ti_40, ti_41, ti_45, ti_50, ti_59, ti_97, ti_99, ti_100, ti_122, ti_160, ti_243, ti_255, ti_399, ti_999, ti_1000, ti_1024, ti_99999, tm_1, tm_2, tm_3, tm_4, tm_5, tm_7, tm_11, tm_12, tm_13, tm_14, tm_100, if_pos, if_neg, if_true, if_false, bC_in, bI_s, bS_s, bX_s, bY_s, sO, tC]
      · generalize 2 ^ N 1 = M at *
        simp (disch := omega) only [ltI, leI, eqI, tI, tI1, ti_0, ti_1, ti_2, ti_3, ti_4, ti_5, ti_6, ti_7, ti_8, ti_9, ti_10, ti_11, ti_12, ti_14, ti_18, ti_30, ti_39, ti_40, ti_41, ti_45, ti_50, ti_59, ti_97, ti_99, ti_100, ti_122, ti_160, ti_243, ti_255, ti_399, ti_999, ti_1000, ti_1024, ti_99999, tm_1, tm_2, tm_3, tm_4, tm_5, tm_7, tm_11, tm_12, tm_13, tm_14, tm_100, if_pos, if_neg, if_true, if_false, bC_in, bI_s, bS_s, bX_s, bY_s, sO, tC]
/-! rarest -/
def rrs (N : Nat → Nat) (B : Nat → Nat → Nat) : Nat → Int32 × Int64
  | 0 => (-1, -1)
  | s + 1 => if lg_cmp (plo N B s (fun _ => false)) (rrs N B s).2 ≤ 0 then rrs N B s else (nI s, plo N B s (fun _ => false))
section RA
variable {N : Nat → Nat} {B : Nat → Nat → Nat} {A V : xM} {tx : List xh_T} {cu : Value}
theorem z5 : (0 : Int32) = nI (mk5 (fun _ => false)) := rfl
theorem c_rar (hv : iv N B A V tx cu) (ex : Int32 → Option Int32) : ∀ k i n, i + k = N 0 → k < n → fX8_rarest_L9 A V ex n (rrs N B i).1 (rrs N B i).2 (nI i) = ex (rrs N B (N 0)).1 := by
  obtain ⟨⟨s1, s2, s3⟩, -⟩ := id hv.1
  intro k
  induction k with
  | zero =>
    intro i n hi hn
    obtain ⟨n, rfl⟩ : ∃ m, n = m + 1 := ⟨n - 1, by omega⟩
    have : i = N 0 := by omega
    rw [fX8_rarest_L9, this]
    simp (disch := omega) only [ltI, leI, eqI, tI, tI1, ti_0, ti_1, ti_2, ti_3, ti_4, ti_5, ti_6, ti_7, ti_8, ti_9, ti_10, ti_11, ti_12, ti_14, ti_18, ti_30, ti_39, ti_40, ti_41, ti_45, ti_50, ti_59, ti_97, ti_99, ti_100, ti_122, ti_160, ti_243, ti_255, ti_399, ti_999, ti_1000, ti_1024, ti_99999, tm_1, tm_2, tm_3, tm_4, tm_5, tm_7, tm_11, tm_12, tm_13, tm_14, tm_100, if_pos, if_neg, if_true, if_false, bC_in, bI_s, bS_s, bX_s, bY_s, sO, tC, s1]
  | succ k ih =>
    intro i n hi hn
    obtain ⟨n, rfl⟩ : ∃ m, n = m + 1 := ⟨n - 1, by omega⟩
    have t := ih (i + 1) n (by omega) (by omega)
    rw [fX8_rarest_L9, z5, c_lost hv (by omega)]
    rw [if_neg (by simp (disch := omega) only [ltI, leI, eqI, tI, tI1, ti_0, ti_1, ti_2, ti_3, ti_4, ti_5, ti_6, ti_7, ti_8, ti_9, ti_10, ti_11, ti_12, ti_14, ti_18, ti_30, ti_39, ti_40, ti_41, ti_45, ti_50, ti_59, ti_97, ti_99, ti_100, ti_122, ti_160, ti_243, ti_255, ti_399, ti_999, ti_1000, ti_1024, ti_99999, tm_1, tm_2, tm_3, tm_4, tm_5, tm_7, tm_11, tm_12, tm_13, tm_14, tm_100, if_pos, if_neg, if_true, if_false, bC_in, bI_s, bS_s, bX_s, bY_s, sO, tC, s1]; omega), if_neg (by simp (disch := omega) only [ltI, leI, eqI, tI, tI1, ti_0, ti_1, ti_2, ti_3, ti_4, ti_5, ti_6, ti_7, ti_8, ti_9, ti_10, ti_11, ti_12, ti_14, ti_18, ti_30, ti_39, ti_40, ti_41, ti_45, ti_50, ti_59, ti_97, ti_99, ti_100, ti_122, ti_160, ti_243, ti_255, ti_399, ti_999, ti_1000, ti_1024, ti_99999, tm_1, tm_2, tm_3, tm_4, tm_5, tm_7, tm_11, tm_12, tm_13, tm_14, tm_100, if_pos, if_neg, if_true, if_false, bC_in, bI_s, bS_s, bX_s, bY_s, sO, tC]; omega), bI_s]
    rw [rrs] at t
    rw [sO]
    split
    · rename_i h
      have h : lg_cmp (plo N B i (fun _ => false)) (rrs N B i).2 ≤ 0 := h
      rw [if_pos h] at t
      exact t
    · rename_i h
      have h : ¬ lg_cmp (plo N B i (fun _ => false)) (rrs N B i).2 ≤ 0 := h
      rw [if_neg h] at t
      exact t
theorem r_rar (hv : iv N B A V tx cu) (ex : Int32 → Option Int32) : ∀ k i n, i + k = N 0 → k < n → fX9_rarest_L9 A V ex n (rrs N B i).1 (rrs N B i).2 (nI i) = ex (rrs N B (N 0)).1 := by
  obtain ⟨⟨s1, s2, s3⟩, -⟩ := id hv.1
  intro k
  induction k with
  | zero =>
    intro i n hi hn
    obtain ⟨n, rfl⟩ : ∃ m, n = m + 1 := ⟨n - 1, by omega⟩
    have : i = N 0 := by omega
    rw [fX9_rarest_L9, this]
    simp (disch := omega) only [ltI, leI, eqI, tI, tI1, ti_0, ti_1, ti_2, ti_3, ti_4, ti_5, ti_6, ti_7, ti_8, ti_9, ti_10, ti_11, ti_12, ti_14, ti_18, ti_30, ti_39, ti_40, ti_41, ti_45, ti_50, ti_59, ti_97, ti_99, ti_100, ti_122, ti_160, ti_243, ti_255, ti_399, ti_999, ti_1000, ti_1024, ti_99999, tm_1, tm_2, tm_3, tm_4, tm_5, tm_7, tm_11, tm_12, tm_13, tm_14, tm_100, if_pos, if_neg, if_true, if_false, bC_in, bI_s, bS_s, bX_s, bY_s, sO, tC, s2]
  | succ k ih =>
    intro i n hi hn
    obtain ⟨n, rfl⟩ : ∃ m, n = m + 1 := ⟨n - 1, by omega⟩
    have t := ih (i + 1) n (by omega) (by omega)
    rw [fX9_rarest_L9, z5, r_lost hv (by omega)]
    rw [if_neg (by simp (disch := omega) only [ltI, leI, eqI, tI, tI1, ti_0, ti_1, ti_2, ti_3, ti_4, ti_5, ti_6, ti_7, ti_8, ti_9, ti_10, ti_11, ti_12, ti_14, ti_18, ti_30, ti_39, ti_40, ti_41, ti_45, ti_50, ti_59, ti_97, ti_99, ti_100, ti_122, ti_160, ti_243, ti_255, ti_399, ti_999, ti_1000, ti_1024, ti_99999, tm_1, tm_2, tm_3, tm_4, tm_5, tm_7, tm_11, tm_12, tm_13, tm_14, tm_100, if_pos, if_neg, if_true, if_false, bC_in, bI_s, bS_s, bX_s, bY_s, sO, tC, s2]; omega), bI_s, bI_s]
    rw [rrs] at t
    rw [sO]
    split
    · rename_i h
      have h : lg_cmp (plo N B i (fun _ => false)) (rrs N B i).2 ≤ 0 := h
      rw [if_pos h] at t
      exact t
    · rename_i h
      have h : ¬ lg_cmp (plo N B i (fun _ => false)) (rrs N B i).2 ≤ 0 := h
      rw [if_neg h] at t
      exact t
end RA
theorem fu_gt {k : Nat} (h : k < 5000) : k < FU := h
theorem op_rarest {LL : Nat} {xs : Nat → Int32} {d : Nat} (hd : 63 ≤ d) : iv_op (xk_ro LL xs) d 101 201 [] := by
  refine op_mk0 (fc := fX8_rarest) (fm := fX9_rarest) (fun tx A V cu r e => sX8_rarest (by omega) e) (fun tx A V cu r e => sX9_rarest (by omega) e) ?_
  intro N B A V tx cu hv
  obtain ⟨⟨s1, s2, s3⟩, -⟩ := id hv.1
  exact ⟨_, c_rar hv some (N 0) 0 FU (by omega) (fu_gt (by omega)), r_rar hv some (N 0) 0 FU (by omega) (fu_gt (by omega))⟩
/-! keep: the fewest, of like ones the least -/
def bst (ok : Nat → Bool) : Nat → Option Nat
  | 0 => none
  | c + 1 => match bst ok c with
    | none => if ok c = true then some c else none
    | some b => if ok c = true ∧ ct (bt c) < ct (bt b) then some c else some b
theorem bst_p (ok : Nat → Bool) : ∀ M, (∀ b, bst ok M = some b → b < M ∧ ok b = true ∧ ∀ c, c < M → ok c = true → ct (bt b) < ct (bt c) ∨ (ct (bt b) = ct (bt c) ∧ b ≤ c)) ∧ (bst ok M = none → ∀ c, c < M → ok c = false)
  | 0 => ⟨fun b h => by (cases h), fun _ c hc => by omega⟩
  | M + 1 => by
    obtain ⟨i1, i2⟩ := bst_p ok M
    rw [bst]
    cases hb : bst ok M with
    | none =>
      have i2 := i2 hb
      dsimp only
      by_cases h : ok M = true
      · rw [if_pos h]
        refine ⟨fun b e => ?_, fun e => by cases e⟩
        cases e
        refine ⟨by omega, h, fun c hc hk => ?_⟩
        by_cases q : c = M
        · subst q; exact Or.inr ⟨rfl, Nat.le_refl _⟩
        · rw [i2 c (by omega)] at hk; cases hk
      · rw [if_neg h]
        refine ⟨fun b e => by (cases e), fun _ c hc => ?_⟩
        by_cases q : c = M
        · subst q; simpa using h
        · exact i2 c (by omega)
    | some b0 =>
      obtain ⟨j1, j2, j3⟩ := i1 b0 hb
      dsimp only
      by_cases h : ok M = true ∧ ct (bt M) < ct (bt b0)
      · rw [if_pos h]
        refine ⟨fun b e => ?_, fun e => by cases e⟩
        cases e
        refine ⟨by omega, h.1, fun c hc hk => ?_⟩
        by_cases q : c = M
        · subst q; exact Or.inr ⟨rfl, Nat.le_refl _⟩
        · left
          rcases j3 c (by omega) hk with q2 | q2 <;> omega
      · rw [if_neg h]
        refine ⟨fun b e => ?_, fun e => by cases e⟩
        cases e
        refine ⟨by omega, j2, fun c hc hk => ?_⟩
        by_cases q : c = M
        · subst q
          have : ¬ ct (bt c) < ct (bt b0) := fun z => h ⟨hk, z⟩
          omega
        · exact j3 c (by omega) hk
def ob : Option Nat → Int32
  | none => -1
  | some b => nI b
theorem m_cnt_c {c : Nat} (h : c < 32) (A V : xM) : fJ6_bitCount_0f7a4 (nI c) A V = some (nI (ct (bt c))) := by
  have := m_cnt (bt c) A V
  rw [bt_mk c h] at this
  exact this
theorem m_size_c {c : Nat} (h : c < 32) (A V : xM) : fX9_size (nI c) A V = some (nI (ct (bt c))) := by
  have := m_size (bt c) A V
  rw [bt_mk c h] at this
  exact this
section KE
variable {N : Nat → Nat} {B : Nat → Nat → Nat} {A V : xM} {tx : List xh_T} {cu : Value}
def kok (N : Nat → Nat) (B : Nat → Nat → Nat) (s : Nat) (l : Int32) (c : Nat) : Bool := !decide (0 < lg_cmp (plo N B s (bt c)) (l.toInt64 * 1000000))
theorem kok_t {s : Nat} {l : Int32} {c : Nat} (h : kok N B s l c = true) : ¬ 0 < lg_cmp (plo N B s (bt c)) (l.toInt64 * 1000000) := by simpa [kok] using h
theorem kok_f {s : Nat} {l : Int32} {c : Nat} (h : ¬ kok N B s l c = true) : 0 < lg_cmp (plo N B s (bt c)) (l.toInt64 * 1000000) := by simpa [kok] using h
theorem c_keep (hv : iv N B A V tx cu) {s : Nat} (hs : s < 6) (l : Int32) (ex : Int32 → Option Int32) : ∀ k c n, c + k = 2 ^ N 1 → k < n → fX8_keep_L30 (nI s) l A V ex n (ob (bst (kok N B s l) c)) (nI c) = ex (ob (bst (kok N B s l) (2 ^ N 1))) := by
  obtain ⟨-, ⟨p1, p2, p3⟩, -⟩ := id hv.1
  have h32 := p2_32 _ p3
  have hq := sh_q (N 1) (by omega)
  have hpos := Nat.two_pow_pos (N 1)
  generalize 2 ^ N 1 = M at *
  intro k
  induction k with
  | zero =>
    intro c n hi hn
    obtain ⟨n, rfl⟩ : ∃ m, n = m + 1 := ⟨n - 1, by omega⟩
    have : c = M := by omega
    rw [fX8_keep_L30, this, p1, hq, if_pos (by simp (disch := omega) only [ltI, leI, eqI, tI, tI1, ti_0, ti_1, ti_2, ti_3, ti_4, ti_5, ti_6, ti_7, ti_8, ti_9, ti_10, ti_11, ti_12, ti_14, ti_18, ti_30, ti_39, ti_40, ti_41, ti_45, ti_50, ti_59, ti_97, ti_99, ti_100, ti_122, ti_160, ti_243, ti_255, ti_399, ti_999, ti_1000, ti_1024, ti_99999, tm_1, tm_2, tm_3, tm_4, tm_5, tm_7, tm_11, tm_12, tm_13, tm_14, tm_100, if_pos, if_neg, if_true, if_false, bC_in, bI_s, bS_s, bX_s, bY_s, sO, tC]; omega)]
  | succ k ih =>
    intro c n hi hn
    obtain ⟨n, rfl⟩ : ∃ m, n = m + 1 := ⟨n - 1, by omega⟩
    have t := ih (c + 1) n (by omega) (by omega)
    rw [bst] at t
    rw [fX8_keep_L30, p1, hq, if_neg (by simp (disch := omega) only [ltI, leI, eqI, tI, tI1, ti_0, ti_1, ti_2, ti_3, ti_4, ti_5, ti_6, ti_7, ti_8, ti_9, ti_10, ti_11, ti_12, ti_14, ti_18, ti_30, ti_39, ti_40, ti_41, ti_45, ti_50, ti_59, ti_97, ti_99, ti_100, ti_122, ti_160, ti_243, ti_255, ti_399, ti_999, ti_1000, ti_1024, ti_99999, tm_1, tm_2, tm_3, tm_4, tm_5, tm_7, tm_11, tm_12, tm_13, tm_14, tm_100, if_pos, if_neg, if_true, if_false, bC_in, bI_s, bS_s, bX_s, bY_s, sO, tC]; omega), c_lost_c hv hs (by omega), m_cnt_c (by omega), sO]
    simp only [bI_s]
    cases hb : bst (kok N B s l) c with
    | none =>
      rw [hb] at t
      dsimp only at t
      rw [show ob none = -1 from rfl, if_pos rfl]
      by_cases h : kok N B s l c = true
      · rw [if_pos h] at t
        rw [if_neg (kok_t h)]
        exact t
      · rw [if_neg h] at t
        rw [if_pos (kok_f h)]
        exact t
    | some b =>
      have hbl := ((bst_p (kok N B s l) c).1 b hb).1
      rw [hb] at t
      dsimp only at t
      have c1 := ct_le (bt b)
      have c2 := ct_le (bt c)
      rw [show ob (some b) = nI b from rfl]
      rw [if_neg (by simp (disch := omega) only [ltI, leI, eqI, tI, tI1, ti_0, ti_1, ti_2, ti_3, ti_4, ti_5, ti_6, ti_7, ti_8, ti_9, ti_10, ti_11, ti_12, ti_14, ti_18, ti_30, ti_39, ti_40, ti_41, ti_45, ti_50, ti_59, ti_97, ti_99, ti_100, ti_122, ti_160, ti_243, ti_255, ti_399, ti_999, ti_1000, ti_1024, ti_99999, tm_1, tm_2, tm_3, tm_4, tm_5, tm_7, tm_11, tm_12, tm_13, tm_14, tm_100, if_pos, if_neg, if_true, if_false, bC_in, bI_s, bS_s, bX_s, bY_s, sO, tC]; omega), m_cnt_c (by omega)]
      simp only [bI_s]
      by_cases h : ct (bt c) < ct (bt b)
      · rw [if_neg (by simp (disch := omega) only [ltI, leI, eqI, tI, tI1, ti_0, ti_1, ti_2, ti_3, ti_4, ti_5, ti_6, ti_7, ti_8, ti_9, ti_10, ti_11, ti_12, ti_14, ti_18, ti_30, ti_39, ti_40, ti_41, ti_45, ti_50, ti_59, ti_97, ti_99, ti_100, ti_122, ti_160, ti_243, ti_255, ti_399, ti_999, ti_1000, ti_1024, ti_99999, tm_1, tm_2, tm_3, tm_4, tm_5, tm_7, tm_11, tm_12, tm_13, tm_14, tm_100, if_pos, if_neg, if_true, if_false, bC_in, bI_s, bS_s, bX_s, bY_s, sO, tC]; omega)]
        by_cases h2 : kok N B s l c = true
        · rw [if_pos ⟨h2, h⟩] at t
          rw [if_neg (kok_t h2)]
          exact t
        · rw [if_neg (fun q => h2 q.1)] at t
          rw [if_pos (kok_f h2)]
          exact t
      · rw [if_neg (fun q => h q.2)] at t
        rw [if_pos (by simp (disch := omega) only [ltI, leI, eqI, tI, tI1, ti_0, ti_1, ti_2, ti_3, ti_4, ti_5, ti_6, ti_7, ti_8, ti_9, ti_10, ti_11, ti_12, ti_14, ti_18, ti_30, ti_39, ti_40, ti_41, ti_45, ti_50, ti_59, ti_97, ti_99, ti_100, ti_122, ti_160, ti_243, ti_255, ti_399, ti_999, ti_1000, ti_1024, ti_99999, tm_1, tm_2, tm_3, tm_4, tm_5, tm_7, tm_11, tm_12, tm_13, tm_14, tm_100, if_pos, if_neg, if_true, if_false, bC_in, bI_s, bS_s, bX_s, bY_s, sO, tC]; omega)]
        exact t
theorem r_keep1 (hv : iv N B A V tx cu) {s : Nat} (hs : s < 6) (l : Int32) (z : Nat) (hz : z ≤ 6) (ex : Option Int32) : ∀ k c n, c + k = 2 ^ N 1 → k < n → (∀ c', c ≤ c' → c' < 2 ^ N 1 → ¬ (ct (bt c') = z ∧ kok N B s l c' = true)) → fX9_keep_L38 (nI s) l (nI z) A V ex n (nI c) = ex := by
  obtain ⟨-, ⟨p1, p2, p3⟩, -⟩ := id hv.1
  have h32 := p2_32 _ p3
  have hq := sh_p (N 1) (by omega)
  intro k
  induction k with
  | zero =>
    intro c n hi hn _
    obtain ⟨n, rfl⟩ : ∃ m, n = m + 1 := ⟨n - 1, by omega⟩
    have : c = 2 ^ N 1 := by omega
    rw [fX9_keep_L38, this, p2, hq]
    simp (disch := omega) only [ltI, leI, eqI, tI, tI1, ti_0, ti_1, ti_2, ti_3, ti_4, ti_5, ti_6, ti_7, ti_8, ti_9, ti_10, ti_11, ti_12, ti_14, ti_18, ti_30, ti_39, ti_40, ti_41, ti_45, ti_50, ti_59, ti_97, ti_99, ti_100, ti_122, ti_160, ti_243, ti_255, ti_399, ti_999, ti_1000, ti_1024, ti_99999, tm_1, tm_2, tm_3, tm_4, tm_5, tm_7, tm_11, tm_12, tm_13, tm_14, tm_100, if_pos, if_neg, if_true, if_false, bC_in, bI_s, bS_s, bX_s, bY_s, sO, tC]
  | succ k ih =>
    intro c n hi hn hno
    obtain ⟨n, rfl⟩ : ∃ m, n = m + 1 := ⟨n - 1, by omega⟩
    have t := ih (c + 1) n (by omega) (by omega) (fun c' h1 h2 => hno c' (by omega) h2)
    have c2 := ct_le (bt c)
    rw [fX9_keep_L38, p2, hq, if_neg (by simp (disch := omega) only [ltI, leI, eqI, tI, tI1, ti_0, ti_1, ti_2, ti_3, ti_4, ti_5, ti_6, ti_7, ti_8, ti_9, ti_10, ti_11, ti_12, ti_14, ti_18, ti_30, ti_39, ti_40, ti_41, ti_45, ti_50, ti_59, ti_97, ti_99, ti_100, ti_122, ti_160, ti_243, ti_255, ti_399, ti_999, ti_1000, ti_1024, ti_99999, tm_1, tm_2, tm_3, tm_4, tm_5, tm_7, tm_11, tm_12, tm_13, tm_14, tm_100, if_pos, if_neg, if_true, if_false, bC_in, bI_s, bS_s, bX_s, bY_s, sO, tC]; omega), m_size_c (by omega), r_lost_c hv hs (by omega), sO]
    simp only [bI_s]
    by_cases h : ct (bt c) = z
    · rw [if_pos (by rw [h]), if_pos (kok_f (fun q => hno c (Nat.le_refl _) (by omega) ⟨h, q⟩))]
      exact t
    · rw [if_neg (by simp (disch := omega) only [ltI, leI, eqI, tI, tI1, ti_0, ti_1, ti_2, ti_3, ti_4, ti_5, ti_6, ti_7, ti_8, ti_9, ti_10, ti_11, ti_12, ti_14, ti_18, ti_30, ti_39, ti_40, ti_41, ti_45, ti_50, ti_59, ti_97, ti_99, ti_100, ti_122, ti_160, ti_243, ti_255, ti_399, ti_999, ti_1000, ti_1024, ti_99999, tm_1, tm_2, tm_3, tm_4, tm_5, tm_7, tm_11, tm_12, tm_13, tm_14, tm_100, if_pos, if_neg, if_true, if_false, bC_in, bI_s, bS_s, bX_s, bY_s, sO, tC]; omega)]
      exact t
theorem r_keep2 (hv : iv N B A V tx cu) {s : Nat} (hs : s < 6) (l : Int32) (z : Nat) (hz : z ≤ 6) (ex : Option Int32) {b : Nat} (hb : b < 2 ^ N 1) (hbz : ct (bt b) = z) (hbk : kok N B s l b = true) : ∀ k c n, c + k = b → k < n → (∀ c', c ≤ c' → c' < b → ¬ (ct (bt c') = z ∧ kok N B s l c' = true)) → fX9_keep_L38 (nI s) l (nI z) A V ex n (nI c) = some (nI b) := by
  obtain ⟨-, ⟨p1, p2, p3⟩, -⟩ := id hv.1
  have h32 := p2_32 _ p3
  have hq := sh_p (N 1) (by omega)
  intro k
  induction k with
  | zero =>
    intro c n hi hn _
    obtain ⟨n, rfl⟩ : ∃ m, n = m + 1 := ⟨n - 1, by omega⟩
    have : c = b := by omega
    rw [fX9_keep_L38, this, p2, hq, if_neg (by simp (disch := omega) only [ltI, leI, eqI, tI, tI1, ti_0, ti_1, ti_2, ti_3, ti_4, ti_5, ti_6, ti_7, ti_8, ti_9, ti_10, ti_11, ti_12, ti_14, ti_18, ti_30, ti_39, ti_40, ti_41, ti_45, ti_50, ti_59, ti_97, ti_99, ti_100, ti_122, ti_160, ti_243, ti_255, ti_399, ti_999, ti_1000, ti_1024, ti_99999, tm_1, tm_2, tm_3, tm_4, tm_5, tm_7, tm_11, tm_12, tm_13, tm_14, tm_100, if_pos, if_neg, if_true, if_false, bC_in, bI_s, bS_s, bX_s, bY_s, sO, tC]; omega), m_size_c (by omega), r_lost_c hv hs (by omega)]
    simp only [bI_s]
    rw [if_pos (by rw [hbz]), if_neg (kok_t hbk)]
  | succ k ih =>
    intro c n hi hn hno
    obtain ⟨n, rfl⟩ : ∃ m, n = m + 1 := ⟨n - 1, by omega⟩
    have t := ih (c + 1) n (by omega) (by omega) (fun c' h1 h2 => hno c' (by omega) h2)
    have c2 := ct_le (bt c)
    rw [fX9_keep_L38, p2, hq, if_neg (by simp (disch := omega) only [ltI, leI, eqI, tI, tI1, ti_0, ti_1, ti_2, ti_3, ti_4, ti_5, ti_6, ti_7, ti_8, ti_9, ti_10, ti_11, ti_12, ti_14, ti_18, ti_30, ti_39, ti_40, ti_41, ti_45, ti_50, ti_59, ti_97, ti_99, ti_100, ti_122, ti_160, ti_243, ti_255, ti_399, ti_999, ti_1000, ti_1024, ti_99999, tm_1, tm_2, tm_3, tm_4, tm_5, tm_7, tm_11, tm_12, tm_13, tm_14, tm_100, if_pos, if_neg, if_true, if_false, bC_in, bI_s, bS_s, bX_s, bY_s, sO, tC]; omega), m_size_c (by omega), r_lost_c hv hs (by omega), sO]
    simp only [bI_s]
    by_cases h : ct (bt c) = z
    · rw [if_pos (by rw [h]), if_pos (kok_f (fun q => hno c (Nat.le_refl _) (by omega) ⟨h, q⟩))]
      exact t
    · rw [if_neg (by simp (disch := omega) only [ltI, leI, eqI, tI, tI1, ti_0, ti_1, ti_2, ti_3, ti_4, ti_5, ti_6, ti_7, ti_8, ti_9, ti_10, ti_11, ti_12, ti_14, ti_18, ti_30, ti_39, ti_40, ti_41, ti_45, ti_50, ti_59, ti_97, ti_99, ti_100, ti_122, ti_160, ti_243, ti_255, ti_399, ti_999, ti_1000, ti_1024, ti_99999, tm_1, tm_2, tm_3, tm_4, tm_5, tm_7, tm_11, tm_12, tm_13, tm_14, tm_100, if_pos, if_neg, if_true, if_false, bC_in, bI_s, bS_s, bX_s, bY_s, sO, tC]; omega)]
      exact t
theorem ct_n {n c : Nat} (hn : n ≤ 5) (hc : c < 2 ^ n) : ct (bt c) ≤ n := by
  have : ∀ n, n < 6 → ∀ c, c < 2 ^ n → ct (bt c) ≤ n := by decide +kernel
  exact this n (by omega) c hc
theorem r_keep (hv : iv N B A V tx cu) {s : Nat} (hs : s < 6) (l : Int32) : ∀ k z n, z + k = N 1 + 1 → k < n → (∀ c, c < 2 ^ N 1 → kok N B s l c = true → z ≤ ct (bt c)) → fX9_keep_L27 (nI s) l A V (some (-1)) n (nI z) = some (ob (bst (kok N B s l) (2 ^ N 1))) := by
  obtain ⟨-, ⟨p1, p2, p3⟩, -⟩ := id hv.1
  have h32 := p2_32 _ p3
  obtain ⟨b1, b2⟩ := bst_p (kok N B s l) (2 ^ N 1)
  intro k
  induction k with
  | zero =>
    intro z n hi hn hz
    obtain ⟨n, rfl⟩ : ∃ m, n = m + 1 := ⟨n - 1, by omega⟩
    rw [fX9_keep_L27, p2, if_pos (by simp (disch := omega) only [ltI, leI, eqI, tI, tI1, ti_0, ti_1, ti_2, ti_3, ti_4, ti_5, ti_6, ti_7, ti_8, ti_9, ti_10, ti_11, ti_12, ti_14, ti_18, ti_30, ti_39, ti_40, ti_41, ti_45, ti_50, ti_59, ti_97, ti_99, ti_100, ti_122, ti_160, ti_243, ti_255, ti_399, ti_999, ti_1000, ti_1024, ti_99999, tm_1, tm_2, tm_3, tm_4, tm_5, tm_7, tm_11, tm_12, tm_13, tm_14, tm_100, if_pos, if_neg, if_true, if_false, bC_in, bI_s, bS_s, bX_s, bY_s, sO, tC]; omega)]
    cases hb : bst (kok N B s l) (2 ^ N 1) with
    | none => rfl
    | some b =>
      obtain ⟨q1, q2, -⟩ := b1 b hb
      have := hz b q1 q2
      have := ct_n p3 q1
      omega
  | succ k ih =>
    intro z n hi hn hz
    obtain ⟨n, rfl⟩ : ∃ m, n = m + 1 := ⟨n - 1, by omega⟩
    rw [fX9_keep_L27, p2, if_neg (by simp (disch := omega) only [ltI, leI, eqI, tI, tI1, ti_0, ti_1, ti_2, ti_3, ti_4, ti_5, ti_6, ti_7, ti_8, ti_9, ti_10, ti_11, ti_12, ti_14, ti_18, ti_30, ti_39, ti_40, ti_41, ti_45, ti_50, ti_59, ti_97, ti_99, ti_100, ti_122, ti_160, ti_243, ti_255, ti_399, ti_999, ti_1000, ti_1024, ti_99999, tm_1, tm_2, tm_3, tm_4, tm_5, tm_7, tm_11, tm_12, tm_13, tm_14, tm_100, if_pos, if_neg, if_true, if_false, bC_in, bI_s, bS_s, bX_s, bY_s, sO, tC]; omega), sO]
    by_cases h : ∃ c, c < 2 ^ N 1 ∧ ct (bt c) = z ∧ kok N B s l c = true
    · obtain ⟨c0, k1, k2, k3⟩ := h
      cases hb : bst (kok N B s l) (2 ^ N 1) with
      | none => rw [b2 hb c0 k1] at k3; cases k3
      | some b =>
        obtain ⟨q1, q2, q3⟩ := b1 b hb
        have hbz : ct (bt b) = z := by
          have := hz b q1 q2
          rcases q3 c0 k1 k3 with q | q <;> omega
        refine r_keep2 hv hs l z (by omega) _ q1 hbz q2 b 0 FU (by omega) (fu_gt (by omega)) ?_
        rintro c' - h2 ⟨h3, h4⟩
        rcases q3 c' (by omega) h4 with q | q <;> omega
    · refine Eq.trans (r_keep1 hv hs l z (by omega) _ (2 ^ N 1) 0 FU (by omega) (fu_gt (by omega)) (fun c' _ h2 h3 => h ⟨c', h2, h3⟩)) ?_
      refine ih (z + 1) n (by omega) (by omega) (fun c h1 h2 => ?_)
      have := hz c h1 h2
      have : ct (bt c) ≠ z := fun q => h ⟨c, h1, q, h2⟩
      omega
end KE
theorem op_keep {LL : Nat} {xs : Nat → Int32} {d : Nat} (hd : 63 ≤ d) (a b : Int32) : iv_op (xk_ro LL xs) d 100 200 [.int a, .int b] := by
  refine op_mk0 (fc := fX8_keep a b) (fm := fX9_keep a b) (fun tx A V cu r e => sX8_keep (by omega) e) (fun tx A V cu r e => sX9_keep (by omega) e) ?_
  intro N B A V tx cu hv
  obtain ⟨⟨s1, s2, s3⟩, ⟨p1, p2, p3⟩, -⟩ := id hv.1
  have h32 := p2_32 _ p3
  unfold fX8_keep fX9_keep
  rw [s1, s2]
  rcases ix3 a (N 0) (by omega) with h | h | ⟨j, hj, rfl⟩
  · refine ⟨_, if_pos (by simp (disch := omega) only [ltI, leI, eqI, tI, tI1, ti_0, ti_1, ti_2, ti_3, ti_4, ti_5, ti_6, ti_7, ti_8, ti_9, ti_10, ti_11, ti_12, ti_14, ti_18, ti_30, ti_39, ti_40, ti_41, ti_45, ti_50, ti_59, ti_97, ti_99, ti_100, ti_122, ti_160, ti_243, ti_255, ti_399, ti_999, ti_1000, ti_1024, ti_99999, tm_1, tm_2, tm_3, tm_4, tm_5, tm_7, tm_11, tm_12, tm_13, tm_14, tm_100, if_pos, if_neg, if_true, if_false, bC_in, bI_s, bS_s, bX_s, bY_s, sO, tC]; exact h), if_pos (by simp (disch := omega) only [ltI, leI, eqI, tI, tI1, ti_0, ti_1, ti_2, ti_3, ti_4, ti_5, ti_6, ti_7, ti_8, ti_9, ti_10, ti_11, ti_12, ti_14, ti_18, ti_30, ti_39, ti_40, ti_41, ti_45, ti_50, ti_59, ti_97, ti_99, ti_100, ti_122, ti_160, ti_243, ti_255, ti_399, ti_999, ti_1000, ti_1024, ti_99999, tm_1, tm_2, tm_3, tm_4, tm_5, tm_7, tm_11, tm_12, tm_13, tm_14, tm_100, if_pos, if_neg, if_true, if_false, bC_in, bI_s, bS_s, bX_s, bY_s, sO, tC]; exact h)⟩
  · refine ⟨-5, ?_, ?_⟩
    · simp (disch := omega) only [ltI, leI, eqI, tI, tI1, ti_0, ti_1, ti_2, ti_3, ti_4, ti_5, ti_6, ti_7, ti_8, ti_9, ti_10, ti_11, ti_12, ti_14, ti_18, ti_30, ti_39, ti_40, ti_41, ti_45, ti_50, ti_59, ti_97, ti_99, ti_100, ti_122, ti_160, ti_243, ti_255, ti_399, ti_999, ti_1000, ti_1024, ti_99999, tm_1, tm_2, tm_3, tm_4, tm_5, tm_7, tm_11, tm_12, tm_13, tm_14, tm_100, if_pos, if_neg, if_true, if_false, bC_in, bI_s, bS_s, bX_s, bY_s, sO, tC]
    · simp (disch := omega) only [ltI, leI, eqI, tI, tI1, ti_0, ti_1, ti_2, ti_3, ti_4, ti_5, ti_6, ti_7, ti_8, ti_9, ti_10, ti_11, ti_12, ti_14, ti_18, ti_30, ti_39, ti_40, ti_41, ti_45, ti_50, ti_59, ti_97, ti_99, ti_100, ti_122, ti_160, ti_243, ti_255, ti_399, ti_999, ti_1000, ti_1024, ti_99999, tm_1, tm_2, tm_3, tm_4, tm_5, tm_7, tm_11, tm_12, tm_13, tm_14, tm_100, if_pos, if_neg, if_true, if_false, bC_in, bI_s, bS_s, bX_s, bY_s, sO, tC]
  by_cases h1 : b.toInt < 0
  · refine ⟨-7, ?_, ?_⟩
    · simp (disch := omega) only [ltI, leI, eqI, tI, tI1, ti_0, ti_1, ti_2, ti_3, ti_4, ti_5, ti_6, ti_7, ti_8, ti_9, ti_10, ti_11, ti_12, ti_14, ti_18, ti_30, ti_39, ti_40, ti_41, ti_45, ti_50, ti_59, ti_97, ti_99, ti_100, ti_122, ti_160, ti_243, ti_255, ti_399, ti_999, ti_1000, ti_1024, ti_99999, tm_1, tm_2, tm_3, tm_4, tm_5, tm_7, tm_11, tm_12, tm_13, tm_14, tm_100, if_pos, if_neg, if_true, if_false, bC_in, bI_s, bS_s, bX_s, bY_s, sO, tC]
    · simp (disch := omega) only [ltI, leI, eqI, tI, tI1, ti_0, ti_1, ti_2, ti_3, ti_4, ti_5, ti_6, ti_7, ti_8, ti_9, ti_10, ti_11, ti_12, ti_14, ti_18, ti_30, ti_39, ti_40, ti_41, ti_45, ti_50, ti_59, ti_97, ti_99, ti_100, ti_122, ti_160, ti_243, ti_255, ti_399, ti_999, ti_1000, ti_1024, ti_99999, tm_1, tm_2, tm_3, tm_4, tm_5, tm_7, tm_11, tm_12, tm_13, tm_14, tm_100, if_pos, if_neg, if_true, if_false, bC_in, bI_s, bS_s, bX_s, bY_s, sO, tC]
  by_cases h2 : 1000 < b.toInt
  · refine ⟨-7, ?_, ?_⟩
    · simp (disch := omega) only [ltI, leI, eqI, tI, tI1, ti_0, ti_1, ti_2, ti_3, ti_4, ti_5, ti_6, ti_7, ti_8, ti_9, ti_10, ti_11, ti_12, ti_14, ti_18, ti_30, ti_39, ti_40, ti_41, ti_45, ti_50, ti_59, ti_97, ti_99, ti_100, ti_122, ti_160, ti_243, ti_255, ti_399, ti_999, ti_1000, ti_1024, ti_99999, tm_1, tm_2, tm_3, tm_4, tm_5, tm_7, tm_11, tm_12, tm_13, tm_14, tm_100, if_pos, if_neg, if_true, if_false, bC_in, bI_s, bS_s, bX_s, bY_s, sO, tC]
    · simp (disch := omega) only [ltI, leI, eqI, tI, tI1, ti_0, ti_1, ti_2, ti_3, ti_4, ti_5, ti_6, ti_7, ti_8, ti_9, ti_10, ti_11, ti_12, ti_14, ti_18, ti_30, ti_39, ti_40, ti_41, ti_45, ti_50, ti_59, ti_97, ti_99, ti_100, ti_122, ti_160, ti_243, ti_255, ti_399, ti_999, ti_1000, ti_1024, ti_99999, tm_1, tm_2, tm_3, tm_4, tm_5, tm_7, tm_11, tm_12, tm_13, tm_14, tm_100, if_pos, if_neg, if_true, if_false, bC_in, bI_s, bS_s, bX_s, bY_s, sO, tC]
  refine ⟨ob (bst (kok N B j b) (2 ^ N 1)), ?_, ?_⟩
  · simp (disch := omega) only [ltI, leI, eqI, tI, tI1, ti_0, ti_1, ti_2, ti_3, ti_4, ti_5, ti_6, ti_7, ti_8, ti_9, ti_10, ti_11, ti_12, ti_14, ti_18, ti_30, ti_39, ti_40, ti_41, ti_45, ti_50, ti_59, ti_97, ti_99, ti_100, ti_122, ti_160, ti_243, ti_255, ti_399, ti_999, ti_1000, ti_1024, ti_99999, tm_1, tm_2, tm_3, tm_4, tm_5, tm_7, tm_11, tm_12, tm_13, tm_14, tm_100, if_pos, if_neg, if_true, if_false, bC_in, bI_s, bS_s, bX_s, bY_s, sO, tC]
    exact c_keep hv (by omega) b some (2 ^ N 1) 0 FU (by omega) (fu_gt (by omega))
  · simp (disch := omega) only [ltI, leI, eqI, tI, tI1, ti_0, ti_1, ti_2, ti_3, ti_4, ti_5, ti_6, ti_7, ti_8, ti_9, ti_10, ti_11, ti_12, ti_14, ti_18, ti_30, ti_39, ti_40, ti_41, ti_45, ti_50, ti_59, ti_97, ti_99, ti_100, ti_122, ti_160, ti_243, ti_255, ti_399, ti_999, ti_1000, ti_1024, ti_99999, tm_1, tm_2, tm_3, tm_4, tm_5, tm_7, tm_11, tm_12, tm_13, tm_14, tm_100, if_pos, if_neg, if_true, if_false, bC_in, bI_s, bS_s, bX_s, bY_s, sO, tC]
    exact r_keep hv (by omega) b (N 1 + 1) 0 FU (by omega) (fu_gt (by omega)) (fun _ _ _ => Nat.zero_le _)
/-! taken -/
def isk (k w : Nat) : Bool := w == 0 || w == k || (w == 1 && k == 2) || (w == 4 && k == 5)
theorem isof_z : ∀ k, k < 6 → ∀ w, w < 7 → fX2_isOf_L10 (nI w) (fun _ _ => 0) (fun _ _ => 0) (some 0) FU (nI k) 0 = some (nI (isk k w).toNat) := by decide +kernel
theorem isof_av (l2 : Int32) (A V A' V' : xM) (ex : Option Int32) : ∀ n l3 l4, fX2_isOf_L10 l2 A V ex n l3 l4 = fX2_isOf_L10 l2 A' V' ex n l3 l4 := by
  intro n
  induction n with
  | zero => intro l3 l4; rfl
  | succ n ih => intro l3 l4; rw [fX2_isOf_L10, fX2_isOf_L10, ih]
theorem op_taken {LL : Nat} {xs : Nat → Int32} {d : Nat} (hd : 62 ≤ d) (a b : Int32) : iv_op (xk_ro LL xs) d 110 215 [.int a, .int b] := by
  refine op_mk0 (fc := fX8_taken a b) (fm := fX9_taken a b) (fun tx A V cu r e => sX8_taken (by omega) e) (fun tx A V cu r e => sX9_taken (by omega) e) ?_
  intro N B A V tx cu hv
  obtain ⟨v1, v2, v3, v4, v5, -⟩ := id hv
  obtain ⟨⟨s1, s2, s3⟩, ⟨p1, p2, p3⟩, -⟩ := v1
  unfold fX8_taken fX9_taken fX2_isOf
  rw [s1, s2, p1, p2]
  rcases ix3 b 7 (by omega) with h | h | ⟨w, hw, rfl⟩
  · exact ⟨-2, by simp (disch := omega) only [ltI, leI, eqI, tI, tI1, ti_0, ti_1, ti_2, ti_3, ti_4, ti_5, ti_6, ti_7, ti_8, ti_9, ti_10, ti_11, ti_12, ti_14, ti_18, ti_30, ti_39, ti_40, ti_41, ti_45, ti_50, ti_59, ti_97, ti_99, ti_100, ti_122, ti_160, ti_243, ti_255, ti_399, ti_999, ti_1000, ti_1024, ti_99999, tm_1, tm_2, tm_3, tm_4, tm_5, tm_7, tm_11, tm_12, tm_13, tm_14, tm_100, if_pos, if_neg, if_true, if_false, bC_in, bI_s, bS_s, bX_s, bY_s, sO, tC], by simp (disch := omega) only [ltI, leI, eqI, tI, tI1, ti_0, ti_1, ti_2, ti_3, ti_4, ti_5, ti_6, ti_7, ti_8, ti_9, ti_10, ti_11, ti_12, ti_14, ti_18, ti_30, ti_39, ti_40, ti_41, ti_45, ti_50, ti_59, ti_97, ti_99, ti_100, ti_122, ti_160, ti_243, ti_255, ti_399, ti_999, ti_1000, ti_1024, ti_99999, tm_1, tm_2, tm_3, tm_4, tm_5, tm_7, tm_11, tm_12, tm_13, tm_14, tm_100, if_pos, if_neg, if_true, if_false, bC_in, bI_s, bS_s, bX_s, bY_s, sO, tC]⟩
  · exact ⟨-2, by simp (disch := omega) only [ltI, leI, eqI, tI, tI1, ti_0, ti_1, ti_2, ti_3, ti_4, ti_5, ti_6, ti_7, ti_8, ti_9, ti_10, ti_11, ti_12, ti_14, ti_18, ti_30, ti_39, ti_40, ti_41, ti_45, ti_50, ti_59, ti_97, ti_99, ti_100, ti_122, ti_160, ti_243, ti_255, ti_399, ti_999, ti_1000, ti_1024, ti_99999, tm_1, tm_2, tm_3, tm_4, tm_5, tm_7, tm_11, tm_12, tm_13, tm_14, tm_100, if_pos, if_neg, if_true, if_false, bC_in, bI_s, bS_s, bX_s, bY_s, sO, tC], by simp (disch := omega) only [ltI, leI, eqI, tI, tI1, ti_0, ti_1, ti_2, ti_3, ti_4, ti_5, ti_6, ti_7, ti_8, ti_9, ti_10, ti_11, ti_12, ti_14, ti_18, ti_30, ti_39, ti_40, ti_41, ti_45, ti_50, ti_59, ti_97, ti_99, ti_100, ti_122, ti_160, ti_243, ti_255, ti_399, ti_999, ti_1000, ti_1024, ti_99999, tm_1, tm_2, tm_3, tm_4, tm_5, tm_7, tm_11, tm_12, tm_13, tm_14, tm_100, if_pos, if_neg, if_true, if_false, bC_in, bI_s, bS_s, bX_s, bY_s, sO, tC]⟩
  rcases ix3 a 11 (by omega) with h | h | ⟨i, hi, rfl⟩
  · exact ⟨-12, by simp (disch := omega) only [ltI, leI, eqI, tI, tI1, ti_0, ti_1, ti_2, ti_3, ti_4, ti_5, ti_6, ti_7, ti_8, ti_9, ti_10, ti_11, ti_12, ti_14, ti_18, ti_30, ti_39, ti_40, ti_41, ti_45, ti_50, ti_59, ti_97, ti_99, ti_100, ti_122, ti_160, ti_243, ti_255, ti_399, ti_999, ti_1000, ti_1024, ti_99999, tm_1, tm_2, tm_3, tm_4, tm_5, tm_7, tm_11, tm_12, tm_13, tm_14, tm_100, if_pos, if_neg, if_true, if_false, bC_in, bI_s, bS_s, bX_s, bY_s, sO, tC], by simp (disch := omega) only [ltI, leI, eqI, tI, tI1, ti_0, ti_1, ti_2, ti_3, ti_4, ti_5, ti_6, ti_7, ti_8, ti_9, ti_10, ti_11, ti_12, ti_14, ti_18, ti_30, ti_39, ti_40, ti_41, ti_45, ti_50, ti_59, ti_97, ti_99, ti_100, ti_122, ti_160, ti_243, ti_255, ti_399, ti_999, ti_1000, ti_1024, ti_99999, tm_1, tm_2, tm_3, tm_4, tm_5, tm_7, tm_11, tm_12, tm_13, tm_14, tm_100, if_pos, if_neg, if_true, if_false, bC_in, bI_s, bS_s, bX_s, bY_s, sO, tC]⟩
  · exact ⟨-12, by simp (disch := omega) only [ltI, leI, eqI, tI, tI1, ti_0, ti_1, ti_2, ti_3, ti_4, ti_5, ti_6, ti_7, ti_8, ti_9, ti_10, ti_11, ti_12, ti_14, ti_18, ti_30, ti_39, ti_40, ti_41, ti_45, ti_50, ti_59, ti_97, ti_99, ti_100, ti_122, ti_160, ti_243, ti_255, ti_399, ti_999, ti_1000, ti_1024, ti_99999, tm_1, tm_2, tm_3, tm_4, tm_5, tm_7, tm_11, tm_12, tm_13, tm_14, tm_100, if_pos, if_neg, if_true, if_false, bC_in, bI_s, bS_s, bX_s, bY_s, sO, tC], by simp (disch := omega) only [ltI, leI, eqI, tI, tI1, ti_0, ti_1, ti_2, ti_3, ti_4, ti_5, ti_6, ti_7, ti_8, ti_9, ti_10, ti_11, ti_12, ti_14, ti_18, ti_30, ti_39, ti_40, ti_41, ti_45, ti_50, ti_59, ti_97, ti_99, ti_100, ti_122, ti_160, ti_243, ti_255, ti_399, ti_999, ti_1000, ti_1024, ti_99999, tm_1, tm_2, tm_3, tm_4, tm_5, tm_7, tm_11, tm_12, tm_13, tm_14, tm_100, if_pos, if_neg, if_true, if_false, bC_in, bI_s, bS_s, bX_s, bY_s, sO, tC]⟩
  by_cases h6 : i < 6
  · by_cases hs : i < N 0
    · have hn := (v4 i hs).1
      by_cases h7 : w = 6
      · exact ⟨A 135 i, by simp (disch := omega) only [ltI, leI, eqI, tI, tI1, ti_0, ti_1, ti_2, ti_3, ti_4, ti_5, ti_6, ti_7, ti_8, ti_9, ti_10, ti_11, ti_12, ti_14, ti_18, ti_30, ti_39, ti_40, ti_41, ti_45, ti_50, ti_59, ti_97, ti_99, ti_100, ti_122, ti_160, ti_243, ti_255, ti_399, ti_999, ti_1000, ti_1024, ti_99999, tm_1, tm_2, tm_3, tm_4, tm_5, tm_7, tm_11, tm_12, tm_13, tm_14, tm_100, if_pos, if_neg, if_true, if_false, bC_in, bI_s, bS_s, bX_s, bY_s, sO, tC, hn], by simp (disch := omega) only [ltI, leI, eqI, tI, tI1, ti_0, ti_1, ti_2, ti_3, ti_4, ti_5, ti_6, ti_7, ti_8, ti_9, ti_10, ti_11, ti_12, ti_14, ti_18, ti_30, ti_39, ti_40, ti_41, ti_45, ti_50, ti_59, ti_97, ti_99, ti_100, ti_122, ti_160, ti_243, ti_255, ti_399, ti_999, ti_1000, ti_1024, ti_99999, tm_1, tm_2, tm_3, tm_4, tm_5, tm_7, tm_11, tm_12, tm_13, tm_14, tm_100, if_pos, if_neg, if_true, if_false, bC_in, bI_s, bS_s, bX_s, bY_s, sO, tC]⟩
      · exact ⟨-13, by simp (disch := omega) only [ltI, leI, eqI, tI, tI1, ti_0, ti_1, ti_2, ti_3, ti_4, ti_5, ti_6, ti_7, ti_8, ti_9, ti_10, ti_11, ti_12, ti_14, ti_18, ti_30, ti_39, ti_40, ti_41, ti_45, ti_50, ti_59, ti_97, ti_99, ti_100, ti_122, ti_160, ti_243, ti_255, ti_399, ti_999, ti_1000, ti_1024, ti_99999, tm_1, tm_2, tm_3, tm_4, tm_5, tm_7, tm_11, tm_12, tm_13, tm_14, tm_100, if_pos, if_neg, if_true, if_false, bC_in, bI_s, bS_s, bX_s, bY_s, sO, tC], by simp (disch := omega) only [ltI, leI, eqI, tI, tI1, ti_0, ti_1, ti_2, ti_3, ti_4, ti_5, ti_6, ti_7, ti_8, ti_9, ti_10, ti_11, ti_12, ti_14, ti_18, ti_30, ti_39, ti_40, ti_41, ti_45, ti_50, ti_59, ti_97, ti_99, ti_100, ti_122, ti_160, ti_243, ti_255, ti_399, ti_999, ti_1000, ti_1024, ti_99999, tm_1, tm_2, tm_3, tm_4, tm_5, tm_7, tm_11, tm_12, tm_13, tm_14, tm_100, if_pos, if_neg, if_true, if_false, bC_in, bI_s, bS_s, bX_s, bY_s, sO, tC]⟩
    · exact ⟨-11, by simp (disch := omega) only [ltI, leI, eqI, tI, tI1, ti_0, ti_1, ti_2, ti_3, ti_4, ti_5, ti_6, ti_7, ti_8, ti_9, ti_10, ti_11, ti_12, ti_14, ti_18, ti_30, ti_39, ti_40, ti_41, ti_45, ti_50, ti_59, ti_97, ti_99, ti_100, ti_122, ti_160, ti_243, ti_255, ti_399, ti_999, ti_1000, ti_1024, ti_99999, tm_1, tm_2, tm_3, tm_4, tm_5, tm_7, tm_11, tm_12, tm_13, tm_14, tm_100, if_pos, if_neg, if_true, if_false, bC_in, bI_s, bS_s, bX_s, bY_s, sO, tC], by simp (disch := omega) only [ltI, leI, eqI, tI, tI1, ti_0, ti_1, ti_2, ti_3, ti_4, ti_5, ti_6, ti_7, ti_8, ti_9, ti_10, ti_11, ti_12, ti_14, ti_18, ti_30, ti_39, ti_40, ti_41, ti_45, ti_50, ti_59, ti_97, ti_99, ti_100, ti_122, ti_160, ti_243, ti_255, ti_399, ti_999, ti_1000, ti_1024, ti_99999, tm_1, tm_2, tm_3, tm_4, tm_5, tm_7, tm_11, tm_12, tm_13, tm_14, tm_100, if_pos, if_neg, if_true, if_false, bC_in, bI_s, bS_s, bX_s, bY_s, sO, tC]⟩
  · have e6 : nI i - 6 = nI (i - 6) := by rw [show (6 : Int32) = nI 6 from rfl, pk_sub (by omega)]
    rw [e6]
    by_cases hp : i - 6 < N 1
    · obtain ⟨⟨k1, k2, k3⟩, -⟩ := v5 _ hp
      have hz := isof_z (B 2 (i - 6)) (by omega) w hw
      rw [isof_av _ _ _ A V] at hz
      cases hk : isk (B 2 (i - 6)) w with
      | true =>
        rw [hk, nbt] at hz
        refine ⟨nI (i - 6), by simp (disch := omega) only [ltI, leI, eqI, tI, tI1, ti_0, ti_1, ti_2, ti_3, ti_4, ti_5, ti_6, ti_7, ti_8, ti_9, ti_10, ti_11, ti_12, ti_14, ti_18, ti_30, ti_39, ti_40, ti_41, ti_45, ti_50, ti_59, ti_97, ti_99, ti_100, ti_122, ti_160, ti_243, ti_255, ti_399, ti_999, ti_1000, ti_1024, ti_99999, tm_1, tm_2, tm_3, tm_4, tm_5, tm_7, tm_11, tm_12, tm_13, tm_14, tm_100, if_pos, if_neg, if_true, if_false, bC_in, bI_s, bS_s, bX_s, bY_s, sO, tC, k1, hz], ?_⟩
        simp only [isk, Bool.or_eq_true, Bool.and_eq_true, beq_iff_eq] at hk
        rcases hk with ((q | q) | q) | q
        · simp (disch := omega) only [ltI, leI, eqI, tI, tI1, ti_0, ti_1, ti_2, ti_3, ti_4, ti_5, ti_6, ti_7, ti_8, ti_9, ti_10, ti_11, ti_12, ti_14, ti_18, ti_30, ti_39, ti_40, ti_41, ti_45, ti_50, ti_59, ti_97, ti_99, ti_100, ti_122, ti_160, ti_243, ti_255, ti_399, ti_999, ti_1000, ti_1024, ti_99999, tm_1, tm_2, tm_3, tm_4, tm_5, tm_7, tm_11, tm_12, tm_13, tm_14, tm_100, if_pos, if_neg, if_true, if_false, bC_in, bI_s, bS_s, bX_s, bY_s, sO, tC, k2]
        · by_cases q0 : w = 0
          · simp (disch := omega) only [ltI, leI, eqI, tI, tI1, ti_0, ti_1, ti_2, ti_3, ti_4, ti_5, ti_6, ti_7, ti_8, ti_9, ti_10, ti_11, ti_12, ti_14, ti_18, ti_30, ti_39, ti_40, ti_41, ti_45, ti_50, ti_59, ti_97, ti_99, ti_100, ti_122, ti_160, ti_243, ti_255, ti_399, ti_999, ti_1000, ti_1024, ti_99999, tm_1, tm_2, tm_3, tm_4, tm_5, tm_7, tm_11, tm_12, tm_13, tm_14, tm_100, if_pos, if_neg, if_true, if_false, bC_in, bI_s, bS_s, bX_s, bY_s, sO, tC, k2]
          · simp (disch := omega) only [ltI, leI, eqI, tI, tI1, ti_0, ti_1, ti_2, ti_3, ti_4, ti_5, ti_6, ti_7, ti_8, ti_9, ti_10, ti_11, ti_12, ti_14, ti_18, ti_30, ti_39, ti_40, ti_41, ti_45, ti_50, ti_59, ti_97, ti_99, ti_100, ti_122, ti_160, ti_243, ti_255, ti_399, ti_999, ti_1000, ti_1024, ti_99999, tm_1, tm_2, tm_3, tm_4, tm_5, tm_7, tm_11, tm_12, tm_13, tm_14, tm_100, if_pos, if_neg, if_true, if_false, bC_in, bI_s, bS_s, bX_s, bY_s, sO, tC, k2]
        · simp (disch := omega) only [ltI, leI, eqI, tI, tI1, ti_0, ti_1, ti_2, ti_3, ti_4, ti_5, ti_6, ti_7, ti_8, ti_9, ti_10, ti_11, ti_12, ti_14, ti_18, ti_30, ti_39, ti_40, ti_41, ti_45, ti_50, ti_59, ti_97, ti_99, ti_100, ti_122, ti_160, ti_243, ti_255, ti_399, ti_999, ti_1000, ti_1024, ti_99999, tm_1, tm_2, tm_3, tm_4, tm_5, tm_7, tm_11, tm_12, tm_13, tm_14, tm_100, if_pos, if_neg, if_true, if_false, bC_in, bI_s, bS_s, bX_s, bY_s, sO, tC, k2]
        · simp (disch := omega) only [ltI, leI, eqI, tI, tI1, ti_0, ti_1, ti_2, ti_3, ti_4, ti_5, ti_6, ti_7, ti_8, ti_9, ti_10, ti_11, ti_12, ti_14, ti_18, ti_30, ti_39, ti_40, ti_41, ti_45, ti_50, ti_59, ti_97, ti_99, ti_100, ti_122, ti_160, ti_243, ti_255, ti_399, ti_999, ti_1000, ti_1024, ti_99999, tm_1, tm_2, tm_3, tm_4, tm_5, tm_7, tm_11, tm_12, tm_13, tm_14, tm_100, if_pos, if_neg, if_true, if_false, bC_in, bI_s, bS_s, bX_s, bY_s, sO, tC, k2]
      | false =>
        rw [hk, nbf] at hz
        refine ⟨-13, by simp (disch := omega) only [ltI, leI, eqI, tI, tI1, ti_0, ti_1, ti_2, ti_3, ti_4, ti_5, ti_6, ti_7, ti_8, ti_9, ti_10, ti_11, ti_12, ti_14, ti_18, ti_30, ti_39, ti_40, ti_41, ti_45, ti_50, ti_59, ti_97, ti_99, ti_100, ti_122, ti_160, ti_243, ti_255, ti_399, ti_999, ti_1000, ti_1024, ti_99999, tm_1, tm_2, tm_3, tm_4, tm_5, tm_7, tm_11, tm_12, tm_13, tm_14, tm_100, if_pos, if_neg, if_true, if_false, bC_in, bI_s, bS_s, bX_s, bY_s, sO, tC, k1, hz], ?_⟩
        simp only [isk, Bool.or_eq_false_iff, Bool.and_eq_false_iff, beq_eq_false_iff_ne, ne_eq] at hk
        obtain ⟨⟨⟨q0, q1⟩, q2⟩, q3⟩ := hk
        by_cases w1 : w = 1
        · simp (disch := omega) only [ltI, leI, eqI, tI, tI1, ti_0, ti_1, ti_2, ti_3, ti_4, ti_5, ti_6, ti_7, ti_8, ti_9, ti_10, ti_11, ti_12, ti_14, ti_18, ti_30, ti_39, ti_40, ti_41, ti_45, ti_50, ti_59, ti_97, ti_99, ti_100, ti_122, ti_160, ti_243, ti_255, ti_399, ti_999, ti_1000, ti_1024, ti_99999, tm_1, tm_2, tm_3, tm_4, tm_5, tm_7, tm_11, tm_12, tm_13, tm_14, tm_100, if_pos, if_neg, if_true, if_false, bC_in, bI_s, bS_s, bX_s, bY_s, sO, tC, k2]
        · by_cases w4 : w = 4
          · simp (disch := omega) only [ltI, leI, eqI, tI, tI1, ti_0, ti_1, ti_2, ti_3, ti_4, ti_5, ti_6, ti_7, ti_8, ti_9, ti_10, ti_11, ti_12, ti_14, ti_18, ti_30, ti_39, ti_40, ti_41, ti_45, ti_50, ti_59, ti_97, ti_99, ti_100, ti_122, ti_160, ti_243, ti_255, ti_399, ti_999, ti_1000, ti_1024, ti_99999, tm_1, tm_2, tm_3, tm_4, tm_5, tm_7, tm_11, tm_12, tm_13, tm_14, tm_100, if_pos, if_neg, if_true, if_false, bC_in, bI_s, bS_s, bX_s, bY_s, sO, tC, k2]
          · simp (disch := omega) only [ltI, leI, eqI, tI, tI1, ti_0, ti_1, ti_2, ti_3, ti_4, ti_5, ti_6, ti_7, ti_8, ti_9, ti_10, ti_11, ti_12, ti_14, ti_18, ti_30, ti_39, ti_40, ti_41, ti_45, ti_50, ti_59, ti_97, ti_99, ti_100, ti_122, ti_160, ti_243, ti_255, ti_399, ti_999, ti_1000, ti_1024, ti_99999, tm_1, tm_2, tm_3, tm_4, tm_5, tm_7, tm_11, tm_12, tm_13, tm_14, tm_100, if_pos, if_neg, if_true, if_false, bC_in, bI_s, bS_s, bX_s, bY_s, sO, tC, k2]
    · exact ⟨-11, by simp (disch := omega) only [ltI, leI, eqI, tI, tI1, ti_0, ti_1, ti_2, ti_3, ti_4, ti_5, ti_6, ti_7, ti_8, ti_9, ti_10, ti_11, ti_12, ti_14, ti_18, ti_30, ti_39, ti_40, ti_41, ti_45, ti_50, ti_59, ti_97, ti_99, ti_100, ti_122, ti_160, ti_243, ti_255, ti_399, ti_999, ti_1000, ti_1024, ti_99999, tm_1, tm_2, tm_3, tm_4, tm_5, tm_7, tm_11, tm_12, tm_13, tm_14, tm_100, if_pos, if_neg, if_true, if_false, bC_in, bI_s, bS_s, bX_s, bY_s, sO, tC], by simp (disch := omega) only [ltI, leI, eqI, tI, tI1, ti_0, ti_1, ti_2, ti_3, ti_4, ti_5, ti_6, ti_7, ti_8, ti_9, ti_10, ti_11, ti_12, ti_14, ti_18, ti_30, ti_39, ti_40, ti_41, ti_45, ti_50, ti_59, ti_97, ti_99, ti_100, ti_122, ti_160, ti_243, ti_255, ti_399, ti_999, ti_1000, ti_1024, ti_99999, tm_1, tm_2, tm_3, tm_4, tm_5, tm_7, tm_11, tm_12, tm_13, tm_14, tm_100, if_pos, if_neg, if_true, if_false, bC_in, bI_s, bS_s, bX_s, bY_s, sO, tC]⟩
