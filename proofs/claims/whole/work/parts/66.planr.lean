/-! PLANS, the reference's side. -/
def cd (b : Nat) (K : Nat → Nat) : Nat → Nat
  | 0 => 0
  | n + 1 => cd b K n + K n * b ^ n
def dg (b c p : Nat) : Nat := c / b ^ p % b
theorem cd_lt {b : Nat} {K : Nat → Nat} (hb : 0 < b) : ∀ n, (∀ p, p < n → K p < b) → cd b K n < b ^ n
  | 0, _ => Nat.one_pos
  | n + 1, h => by
    have h1 := cd_lt hb n (fun p hp => h p (by omega))
    have h2 := h n (by omega)
    rw [cd, Nat.pow_succ]
    have : K n * b ^ n ≤ (b - 1) * b ^ n := Nat.mul_le_mul_right _ (by omega)
    have e : (b - 1) * b ^ n + b ^ n = b * b ^ n := by
      rw [← Nat.succ_mul]
      exact congrArg (· * b ^ n) (by omega)
    rw [Nat.mul_comm (b ^ n) b]
    omega
theorem dg_cd {b : Nat} {K : Nat → Nat} (hb : 0 < b) : ∀ n, (∀ p, p < n → K p < b) → ∀ p, p < n → dg b (cd b K n) p = K p
  | 0, _, p, hp => by omega
  | n + 1, h, p, hp => by
    have h1 := cd_lt hb n (fun p hp => h p (by omega))
    unfold dg
    rw [cd]
    by_cases q : p = n
    · subst q
      rw [Nat.add_mul_div_right _ _ (Nat.pow_pos hb), Nat.div_eq_of_lt h1, Nat.zero_add, Nat.mod_eq_of_lt (h p (by omega))]
    · have ih := dg_cd hb n (fun p hp => h p (by omega)) p (by omega)
      unfold dg at ih
      obtain ⟨k, hk⟩ : ∃ k, n = p + 1 + k := ⟨n - p - 1, by omega⟩
      have e : K n * b ^ n = b ^ p * (b * (K n * b ^ k)) := by
        rw [hk, Nat.pow_add, Nat.pow_succ]
        simp only [Nat.mul_comm, Nat.mul_left_comm, Nat.mul_assoc]
      rw [e, Nat.add_mul_div_left _ _ (Nat.pow_pos hb), Nat.add_mul_mod_self_left]
      exact ih
theorem cd_c {b : Nat} {K K' : Nat → Nat} : ∀ n, (∀ p, p < n → K p = K' p) → cd b K n = cd b K' n
  | 0, _ => rfl
  | n + 1, h => by rw [cd, cd, cd_c n (fun p hp => h p (by omega)), h n (by omega)]
theorem dg_lt {b c p : Nat} (hb : 0 < b) : dg b c p < b := Nat.mod_lt _ hb
theorem p4 : ∀ p, p < 5 → 4 ^ p ≤ 256 := by decide
theorem sft : ∀ p, p < 5 → ((((2 : Int32) * nI p) &&& 31).toBitVec.smod 32).toNat = 2 * p ∧ 2 ^ (2 * p) = 4 ^ p := by decide +kernel
theorem st_dg {c p : Nat} (hc : c < 1024) (hp : p < 5) : (nI c >>> (((2 : Int32) * nI p) &&& 31)) &&& (3 : Int32) = nI (dg 4 c p) := by
  obtain ⟨h1, h2⟩ := sft p hp
  rw [pk_shrN (by omega) _ (2 * p) h1, h2]
  have := Nat.div_le_self c (4 ^ p)
  exact pk_andN (n := c / 4 ^ p) (by omega) (m := 3) 2 (by decide)
theorem st_or : ∀ p, p < 5 → ∀ x, x < 4 ^ p → ∀ k, k < 4 → nI x ||| (nI k <<< (((2 : Int32) * nI p) &&& 31)) = nI (x + k * 4 ^ p) := by decide +kernel
/-- how much of a code -/
def mu (c p : Nat) : Nat := min (dg 4 c p) 2
def dnb (f wa no c : Nat) : Nat → Bool
  | 0 => true
  | p + 1 => dnb f wa no c p && ((!bt wa p || mu c p == 2) && (!bt no p || mu c p == mu f p))
def kmb (f c : Nat) : Nat → Bool
  | 0 => false
  | p + 1 => kmb f c p || Nat.blt (mu f p) (mu c p)
section PR
variable {N : Nat → Nat} {B : Nat → Nat → Nat} {A V A1 V1 : xM} {tx : List xh_T} {cu : Value} {K : Nat → Nat}
theorem r_much {c p : Nat} (hc : c < 1024) (hp : p < 5) : fX9_much (nI c) (nI p) A V = some (nI (mu c p)) := by
  have h := dg_lt (b := 4) (c := c) (p := p) (by decide)
  unfold fX9_much mu
  rw [st_dg hc hp]
  by_cases q : dg 4 c p ≤ 2
  · rw [if_pos (by simp (disch := omega) only [ltI, leI, eqI, tI, tI1, ti_0, ti_1, ti_2, ti_3, ti_4, ti_5, ti_6, ti_7, ti_8, ti_9, ti_10, ti_11, ti_12, ti_14, ti_18, ti_30, ti_39, ti_40, ti_41, ti_45, ti_50, ti_59, ti_97, ti_99, ti_100, ti_122, ti_160, ti_243, ti_255, ti_399, ti_999, ti_1000, ti_1024, ti_99999, tm_1, tm_2, tm_3, tm_4, tm_5, tm_7, tm_11, tm_12, tm_13, tm_14, tm_100, if_pos, if_neg, if_true, if_false, bC_in, bI_s, bS_s, bX_s, bY_s, sO, tC]; omega), Nat.min_eq_left q]
  · rw [if_neg (by simp (disch := omega) only [ltI, leI, eqI, tI, tI1, ti_0, ti_1, ti_2, ti_3, ti_4, ti_5, ti_6, ti_7, ti_8, ti_9, ti_10, ti_11, ti_12, ti_14, ti_18, ti_30, ti_39, ti_40, ti_41, ti_45, ti_50, ti_59, ti_97, ti_99, ti_100, ti_122, ti_160, ti_243, ti_255, ti_399, ti_999, ti_1000, ti_1024, ti_99999, tm_1, tm_2, tm_3, tm_4, tm_5, tm_7, tm_11, tm_12, tm_13, tm_14, tm_100, if_pos, if_neg, if_true, if_false, bC_in, bI_s, bS_s, bX_s, bY_s, sO, tC]; omega), show min (dg 4 c p) 2 = 2 by omega]
    rfl
theorem r_state (h5 : N 1 ≤ 5) (h4 : V1 132 4 = nI (N 1)) (hK : ∀ p, p < N 1 → A1 152 p = nI (K p) ∧ K p ≤ 3) : fX9_state A1 V1 = some (nI (cd 4 K (N 1))) := by
  have L : ∀ k i n, i + k = N 1 → k < n → fX9_state_L4 A1 V1 some n (nI (cd 4 K i)) (nI i) = some (nI (cd 4 K (N 1))) := by
    intro k
    induction k with
    | zero =>
      intro i n hi hn
      obtain ⟨n, rfl⟩ : ∃ m, n = m + 1 := ⟨n - 1, by omega⟩
      have : i = N 1 := by omega
      rw [fX9_state_L4, h4, if_pos (by simp (disch := omega) only [ltI, leI, eqI, tI, tI1, ti_0, ti_1, ti_2, ti_3, ti_4, ti_5, ti_6, ti_7, ti_8, ti_9, ti_10, ti_11, ti_12, ti_14, ti_18, ti_30, ti_39, ti_40, ti_41, ti_45, ti_50, ti_59, ti_97, ti_99, ti_100, ti_122, ti_160, ti_243, ti_255, ti_399, ti_999, ti_1000, ti_1024, ti_99999, tm_1, tm_2, tm_3, tm_4, tm_5, tm_7, tm_11, tm_12, tm_13, tm_14, tm_100, if_pos, if_neg, if_true, if_false, bC_in, bI_s, bS_s, bX_s, bY_s, sO, tC]; omega), this]
    | succ k ih =>
      intro i n hi hn
      obtain ⟨n, rfl⟩ : ∃ m, n = m + 1 := ⟨n - 1, by omega⟩
      obtain ⟨k1, k2⟩ := hK i (by omega)
      have hl := cd_lt (b := 4) (K := K) (by decide) i (fun p hp => by have := (hK p (by omega)).2; omega)
      rw [fX9_state_L4, h4, if_neg (by simp (disch := omega) only [ltI, leI, eqI, tI, tI1, ti_0, ti_1, ti_2, ti_3, ti_4, ti_5, ti_6, ti_7, ti_8, ti_9, ti_10, ti_11, ti_12, ti_14, ti_18, ti_30, ti_39, ti_40, ti_41, ti_45, ti_50, ti_59, ti_97, ti_99, ti_100, ti_122, ti_160, ti_243, ti_255, ti_399, ti_999, ti_1000, ti_1024, ti_99999, tm_1, tm_2, tm_3, tm_4, tm_5, tm_7, tm_11, tm_12, tm_13, tm_14, tm_100, if_pos, if_neg, if_true, if_false, bC_in, bI_s, bS_s, bX_s, bY_s, sO, tC]; omega), bC_in ⟨by omega, by decide⟩, tC (by omega), k1, st_or i (by omega) _ hl _ (by omega), sO]
      exact ih (i + 1) n (by omega) (by omega)
  exact L (N 1) 0 FU (by omega) (fu_gt (by omega))
theorem r_takec {c : Nat} (hc : c < 1024) (h5 : N 1 ≤ 5) (h4 : V1 132 4 = nI (N 1)) (c1 : Value) : ∃ A2, fX9_take_ (nI c) A1 V1 c1 = some (A2, V1, c1) ∧ (∀ p, p < N 1 → A2 152 p = nI (dg 4 c p)) ∧ ∀ b, b ≠ 152 → A2 b = A1 b := by
  have L : ∀ k i n (A1 : xM), i + k = N 1 → k < n → ∃ A2, fX9_take__L2 (nI c) (fun (A6 V7 : xM) (c8 : Value) => some (A6, V7, c8)) n (nI i) A1 V1 c1 = some (A2, V1, c1) ∧ (∀ p, i ≤ p → p < N 1 → A2 152 p = nI (dg 4 c p)) ∧ (∀ p, p < i → A2 152 p = A1 152 p) ∧ ∀ b, b ≠ 152 → A2 b = A1 b := by
    intro k
    induction k with
    | zero =>
      intro i n A1 hi hn
      obtain ⟨n, rfl⟩ : ∃ m, n = m + 1 := ⟨n - 1, by omega⟩
      refine ⟨A1, ?_, fun p h1 h2 => by omega, fun _ _ => rfl, fun _ _ => rfl⟩
      rw [fX9_take__L2, h4, if_pos (by simp (disch := omega) only [ltI, leI, eqI, tI, tI1, ti_0, ti_1, ti_2, ti_3, ti_4, ti_5, ti_6, ti_7, ti_8, ti_9, ti_10, ti_11, ti_12, ti_14, ti_18, ti_30, ti_39, ti_40, ti_41, ti_45, ti_50, ti_59, ti_97, ti_99, ti_100, ti_122, ti_160, ti_243, ti_255, ti_399, ti_999, ti_1000, ti_1024, ti_99999, tm_1, tm_2, tm_3, tm_4, tm_5, tm_7, tm_11, tm_12, tm_13, tm_14, tm_100, if_pos, if_neg, if_true, if_false, bC_in, bI_s, bS_s, bX_s, bY_s, sO, tC]; omega)]
    | succ k ih =>
      intro i n A1 hi hn
      obtain ⟨n, rfl⟩ : ∃ m, n = m + 1 := ⟨n - 1, by omega⟩
      obtain ⟨A2, w1, w2, w3, w4⟩ := ih (i + 1) n (aw A1 152 (nI i) (nI (dg 4 c i))) (by omega) (by omega)
      refine ⟨A2, ?_, fun p h1 h2 => ?_, fun p hp => ?_, fun b hb => (w4 b hb).trans (aw_n hb)⟩
      · rw [fX9_take__L2, h4, if_neg (by simp (disch := omega) only [ltI, leI, eqI, tI, tI1, ti_0, ti_1, ti_2, ti_3, ti_4, ti_5, ti_6, ti_7, ti_8, ti_9, ti_10, ti_11, ti_12, ti_14, ti_18, ti_30, ti_39, ti_40, ti_41, ti_45, ti_50, ti_59, ti_97, ti_99, ti_100, ti_122, ti_160, ti_243, ti_255, ti_399, ti_999, ti_1000, ti_1024, ti_99999, tm_1, tm_2, tm_3, tm_4, tm_5, tm_7, tm_11, tm_12, tm_13, tm_14, tm_100, if_pos, if_neg, if_true, if_false, bC_in, bI_s, bS_s, bX_s, bY_s, sO, tC]; omega), bC_in ⟨by omega, by decide⟩, st_dg hc (by omega), sO]
        exact w1
      · by_cases q : p = i
        · subst q
          rw [w3 p (by omega), aw_s, tC (by omega), pk_us]
        · exact w2 p (by omega) h2
      · rw [w3 p (by omega), aw_s, tC (by omega), pk_un (by omega)]
  obtain ⟨A2, w1, w2, w3, w4⟩ := L (N 1) 0 FU A1 (by omega) (fu_gt (by omega))
  exact ⟨A2, w1, fun p hp => w2 p (Nat.zero_le _) hp, w4⟩
theorem mu_le (c p : Nat) : mu c p ≤ 2 := Nat.min_le_right _ _
theorem r_done {c f wa no : Nat} (hc : c < 1024) (hf : f < 1024) (hwa : wa < 32) (hno : no < 32) (h5 : N 1 ≤ 5) (h4 : V1 132 4 = nI (N 1)) : fX9_isDone (nI c) (nI f) (nI wa) (nI no) A1 V1 = some (nI (dnb f wa no c (N 1)).toNat) := by
  have L : ∀ k i n, i + k = N 1 → k < n → fX9_isDone_L6 (nI c) (nI f) (nI wa) (nI no) A1 V1 (fun (l5_19 : Int32) => bC (decide (l5_19 = 0) || decide (l5_19 = 1)) (some l5_19)) n (nI (dnb f wa no c i).toNat) (nI i) = some (nI (dnb f wa no c (N 1)).toNat) := by
    intro k
    induction k with
    | zero =>
      intro i n hi hn
      obtain ⟨n, rfl⟩ : ∃ m, n = m + 1 := ⟨n - 1, by omega⟩
      have : i = N 1 := by omega
      rw [fX9_isDone_L6, h4, if_pos (by simp (disch := omega) only [ltI, leI, eqI, tI, tI1, ti_0, ti_1, ti_2, ti_3, ti_4, ti_5, ti_6, ti_7, ti_8, ti_9, ti_10, ti_11, ti_12, ti_14, ti_18, ti_30, ti_39, ti_40, ti_41, ti_45, ti_50, ti_59, ti_97, ti_99, ti_100, ti_122, ti_160, ti_243, ti_255, ti_399, ti_999, ti_1000, ti_1024, ti_99999, tm_1, tm_2, tm_3, tm_4, tm_5, tm_7, tm_11, tm_12, tm_13, tm_14, tm_100, if_pos, if_neg, if_true, if_false, bC_in, bI_s, bS_s, bX_s, bY_s, sO, tC]; omega), this, bC_b]
    | succ k ih =>
      intro i n hi hn
      obtain ⟨n, rfl⟩ : ∃ m, n = m + 1 := ⟨n - 1, by omega⟩
      have t := ih (i + 1) n (by omega) (by omega)
      rw [dnb] at t
      have m1 := mu_le c i
      have m2 := mu_le f i
      rw [fX9_isDone_L6, h4, if_neg (by simp (disch := omega) only [ltI, leI, eqI, tI, tI1, ti_0, ti_1, ti_2, ti_3, ti_4, ti_5, ti_6, ti_7, ti_8, ti_9, ti_10, ti_11, ti_12, ti_14, ti_18, ti_30, ti_39, ti_40, ti_41, ti_45, ti_50, ti_59, ti_97, ti_99, ti_100, ti_122, ti_160, ti_243, ti_255, ti_399, ti_999, ti_1000, ti_1024, ti_99999, tm_1, tm_2, tm_3, tm_4, tm_5, tm_7, tm_11, tm_12, tm_13, tm_14, tm_100, if_pos, if_neg, if_true, if_false, bC_in, bI_s, bS_s, bX_s, bY_s, sO, tC]; omega), bt_sh hwa (by omega), bt_sh hno (by omega), r_much hc (by omega), r_much hf (by omega), sO]
      simp only [bI_s]
      cases h0 : dnb f wa no c i with
      | false =>
        rw [h0, Bool.false_and, nbf] at t
        rw [nbf, if_pos rfl]
        exact t
      | true =>
        rw [h0, Bool.true_and] at t
        rw [nbt, if_neg (by decide)]
        have tail : ∀ b : Bool, b = true → (((b && (!bt no i || mu c i == mu f i)) = true → fX9_isDone_L6 (nI c) (nI f) (nI wa) (nI no) A1 V1 (fun (l5_19 : Int32) => bC (decide (l5_19 = 0) || decide (l5_19 = 1)) (some l5_19)) n 1 (nI (i + 1)) = some (nI (dnb f wa no c (N 1)).toNat)) ∧ ((b && (!bt no i || mu c i == mu f i)) = false → fX9_isDone_L6 (nI c) (nI f) (nI wa) (nI no) A1 V1 (fun (l5_19 : Int32) => bC (decide (l5_19 = 0) || decide (l5_19 = 1)) (some l5_19)) n 0 (nI (i + 1)) = some (nI (dnb f wa no c (N 1)).toNat))) → (if nI (bt no i).toNat = 0 then fX9_isDone_L6 (nI c) (nI f) (nI wa) (nI no) A1 V1 (fun (l5_19 : Int32) => bC (decide (l5_19 = 0) || decide (l5_19 = 1)) (some l5_19)) n 1 (nI (i + 1)) else if nI (mu c i) = nI (mu f i) then fX9_isDone_L6 (nI c) (nI f) (nI wa) (nI no) A1 V1 (fun (l5_19 : Int32) => bC (decide (l5_19 = 0) || decide (l5_19 = 1)) (some l5_19)) n 1 (nI (i + 1)) else fX9_isDone_L6 (nI c) (nI f) (nI wa) (nI no) A1 V1 (fun (l5_19 : Int32) => bC (decide (l5_19 = 0) || decide (l5_19 = 1)) (some l5_19)) n 0 (nI (i + 1))) = some (nI (dnb f wa no c (N 1)).toNat) := by
          rintro b rfl ⟨t1, t2⟩
          cases h2 : bt no i with
          | false =>
            rw [nbf, if_pos rfl]
            exact t1 (by rw [h2]; rfl)
          | true =>
            rw [nbt, if_neg (by decide)]
            by_cases q : mu c i = mu f i
            · rw [if_pos (by rw [q])]
              exact t1 (by rw [h2, q]; simp)
            · rw [if_neg (fun z => q ((nI_eq (by omega) (by omega)).mp z))]
              exact t2 (by rw [h2, beq_eq_false_iff_ne.mpr q]; rfl)
        cases h1 : bt wa i with
        | false =>
          rw [h1] at t
          rw [nbf, if_pos rfl]
          exact tail true rfl ⟨fun z => by rw [show (!false || mu c i == 2) = true from rfl, z, nbt] at t; exact t, fun z => by rw [show (!false || mu c i == 2) = true from rfl, z, nbf] at t; exact t⟩
        | true =>
          rw [h1] at t
          rw [nbt, if_neg (by decide)]
          by_cases q : mu c i = 2
          · rw [if_pos (by rw [q]; rfl)]
            have e : (!true || mu c i == 2) = true := by rw [q]; rfl
            exact tail true rfl ⟨fun z => by rw [e, z, nbt] at t; exact t, fun z => by rw [e, z, nbf] at t; exact t⟩
          · rw [if_neg (by simp (disch := omega) only [ltI, leI, eqI, tI, tI1, ti_0, ti_1, ti_2, ti_3, ti_4, ti_5, ti_6, ti_7, ti_8, ti_9, ti_10, ti_11, ti_12, ti_14, ti_18, ti_30, ti_39, ti_40, ti_41, ti_45, ti_50, ti_59, ti_97, ti_99, ti_100, ti_122, ti_160, ti_243, ti_255, ti_399, ti_999, ti_1000, ti_1024, ti_99999, tm_1, tm_2, tm_3, tm_4, tm_5, tm_7, tm_11, tm_12, tm_13, tm_14, tm_100, if_pos, if_neg, if_true, if_false, bC_in, bI_s, bS_s, bX_s, bY_s, sO, tC]; omega)]
            have e : (!true || mu c i == 2) = false := by rw [beq_eq_false_iff_ne.mpr q]; rfl
            rw [e, Bool.false_and, nbf] at t
            exact t
  exact L (N 1) 0 FU (by omega) (fu_gt (by omega))
theorem r_more {c f : Nat} (hc : c < 1024) (hf : f < 1024) (h5 : N 1 ≤ 5) (h4 : V1 132 4 = nI (N 1)) (l1 l2 l3 l4 l5 l6 l7 l8 l9 l11 l12 : Int32) (c1 : Value) (ex : Int32 → Option xS) : fX9_plan_L259 l1 l2 l3 l4 l5 l6 l7 l8 l9 (nI f) l11 l12 (nI c) A1 V1 c1 ex FU 0 0 = ex (nI (kmb f c (N 1)).toNat) := by
  have L : ∀ k i n, i + k = N 1 → k < n → fX9_plan_L259 l1 l2 l3 l4 l5 l6 l7 l8 l9 (nI f) l11 l12 (nI c) A1 V1 c1 ex n (nI (kmb f c i).toNat) (nI i) = ex (nI (kmb f c (N 1)).toNat) := by
    intro k
    induction k with
    | zero =>
      intro i n hi hn
      obtain ⟨n, rfl⟩ : ∃ m, n = m + 1 := ⟨n - 1, by omega⟩
      have : i = N 1 := by omega
      rw [fX9_plan_L259, h4, if_pos (by simp (disch := omega) only [ltI, leI, eqI, tI, tI1, ti_0, ti_1, ti_2, ti_3, ti_4, ti_5, ti_6, ti_7, ti_8, ti_9, ti_10, ti_11, ti_12, ti_14, ti_18, ti_30, ti_39, ti_40, ti_41, ti_45, ti_50, ti_59, ti_97, ti_99, ti_100, ti_122, ti_160, ti_243, ti_255, ti_399, ti_999, ti_1000, ti_1024, ti_99999, tm_1, tm_2, tm_3, tm_4, tm_5, tm_7, tm_11, tm_12, tm_13, tm_14, tm_100, if_pos, if_neg, if_true, if_false, bC_in, bI_s, bS_s, bX_s, bY_s, sO, tC]; omega), this]
    | succ k ih =>
      intro i n hi hn
      obtain ⟨n, rfl⟩ : ∃ m, n = m + 1 := ⟨n - 1, by omega⟩
      have t := ih (i + 1) n (by omega) (by omega)
      rw [kmb] at t
      have m1 := mu_le c i
      have m2 := mu_le f i
      rw [fX9_plan_L259, h4, if_neg (by simp (disch := omega) only [ltI, leI, eqI, tI, tI1, ti_0, ti_1, ti_2, ti_3, ti_4, ti_5, ti_6, ti_7, ti_8, ti_9, ti_10, ti_11, ti_12, ti_14, ti_18, ti_30, ti_39, ti_40, ti_41, ti_45, ti_50, ti_59, ti_97, ti_99, ti_100, ti_122, ti_160, ti_243, ti_255, ti_399, ti_999, ti_1000, ti_1024, ti_99999, tm_1, tm_2, tm_3, tm_4, tm_5, tm_7, tm_11, tm_12, tm_13, tm_14, tm_100, if_pos, if_neg, if_true, if_false, bC_in, bI_s, bS_s, bX_s, bY_s, sO, tC]; omega), r_much hc (by omega), r_much hf (by omega), bI_s, bI_s, sO]
      cases h0 : kmb f c i with
      | true =>
        rw [h0, Bool.true_or, nbt] at t
        rw [nbt, if_neg (by decide)]
        exact t
      | false =>
        rw [h0, Bool.false_or] at t
        rw [nbf, if_pos rfl]
        by_cases q : mu f i < mu c i
        · rw [Nat.blt_eq.mpr q, nbt] at t
          rw [if_neg (by simp (disch := omega) only [ltI, leI, eqI, tI, tI1, ti_0, ti_1, ti_2, ti_3, ti_4, ti_5, ti_6, ti_7, ti_8, ti_9, ti_10, ti_11, ti_12, ti_14, ti_18, ti_30, ti_39, ti_40, ti_41, ti_45, ti_50, ti_59, ti_97, ti_99, ti_100, ti_122, ti_160, ti_243, ti_255, ti_399, ti_999, ti_1000, ti_1024, ti_99999, tm_1, tm_2, tm_3, tm_4, tm_5, tm_7, tm_11, tm_12, tm_13, tm_14, tm_100, if_pos, if_neg, if_true, if_false, bC_in, bI_s, bS_s, bX_s, bY_s, sO, tC]; omega)]
          exact t
        · rw [blt_f (by omega), nbf] at t
          rw [if_pos (by simp (disch := omega) only [ltI, leI, eqI, tI, tI1, ti_0, ti_1, ti_2, ti_3, ti_4, ti_5, ti_6, ti_7, ti_8, ti_9, ti_10, ti_11, ti_12, ti_14, ti_18, ti_30, ti_39, ti_40, ti_41, ti_45, ti_50, ti_59, ti_97, ti_99, ti_100, ti_122, ti_160, ti_243, ti_255, ti_399, ti_999, ti_1000, ti_1024, ti_99999, tm_1, tm_2, tm_3, tm_4, tm_5, tm_7, tm_11, tm_12, tm_13, tm_14, tm_100, if_pos, if_neg, if_true, if_false, bC_in, bI_s, bS_s, bX_s, bY_s, sO, tC]; omega)]
          exact t
  exact L (N 1) 0 FU (by omega) (fu_gt (by omega))
/-- a step of the reference's search -/
def rK (N : Nat → Nat) (B : Nat → Nat → Nat) (tx : List xh_T) (f0 : Nat → Int32) (nd : Int32) (s r : Nat) (K : Nat → Nat) (c : Nat) : Nat → Nat := nxt N B tx f0 (N 3) s r 0 K (bt c) (fun _ => false) (hsf (B 5) nd)
def dlR (N : Nat → Nat) (B : Nat → Nat → Nat) (tx : List xh_T) (f0 : Nat → Int32) (nd : Int32) (s r aw' : Nat) (n c : Nat) : Option Nat :=
  if mk5 (fun p => bt c p && bt aw' p) = 0 ∧ ct (bt c) ≤ B 1 r ∧ myp B tx f0 (N 3) s r 0 (dg 4 n) (bt c) = true ∧ kmb n (cd 4 (rK N B tx f0 nd s r (dg 4 n) c) (N 1)) (N 1) = true then some (cd 4 (rK N B tx f0 nd s r (dg 4 n) c) (N 1)) else none
/-- the rows of the reference's search -/
def ofr : Option Nat → Int32
  | none => -1
  | some d => nI d
def olb (d l : Nat) : Int32 := if d = 0 then -1 else nI l
def rarr (A : xM) (re : Nat) (ln : Nat → Nat) (fr : Nat → Option Nat) (lb : Nat → Nat) : Prop := (∀ k, k < re → A 154 k = nI (ln k) ∧ ln k < 1024) ∧ (∀ n, n < 1024 → A 155 n = ofr (fr n)) ∧ ∀ n d, n < 1024 → fr n = some d → A 156 n = olb d (lb n)
theorem rarr_c {A A' : xM} {re : Nat} {ln : Nat → Nat} {fr : Nat → Option Nat} {lb : Nat → Nat} (h : rarr A re ln fr lb) (h1 : A' 154 = A 154) (h2 : A' 155 = A 155) (h3 : A' 156 = A 156) : rarr A' re ln fr lb := by
  unfold rarr
  rw [h1, h2, h3]
  exact h
theorem kmb_self (c : Nat) : ∀ n, kmb c c n = false
  | 0 => rfl
  | n + 1 => by rw [kmb, kmb_self c n, blt_f (Nat.le_refl _)]; rfl
theorem kmb_c {f c c' : Nat} : ∀ n, (∀ p, p < n → mu c p = mu c' p) → kmb f c n = kmb f c' n
  | 0, _ => rfl
  | n + 1, h => by rw [kmb, kmb, kmb_c n (fun p hp => h p (by omega)), h n (by omega)]
theorem cd5 (hP : N 1 ≤ 5) (hK : ∀ p, p < N 1 → K p ≤ 3) : cd 4 K (N 1) < 1024 := by
  have := cd_lt (b := 4) (K := K) (by decide) (N 1) (fun p hp => by have := hK p hp; omega)
  have h2 : ∀ n, n < 6 → 4 ^ n ≤ 1024 := by decide
  have := h2 (N 1) (by omega)
  omega
/-- one company -/
theorem r_comp (hv : iv N B A V tx cu) (ha : agr A V A1 V1) (c1 : Value) {s r n c : Nat} (hs : s < N 0) (hn : n < 1024) (hc : c < 2 ^ N 1) : ∃ A2 A3 V3, fX9_take_ (nI n) A1 V1 c1 = some (A2, V1, c1) ∧ fX9_begin (V1 132 16) (nI s) (nI r) (nI c) 0 0 (nI (mk5 (fun p => Nat.blt p (N 1) && hsf (B 5) (A 135 s) p))) A2 V1 c1 = some (nI (myp B tx (A 131) (N 3) s r 0 (dg 4 n) (bt c)).toNat, A3, V3, c1) ∧ fX9_state A3 V3 = some (nI (cd 4 (rK N B tx (A 131) (A 135 s) s r (dg 4 n) c) (N 1))) ∧ agr A V A3 V3 ∧ A3 154 = A1 154 ∧ A3 155 = A1 155 ∧ A3 156 = A1 156 ∧ V3 132 41 = V1 132 41 ∧ V3 132 42 = V1 132 42 ∧ cd 4 (rK N B tx (A 131) (A 135 s) s r (dg 4 n) c) (N 1) < 1024 := by
  obtain ⟨v1, v2, v3, v4, v5, v6, v7, v8, v9, v10, v11, v12, v13⟩ := id hv
  obtain ⟨⟨s1, s2, s3⟩, ⟨p1, p2, p3⟩, -, ⟨t1, t2, t3⟩, ⟨l1, l2, l3⟩, -⟩ := v1
  have h32 := p2_32 _ p3
  have e4 : V1 132 4 = nI (N 1) := (ha.2 132 4 rfl).trans p2
  have e16 : V1 132 16 = nI (N 3) := (ha.2 132 16 rfl).trans l2
  obtain ⟨A2, w1, w2, w3⟩ := r_takec (N := N) (A1 := A1) (V1 := V1) hn p3 e4 c1
  have ha2 : agr A V A2 V1 := agr_1 ha (r := 152) rfl w3
  have hC := bt_p p3 hc
  have hK : ∀ p, dg 4 n p ≤ 3 := fun p => Nat.le_of_lt_succ (dg_lt (by decide))
  obtain ⟨A3, V3, x1, x2, x3, x4⟩ := r_begin (K := dg 4 n) (s := s) (r := r) (e := 0) hv ha2 c1 hC l3 (fun p hp => ⟨w2 p hp, hK p⟩) (fun _ => false) (fun p => Nat.blt p (N 1) && hsf (B 5) (A 135 s) p)
  have x1 : fX9_begin (nI (N 3)) (nI s) (nI r) (nI (mk5 (bt c))) 0 0 (nI (mk5 (fun p => Nat.blt p (N 1) && hsf (B 5) (A 135 s) p))) A2 V1 c1 = some (nI (myp B tx (A 131) (N 3) s r 0 (dg 4 n) (bt c)).toNat, A3, V3, c1) := x1
  rw [bt_mk c (by omega), ← e16] at x1
  have ha3 : agr A V A3 V3 := by
    refine ⟨fun a q => ?_, fun a i q => ?_⟩
    · rw [x2 a (fun z => by subst z; cases q) (fun z => by subst z; cases q) (fun z => by subst z; cases q)]
      exact ha2.1 a q
    · rw [x4 a i (by rintro ⟨rfl, rfl | rfl⟩ <;> cases q)]
      exact ha2.2 a i q
  have eK : ∀ p, p < N 1 → nxt N B tx (A 131) (N 3) s r 0 (dg 4 n) (bt c) (fun _ => false) (fun p => Nat.blt p (N 1) && hsf (B 5) (A 135 s) p) p = rK N B tx (A 131) (A 135 s) s r (dg 4 n) c p := by
    intro p hp
    unfold rK nxt
    by_cases q1 : myp B tx (A 131) (N 3) s r 0 (dg 4 n) (bt c) = true
    · rw [if_pos q1, if_pos q1]
      unfold spr
      by_cases q2 : anyp (sgs B (dg 4 n) (bt c)) = true
      · rw [if_pos q2, if_pos q2]
        exact lrn_c rfl rfl (fun _ => by rw [Nat.blt_eq.mpr hp, Bool.true_and])
      · rw [if_neg q2, if_neg q2]
    · rw [if_neg q1, if_neg q1]
  have hle : ∀ p, p < N 1 → rK N B tx (A 131) (A 135 s) s r (dg 4 n) c p ≤ 3 := fun p hp => nxt_le (fun q => (v5 p q).1.2.2) hC nof (by omega) (hK p)
  refine ⟨A2, A3, V3, w1, x1, ?_, ha3, ?_, ?_, ?_, x4 132 41 (by omega), x4 132 42 (by omega), cd5 p3 hle⟩
  · exact r_state p3 ((ha3.2 132 4 rfl).trans p2) (fun p hp => ⟨by rw [x3 p hp, eK p hp], hle p hp⟩)
  · rw [x2 154 (by decide) (by decide) (by decide), w3 154 (by decide)]
  · rw [x2 155 (by decide) (by decide) (by decide), w3 155 (by decide)]
  · rw [x2 156 (by decide) (by decide) (by decide), w3 156 (by decide)]
end PR
