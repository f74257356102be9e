/-! WHO WAS BY. -/
theorem tk_m (x y : Int32) : (x &&& ((-1 : Int32) ^^^ (-1 : Int32))) ||| (y &&& (-1 : Int32)) = y := by
  rw [show ((-1 : Int32) ^^^ (-1 : Int32)) = 0 from rfl, Int32.and_zero, Int32.and_neg_one, Int32.zero_or]
def i13 (j : Nat) : Prop := j = 1 ∨ j = 2 ∨ j = 3
theorem c_takeOf_L {l0 l2 : Nat} (h02 : l0 + 3 < l2 + 1 ∨ l2 + 3 < l0 + 1) (m : Int32) (V : xM) (cu : Value) (ex : xM → xM → Value → Option xS) : ∀ k i n (A : xM), i + k = 6 → k < n → ∃ A2, fX1_takeOf_L2 l0 l2 m ex n (nI i) A V cu = ex A2 V cu ∧ (∀ s j, i13 j → i ≤ s → s < 6 → A2 (l0 + j) s = ((A (l0 + j) s &&& (m ^^^ (-1))) ||| (A (l2 + j) s &&& m))) ∧ (∀ s j, i13 j → s < i → A2 (l0 + j) s = A (l0 + j) s) ∧ ∀ b, b ≠ l0 + 1 → b ≠ l0 + 2 → b ≠ l0 + 3 → A2 b = A b := by
  intro k
  induction k with
  | zero =>
    intro i n A hi hn
    obtain ⟨n, rfl⟩ : ∃ m, n = m + 1 := ⟨n - 1, by omega⟩
    refine ⟨A, ?_, fun s j _ h1 h2 => by omega, fun _ _ _ _ => rfl, fun _ _ _ _ => rfl⟩
    rw [fX1_takeOf_L2, if_pos (by simp (disch := omega) only [ltI, leI, eqI, tI, tI1, ti_0, ti_1, ti_2, ti_3, ti_4, ti_5, ti_6, ti_7, ti_8, ti_9, ti_10, ti_11, ti_12, ti_14, ti_18, ti_30, ti_39, ti_40, ti_41, ti_45, ti_50, ti_59, ti_97, ti_99, ti_100, ti_122, ti_160, ti_243, ti_255, ti_399, ti_999, ti_1000, ti_1024, ti_99999, tm_1, tm_2, tm_3, tm_4, tm_5, tm_7, tm_11, tm_12, tm_13, tm_14, tm_100, if_pos, if_neg, if_true, if_false, bC_in, bI_s, bS_s, bX_s, bY_s, sO, tC]; omega)]
  | succ k ih =>
    intro i n A hi hn
    obtain ⟨n, rfl⟩ : ∃ m, n = m + 1 := ⟨n - 1, by omega⟩
    rw [fX1_takeOf_L2, if_neg (by simp (disch := omega) only [ltI, leI, eqI, tI, tI1, ti_0, ti_1, ti_2, ti_3, ti_4, ti_5, ti_6, ti_7, ti_8, ti_9, ti_10, ti_11, ti_12, ti_14, ti_18, ti_30, ti_39, ti_40, ti_41, ti_45, ti_50, ti_59, ti_97, ti_99, ti_100, ti_122, ti_160, ti_243, ti_255, ti_399, ti_999, ti_1000, ti_1024, ti_99999, tm_1, tm_2, tm_3, tm_4, tm_5, tm_7, tm_11, tm_12, tm_13, tm_14, tm_100, if_pos, if_neg, if_true, if_false, bC_in, bI_s, bS_s, bX_s, bY_s, sO, tC]; omega), bC_in ⟨by omega, by decide⟩, sO, tC (by omega)]
    simp only [aw_n (show l0 + 2 ≠ l0 + 1 by omega), aw_n (show l0 + 3 ≠ l0 + 1 by omega), aw_n (show l0 + 3 ≠ l0 + 2 by omega), aw_n (show l2 + 2 ≠ l0 + 1 by omega), aw_n (show l2 + 3 ≠ l0 + 1 by omega), aw_n (show l2 + 3 ≠ l0 + 2 by omega)]
    obtain ⟨A2, w1, w2, w3, w4⟩ := ih (i + 1) n (aw (aw (aw A (l0 + 1) (nI i) ((A (l0 + 1) i &&& (m ^^^ (-1))) ||| (A (l2 + 1) i &&& m))) (l0 + 2) (nI i) ((A (l0 + 2) i &&& (m ^^^ (-1))) ||| (A (l2 + 2) i &&& m))) (l0 + 3) (nI i) ((A (l0 + 3) i &&& (m ^^^ (-1))) ||| (A (l2 + 3) i &&& m))) (by omega) (by omega)
    have cell : ∀ s j, i13 j → (aw (aw (aw A (l0 + 1) (nI i) ((A (l0 + 1) i &&& (m ^^^ (-1))) ||| (A (l2 + 1) i &&& m))) (l0 + 2) (nI i) ((A (l0 + 2) i &&& (m ^^^ (-1))) ||| (A (l2 + 2) i &&& m))) (l0 + 3) (nI i) ((A (l0 + 3) i &&& (m ^^^ (-1))) ||| (A (l2 + 3) i &&& m))) (l0 + j) s = if s = i then ((A (l0 + j) i &&& (m ^^^ (-1))) ||| (A (l2 + j) i &&& m)) else A (l0 + j) s := by
      intro s j hj
      rcases hj with rfl | rfl | rfl
      · rw [aw_n (by omega), aw_n (by omega), aw_s, tC (by omega)]
        rfl
      · rw [aw_n (by omega), aw_s, aw_n (by omega), tC (by omega)]
        rfl
      · rw [aw_s, aw_n (by omega), aw_n (by omega), tC (by omega)]
        rfl
    have oth : ∀ b, b ≠ l0 + 1 → b ≠ l0 + 2 → b ≠ l0 + 3 → (aw (aw (aw A (l0 + 1) (nI i) ((A (l0 + 1) i &&& (m ^^^ (-1))) ||| (A (l2 + 1) i &&& m))) (l0 + 2) (nI i) ((A (l0 + 2) i &&& (m ^^^ (-1))) ||| (A (l2 + 2) i &&& m))) (l0 + 3) (nI i) ((A (l0 + 3) i &&& (m ^^^ (-1))) ||| (A (l2 + 3) i &&& m))) b = A b := by
      intro b b1 b2 b3
      rw [aw_n b3, aw_n b2, aw_n b1]
    refine ⟨A2, w1, fun s j hj h1 h2 => ?_, fun s j hj h1 => ?_, fun b b1 b2 b3 => (w4 b b1 b2 b3).trans (oth b b1 b2 b3)⟩
    · by_cases q : s = i
      · rw [w3 s j hj (by omega), cell s j hj, if_pos q, q]
      · rw [w2 s j hj (by omega) h2, cell s j hj, if_neg q]
        have : l2 + j ≠ l0 + 1 ∧ l2 + j ≠ l0 + 2 ∧ l2 + j ≠ l0 + 3 := by rcases hj with rfl | rfl | rfl <;> omega
        rw [oth (l2 + j) this.1 this.2.1 this.2.2]
    · rw [w3 s j hj (by omega), cell s j hj, if_neg (by omega)]
theorem c_takeOf {l0 l2 : Nat} (h02 : l0 + 3 < l2 + 1 ∨ l2 + 3 < l0 + 1) (m : Int32) (A V : xM) (cu : Value) : ∃ A2, fX1_takeOf l0 l2 m A V cu = some (A2, V, cu) ∧ (∀ s j, i13 j → s < 6 → A2 (l0 + j) s = ((A (l0 + j) s &&& (m ^^^ (-1))) ||| (A (l2 + j) s &&& m))) ∧ ∀ b, b ≠ l0 + 1 → b ≠ l0 + 2 → b ≠ l0 + 3 → A2 b = A b := by
  obtain ⟨A2, w1, w2, w3, w4⟩ := c_takeOf_L h02 m V cu (fun (A7 V8 : xM) (c9 : Value) => some (A7, V8, c9)) 6 0 FU A (by omega) (fu_gt (by omega))
  exact ⟨A2, w1, fun s j hj hs => w2 s j hj (Nat.zero_le _) hs, w4⟩
theorem c_take {l0 l2 : Nat} (h02 : l0 + 3 < l2 + 1 ∨ l2 + 3 < l0 + 1) (A V : xM) (cu : Value) : ∃ A2, fX1_take l0 l2 A V cu = some (A2, V, cu) ∧ (∀ s j, i13 j → s < 6 → A2 (l0 + j) s = A (l2 + j) s) ∧ ∀ b, b ≠ l0 + 1 → b ≠ l0 + 2 → b ≠ l0 + 3 → A2 b = A b := by
  obtain ⟨A2, w1, w2, w3⟩ := c_takeOf h02 (-1) A V cu
  refine ⟨A2, ?_, fun s j hj hs => (w2 s j hj hs).trans (tk_m _ _), w3⟩
  unfold fX1_take
  rw [w1, bS_s]
theorem c_amount {A V : xM} {l s p : Nat} {K : Nat → Nat} (hr : r3 A l s K) (hs : s < 6) (hp : p < 5) (hK : K p ≤ 3) : fX1_amount l (nI p) (nI s) A V = some (nI (K p)) := by
  obtain ⟨h1, h2, h3⟩ := hr
  unfold fX1_amount
  rw [bC_in ⟨hs, by decide⟩, tC (by omega), h1, h2, h3]
  have b1 := mk5_bit (fun p => Nat.ble 2 (K p)) hp
  have b2 := mk5_bit (fun p => K p == 1) hp
  have b3 := mk5_bit (fun p => K p == 3) hp
  rcases (show K p = 0 ∨ K p = 1 ∨ K p = 2 ∨ K p = 3 by omega) with q | q | q | q
  · rw [if_pos (by rw [b3, q]; rfl), if_pos (by rw [b1, q]; rfl), if_pos (by rw [b2, q]; rfl), q]; rfl
  · rw [if_pos (by rw [b3, q]; rfl), if_pos (by rw [b1, q]; rfl), if_neg (by rw [b2, q]; decide), q]; rfl
  · rw [if_pos (by rw [b3, q]; rfl), if_neg (by rw [b1, q]; decide), q]; rfl
  · rw [if_neg (by rw [b3, q]; decide), q]; rfl
def hsf (F : Nat → Nat) (nd : Int32) : Nat → Bool := fun p => decide (nd < 0) || Nat.ble 2 (F (6 * p + nd.toNatClampNeg))
section WH
variable {N : Nat → Nat} {B : Nat → Nat → Nat} {A V A1 V1 : xM} {tx : List xh_T} {cu : Value} {C : Nat → Bool}
theorem r_whoHas_L {l s : Nat} {F : Nat → Nat} (hs : s < 6) (h5 : N 1 ≤ 5) (h4 : V1 132 4 = nI (N 1)) (hn : A1 135 s = -1 ∨ ∃ j : Nat, j < 6 ∧ A1 135 s = nI j) (hF : ∀ j, j < 30 → A1 l j = nI (F j) ∧ F j ≤ 3) (ex : Int32 → Option Int32) : ∀ k i n, i + k = N 1 → k < n → fX9_whoHas_L5 l (nI s) A1 V1 ex n (nI (mk5 (fun p => Nat.blt p i && hsf F (A1 135 s) p))) (nI i) = ex (nI (mk5 (fun p => Nat.blt p (N 1) && hsf F (A1 135 s) p))) := by
  intro k
  induction k with
  | zero =>
    intro i n hi hn
    obtain ⟨n, rfl⟩ : ∃ m, n = m + 1 := ⟨n - 1, by omega⟩
    have : i = N 1 := by omega
    rw [fX9_whoHas_L5, this, if_pos (by simp (disch := omega) only [ltI, leI, eqI, tI, tI1, ti_0, ti_1, ti_2, ti_3, ti_4, ti_5, ti_6, ti_7, ti_8, ti_9, ti_10, ti_11, ti_12, ti_14, ti_18, ti_30, ti_39, ti_40, ti_41, ti_45, ti_50, ti_59, ti_97, ti_99, ti_100, ti_122, ti_160, ti_243, ti_255, ti_399, ti_999, ti_1000, ti_1024, ti_99999, tm_1, tm_2, tm_3, tm_4, tm_5, tm_7, tm_11, tm_12, tm_13, tm_14, tm_100, if_pos, if_neg, if_true, if_false, bC_in, bI_s, bS_s, bX_s, bY_s, sO, tC, h4]; omega)]
  | succ k ih =>
    intro i n hi hn2
    obtain ⟨n, rfl⟩ : ∃ m, n = m + 1 := ⟨n - 1, by omega⟩
    have hi5 : i < 5 := by omega
    have t := ih (i + 1) n (by omega) (by omega)
    have yes : hsf F (A1 135 s) i = true → nI (mk5 (fun p => Nat.blt p i && hsf F (A1 135 s) p)) ||| (1 : Int32) <<< (nI i &&& 31) = nI (mk5 (fun p => Nat.blt p (i + 1) && hsf F (A1 135 s) p)) := by
      intro q
      rw [mk5_or _ hi5]
      refine congrArg nI (mk5_c (fun p hp => ?_))
      unfold fs
      by_cases z : p = i
      · subst z
        rw [if_pos rfl, q, Bool.and_true]
        exact (Nat.blt_eq.mpr (by omega)).symm
      · rw [if_neg z]
        have : Nat.blt p (i + 1) = Nat.blt p i := by
          apply Bool.eq_iff_iff.mpr
          rw [Nat.blt_eq, Nat.blt_eq]
          omega
        rw [this]
    have no : hsf F (A1 135 s) i = false → nI (mk5 (fun p => Nat.blt p i && hsf F (A1 135 s) p)) = nI (mk5 (fun p => Nat.blt p (i + 1) && hsf F (A1 135 s) p)) := by
      intro q
      refine congrArg nI (mk5_c (fun p hp => ?_))
      by_cases z : p = i
      · subst z
        rw [q, Bool.and_false, Bool.and_false]
      · have : Nat.blt p (i + 1) = Nat.blt p i := by
          apply Bool.eq_iff_iff.mpr
          rw [Nat.blt_eq, Nat.blt_eq]
          omega
        rw [this]
    rw [fX9_whoHas_L5, if_neg (by simp (disch := omega) only [ltI, leI, eqI, tI, tI1, ti_0, ti_1, ti_2, ti_3, ti_4, ti_5, ti_6, ti_7, ti_8, ti_9, ti_10, ti_11, ti_12, ti_14, ti_18, ti_30, ti_39, ti_40, ti_41, ti_45, ti_50, ti_59, ti_97, ti_99, ti_100, ti_122, ti_160, ti_243, ti_255, ti_399, ti_999, ti_1000, ti_1024, ti_99999, tm_1, tm_2, tm_3, tm_4, tm_5, tm_7, tm_11, tm_12, tm_13, tm_14, tm_100, if_pos, if_neg, if_true, if_false, bC_in, bI_s, bS_s, bX_s, bY_s, sO, tC, h4]; omega), bC_in ⟨hs, by decide⟩, tC (by omega), sO]
    rcases hn with hn | ⟨j, hj, hn⟩
    · have c0 : A1 135 s < 0 := by rw [hn]; decide
      rw [if_pos c0, yes (by unfold hsf; rw [decide_eq_true c0, Bool.true_or])]
      exact t
    · have c0 : ¬ A1 135 s < 0 := by rw [hn]; simp (disch := omega) only [ltI, leI, eqI, tI, tI1, ti_0, ti_1, ti_2, ti_3, ti_4, ti_5, ti_6, ti_7, ti_8, ti_9, ti_10, ti_11, ti_12, ti_14, ti_18, ti_30, ti_39, ti_40, ti_41, ti_45, ti_50, ti_59, ti_97, ti_99, ti_100, ti_122, ti_160, ti_243, ti_255, ti_399, ti_999, ti_1000, ti_1024, ti_99999, tm_1, tm_2, tm_3, tm_4, tm_5, tm_7, tm_11, tm_12, tm_13, tm_14, tm_100, if_pos, if_neg, if_true, if_false, bC_in, bI_s, bS_s, bX_s, bY_s, sO, tC]; omega
      have i6 : (6 : Int32) * nI i + nI j = nI (6 * i + j) := by rw [show (6 : Int32) = nI 6 from rfl, pk_mul, nI_add]
      have hh : hsf F (A1 135 s) i = Nat.ble 2 (F (6 * i + j)) := by unfold hsf; rw [decide_eq_false c0, Bool.false_or, hn, tC (by omega)]
      obtain ⟨f1, f2⟩ := hF (6 * i + j) (by omega)
      rw [if_neg c0]
      rw [hn] at t yes no hh ⊢
      rw [i6, bC_in ⟨by omega, by decide⟩, tC (by omega), f1, or0]
      by_cases q : 2 ≤ F (6 * i + j)
      · rw [if_neg (by simp (disch := omega) only [ltI, leI, eqI, tI, tI1, ti_0, ti_1, ti_2, ti_3, ti_4, ti_5, ti_6, ti_7, ti_8, ti_9, ti_10, ti_11, ti_12, ti_14, ti_18, ti_30, ti_39, ti_40, ti_41, ti_45, ti_50, ti_59, ti_97, ti_99, ti_100, ti_122, ti_160, ti_243, ti_255, ti_399, ti_999, ti_1000, ti_1024, ti_99999, tm_1, tm_2, tm_3, tm_4, tm_5, tm_7, tm_11, tm_12, tm_13, tm_14, tm_100, if_pos, if_neg, if_true, if_false, bC_in, bI_s, bS_s, bX_s, bY_s, sO, tC]; omega), yes (by rw [hh]; exact Nat.ble_eq.mpr q)]
        exact t
      · rw [if_pos (by simp (disch := omega) only [ltI, leI, eqI, tI, tI1, ti_0, ti_1, ti_2, ti_3, ti_4, ti_5, ti_6, ti_7, ti_8, ti_9, ti_10, ti_11, ti_12, ti_14, ti_18, ti_30, ti_39, ti_40, ti_41, ti_45, ti_50, ti_59, ti_97, ti_99, ti_100, ti_122, ti_160, ti_243, ti_255, ti_399, ti_999, ti_1000, ti_1024, ti_99999, tm_1, tm_2, tm_3, tm_4, tm_5, tm_7, tm_11, tm_12, tm_13, tm_14, tm_100, if_pos, if_neg, if_true, if_false, bC_in, bI_s, bS_s, bX_s, bY_s, sO, tC]; omega), no (by
          rw [hh]
          cases z : Nat.ble 2 (F (6 * i + j)) with
          | false => rfl
          | true => exact absurd (Nat.ble_eq.mp z) q)]
        exact t
theorem r_whoHas {l s : Nat} {F : Nat → Nat} (hs : s < 6) (h5 : N 1 ≤ 5) (h4 : V1 132 4 = nI (N 1)) (hn : A1 135 s = -1 ∨ ∃ j : Nat, j < 6 ∧ A1 135 s = nI j) (hF : ∀ j, j < 30 → A1 l j = nI (F j) ∧ F j ≤ 3) : fX9_whoHas l (nI s) A1 V1 = some (nI (mk5 (fun p => Nat.blt p (N 1) && hsf F (A1 135 s) p))) := r_whoHas_L hs h5 h4 hn hF some (N 1) 0 FU (by omega) (fu_gt (by omega))
/-- of the sheet j -/
theorem sheet_ok (hv : iv N B A V tx cu) {j : Nat} (hj : j < 4) : ∃ n, n ≤ 40 ∧ V (122 + 2 * j) 1 = A 160 j ∧ V (122 + 2 * j) 2 = nI n ∧ A 161 j = nI n ∧ (∀ i, i < 40 → A (122 + 2 * j + 1) i = A 162 (40 * j + i)) ∧ (A 160 j = -1 ∨ ∃ k : Nat, k < 3 ∧ A 160 j = nI k) := by
  obtain ⟨v1, v2, v3, v4, v5, v6, v7, v8, v9, v10, v11, v12, v13⟩ := hv
  obtain ⟨q0, q1, q2, q3⟩ := v10
  match j, hj with
  | 0, _ => obtain ⟨a1, ⟨n, a2, a3, a4⟩, a5, a6⟩ := q0; exact ⟨n, a2, a1, a3, a4, a5, a6⟩
  | 1, _ => obtain ⟨a1, ⟨n, a2, a3, a4⟩, a5, a6⟩ := q1; exact ⟨n, a2, a1, a3, a4, a5, a6⟩
  | 2, _ => obtain ⟨a1, ⟨n, a2, a3, a4⟩, a5, a6⟩ := q2; exact ⟨n, a2, a1, a3, a4, a5, a6⟩
  | 3, _ => obtain ⟨a1, ⟨n, a2, a3, a4⟩, a5, a6⟩ := q3; exact ⟨n, a2, a1, a3, a4, a5, a6⟩
def wfi (g : Nat → Int32) (K : Nat → Nat) : Nat → Bool
  | 0 => true
  | p + 1 => wfi g K p && decide (nI (min (K p) 2) = g p)
theorem wfi_f {g : Nat → Int32} {K : Nat → Nat} {i : Nat} (h : wfi g K i = false) : ∀ k, wfi g K (i + k) = false
  | 0 => h
  | k + 1 => by show (wfi g K (i + k) && _) = false; rw [wfi_f h k]; rfl
theorem c_wf {j s n0 : Nat} {K : Nat → Nat} {g : Nat → Int32} (hj : j < 4) (hs : s < 6) (hn5 : n0 ≤ 5) (hsz : V1 (122 + 2 * j) 2 = nI n0) (hg : ∀ i, i < 5 → A1 (122 + 2 * j + 1) i = g i) (hr : r3 A1 77 s K) (hK : ∀ p, p < 5 → K p ≤ 3) (c1 : Value) : ∀ k i n, i + k = n0 → k < n → wfi g K i = true → fX8_comesOf_L52 tx (122 + 2 * j) (nI s) A1 V1 c1 (some ((1 : Int32), A1, V1, c1)) n (nI i) = some (nI (wfi g K n0).toNat, A1, V1, c1) := by
  intro k
  induction k with
  | zero =>
    intro i n hi hn hw
    obtain ⟨n, rfl⟩ : ∃ m, n = m + 1 := ⟨n - 1, by omega⟩
    have : i = n0 := by omega
    subst this
    rw [fX8_comesOf_L52, if_pos (by simp (disch := omega) only [ltI, leI, eqI, tI, tI1, ti_0, ti_1, ti_2, ti_3, ti_4, ti_5, ti_6, ti_7, ti_8, ti_9, ti_10, ti_11, ti_12, ti_14, ti_18, ti_30, ti_39, ti_40, ti_41, ti_45, ti_50, ti_59, ti_97, ti_99, ti_100, ti_122, ti_160, ti_243, ti_255, ti_399, ti_999, ti_1000, ti_1024, ti_99999, tm_1, tm_2, tm_3, tm_4, tm_5, tm_7, tm_11, tm_12, tm_13, tm_14, tm_100, if_pos, if_neg, if_true, if_false, bC_in, bI_s, bS_s, bX_s, bY_s, sO, tC, hsz]; omega), hw]
    rfl
  | succ k ih =>
    intro i n hi hn hw
    obtain ⟨n, rfl⟩ : ∃ m, n = m + 1 := ⟨n - 1, by omega⟩
    have hKi := hK i (by omega)
    have hat : fX5_at (122 + 2 * j) (nI i) A1 V1 = some (g i) := by
      unfold fX5_at fX5_has
      rw [if_neg (by simp (disch := omega) only [ltI, leI, eqI, tI, tI1, ti_0, ti_1, ti_2, ti_3, ti_4, ti_5, ti_6, ti_7, ti_8, ti_9, ti_10, ti_11, ti_12, ti_14, ti_18, ti_30, ti_39, ti_40, ti_41, ti_45, ti_50, ti_59, ti_97, ti_99, ti_100, ti_122, ti_160, ti_243, ti_255, ti_399, ti_999, ti_1000, ti_1024, ti_99999, tm_1, tm_2, tm_3, tm_4, tm_5, tm_7, tm_11, tm_12, tm_13, tm_14, tm_100, if_pos, if_neg, if_true, if_false, bC_in, bI_s, bS_s, bX_s, bY_s, sO, tC]; omega), if_neg (by simp (disch := omega) only [ltI, leI, eqI, tI, tI1, ti_0, ti_1, ti_2, ti_3, ti_4, ti_5, ti_6, ti_7, ti_8, ti_9, ti_10, ti_11, ti_12, ti_14, ti_18, ti_30, ti_39, ti_40, ti_41, ti_45, ti_50, ti_59, ti_97, ti_99, ti_100, ti_122, ti_160, ti_243, ti_255, ti_399, ti_999, ti_1000, ti_1024, ti_99999, tm_1, tm_2, tm_3, tm_4, tm_5, tm_7, tm_11, tm_12, tm_13, tm_14, tm_100, if_pos, if_neg, if_true, if_false, bC_in, bI_s, bS_s, bX_s, bY_s, sO, tC, hsz]; omega), bI_s, if_neg (by decide), bC_in ⟨by omega, by decide⟩, tC (by omega), hg i (by omega)]
    have hmin : (bif decide ((2 : Int32) < nI (K i)) then (2 : Int32) else nI (K i)) = nI (min (K i) 2) := by
      rcases (show K i = 0 ∨ K i = 1 ∨ K i = 2 ∨ K i = 3 by omega) with q | q | q | q <;> rw [q] <;> rfl
    rw [fX8_comesOf_L52, if_neg (by simp (disch := omega) only [ltI, leI, eqI, tI, tI1, ti_0, ti_1, ti_2, ti_3, ti_4, ti_5, ti_6, ti_7, ti_8, ti_9, ti_10, ti_11, ti_12, ti_14, ti_18, ti_30, ti_39, ti_40, ti_41, ti_45, ti_50, ti_59, ti_97, ti_99, ti_100, ti_122, ti_160, ti_243, ti_255, ti_399, ti_999, ti_1000, ti_1024, ti_99999, tm_1, tm_2, tm_3, tm_4, tm_5, tm_7, tm_11, tm_12, tm_13, tm_14, tm_100, if_pos, if_neg, if_true, if_false, bC_in, bI_s, bS_s, bX_s, bY_s, sO, tC, hsz]; omega), c_amount hr hs (by omega) hKi, bI_s, hat, bI_s, hmin, sO]
    by_cases q : nI (min (K i) 2) = g i
    · rw [if_pos q]
      exact ih (i + 1) n (by omega) (by omega) (by rw [wfi, hw, decide_eq_true q]; rfl)
    · rw [if_neg q]
      have : wfi g K n0 = false := by
        have := wfi_f (g := g) (K := K) (i := i + 1) (by rw [wfi, decide_eq_false q, Bool.and_false]) k
        rw [show i + 1 + k = n0 by omega] at this
        exact this
      rw [this]
      rfl
theorem r_wf {j : Nat} {K : Nat → Nat} {g : Nat → Int32} (hj : j < 4) (h5 : N 1 ≤ 5) (h4 : V1 132 4 = nI (N 1)) (hg : ∀ i, i < 5 → A1 162 (40 * j + i) = g i) (hr : ∀ p, p < N 1 → A1 152 p = nI (K p)) (hK : ∀ p, p < 5 → K p ≤ 3) (m : Bool) (l1 l2 l4 l5 l6 l7 l8 l9 : Int32) (c1 : Value) (ex : Int32 → Option (Int32 × xS)) : ∀ k i n x, i + k = N 1 → k < n → x = nI (m && wfi g K i).toNat → fX9_was_L156 l1 l2 (nI j) l4 l5 l6 l7 l8 l9 A1 V1 c1 ex n x (nI i) = ex (nI (m && wfi g K (N 1)).toNat) := by
  intro k
  induction k with
  | zero =>
    intro i n x hi hn hx
    subst hx
    obtain ⟨n, rfl⟩ : ∃ m, n = m + 1 := ⟨n - 1, by omega⟩
    have : i = N 1 := by omega
    rw [fX9_was_L156, this, if_pos (by simp (disch := omega) only [ltI, leI, eqI, tI, tI1, ti_0, ti_1, ti_2, ti_3, ti_4, ti_5, ti_6, ti_7, ti_8, ti_9, ti_10, ti_11, ti_12, ti_14, ti_18, ti_30, ti_39, ti_40, ti_41, ti_45, ti_50, ti_59, ti_97, ti_99, ti_100, ti_122, ti_160, ti_243, ti_255, ti_399, ti_999, ti_1000, ti_1024, ti_99999, tm_1, tm_2, tm_3, tm_4, tm_5, tm_7, tm_11, tm_12, tm_13, tm_14, tm_100, if_pos, if_neg, if_true, if_false, bC_in, bI_s, bS_s, bX_s, bY_s, sO, tC, h4]; omega)]
  | succ k ih =>
    intro i n x hi hn hx
    subst hx
    obtain ⟨n, rfl⟩ : ∃ m, n = m + 1 := ⟨n - 1, by omega⟩
    have t := ih (i + 1) n _ (by omega) (by omega) rfl
    have hKi := hK i (by omega)
    have hmin : (bif decide (nI (K i) < (2 : Int32)) then nI (K i) else (2 : Int32)) = nI (min (K i) 2) := by
      rcases (show K i = 0 ∨ K i = 1 ∨ K i = 2 ∨ K i = 3 by omega) with q | q | q | q <;> rw [q] <;> rfl
    have e40 : (40 : Int32) * nI j + nI i = nI (40 * j + i) := by rw [show (40 : Int32) = nI 40 from rfl, pk_mul, nI_add]
    rw [fX9_was_L156, if_neg (by simp (disch := omega) only [ltI, leI, eqI, tI, tI1, ti_0, ti_1, ti_2, ti_3, ti_4, ti_5, ti_6, ti_7, ti_8, ti_9, ti_10, ti_11, ti_12, ti_14, ti_18, ti_30, ti_39, ti_40, ti_41, ti_45, ti_50, ti_59, ti_97, ti_99, ti_100, ti_122, ti_160, ti_243, ti_255, ti_399, ti_999, ti_1000, ti_1024, ti_99999, tm_1, tm_2, tm_3, tm_4, tm_5, tm_7, tm_11, tm_12, tm_13, tm_14, tm_100, if_pos, if_neg, if_true, if_false, bC_in, bI_s, bS_s, bX_s, bY_s, sO, tC, h4]; omega), e40, bC_in ⟨by omega, by decide⟩, bC_in ⟨by omega, by decide⟩, tC (by omega), tC (by omega), hg i (by omega), hr i (by omega), hmin, sO]
    rw [wfi] at t
    cases hm : (m && wfi g K i) with
    | false =>
      rw [← Bool.and_assoc, hm, Bool.false_and, nbf] at t
      rw [nbf, if_pos rfl]
      exact t
    | true =>
      rw [← Bool.and_assoc, hm, Bool.true_and] at t
      rw [nbt, if_neg (by decide)]
      by_cases q : nI (min (K i) 2) = g i
      · rw [decide_eq_true q, nbt] at t
        rw [if_pos q.symm]
        exact t
      · rw [decide_eq_false q, nbf] at t
        rw [if_neg (fun z => q z.symm)]
        exact t
/-- what all know behind an evening before a company, none behind walls -/
def wK (N : Nat → Nat) (B : Nat → Nat → Nat) (tx : List xh_T) (f0 : Nat → Int32) (nd : Int32) (s r : Nat) (C : Nat → Bool) : Nat → Nat := nxt N B tx f0 (N 3) s r 0 (K0 B s) C (fun _ => false) (hsf (B 5) nd)
def wfc (N : Nat → Nat) (B : Nat → Nat → Nat) (tx : List xh_T) (f0 : Nat → Int32) (nd : Int32) (g : Nat → Int32) (s r c : Nat) : Bool := Nat.ble (ct (bt c)) (B 1 r) && (mf N B tx f0 s r (bt c) && wfi g (wK N B tx f0 nd s r (bt c)) (N 1))
theorem nxt_le {f0 : Nat → Int32} {t s r e : Nat} {K : Nat → Nat} {C D has : Nat → Bool} {p : Nat} (hk : p < N 1 → B 2 p ≤ 5) (hC : inP (N 1) C) (hD : inP (N 1) D) (hp : p < 5) (hK : K p ≤ 3) : nxt N B tx f0 t s r e K C D has p ≤ 3 := by
  unfold nxt
  by_cases q : myp B tx f0 t s r e K C = true
  · rw [if_pos q]
    unfold spr
    by_cases q2 : anyp (sgs B K C) = true
    · rw [if_pos q2]
      by_cases h : p < N 1
      · exact lrn_le (hk h) hK
      · rw [lrn_0 (Or.inr (Or.inr ⟨by rw [inP_f hC hp (by omega), Bool.and_false], by rw [inP_f hD hp (by omega), Bool.and_false]⟩))]
        exact hK
    · rw [if_neg q2]; exact hK
  · rw [if_neg q]; exact hK
theorem need_ok (hv : iv N B A V tx cu) {s : Nat} (hs : s < N 0) : A 72 s = A 135 s ∧ (A 135 s = -1 ∨ ∃ j : Nat, j < 6 ∧ A 135 s = nI j) := by
  obtain ⟨v1, v2, v3, v4, -⟩ := hv
  obtain ⟨h1, h2⟩ := v4 s hs
  have := v1.1.2.2
  refine ⟨h1, ?_⟩
  rw [← h1]
  rcases h2 with h2 | ⟨j, hj, h2⟩
  · exact Or.inl h2
  · exact Or.inr ⟨j, by omega, h2⟩
theorem hasC_ok (hv : iv N B A V tx cu) (ha : agr A V A1 V1) {s l : Nat} {F : Nat → Nat} (hs : s < N 0) (hr : ∀ j, j < 6 → A1 (l + 1) j = nI (mk5 (fun p => Nat.ble 2 (F (6 * p + j))))) : hasC A1 l s (hsf F (A 135 s)) := by
  obtain ⟨h1, h2⟩ := need_ok hv hs
  have e72 : A1 72 s = A 135 s := by rw [ha.1 72 rfl]; exact h1
  rcases h2 with h2 | ⟨j, hj, h2⟩
  · left
    refine ⟨by rw [e72, h2], fun p _ => ?_⟩
    unfold hsf
    rw [h2]
    rfl
  · right
    refine ⟨j, hj, by rw [e72, h2], ?_⟩
    rw [hr j hj]
    refine congrArg nI (mk5_c (fun p _ => ?_))
    unfold hsf
    rw [h2, decide_eq_false (by simp (disch := omega) only [ltI, leI, eqI, tI, tI1, ti_0, ti_1, ti_2, ti_3, ti_4, ti_5, ti_6, ti_7, ti_8, ti_9, ti_10, ti_11, ti_12, ti_14, ti_18, ti_30, ti_39, ti_40, ti_41, ti_45, ti_50, ti_59, ti_97, ti_99, ti_100, ti_122, ti_160, ti_243, ti_255, ti_399, ti_999, ti_1000, ti_1024, ti_99999, tm_1, tm_2, tm_3, tm_4, tm_5, tm_7, tm_11, tm_12, tm_13, tm_14, tm_100, if_pos, if_neg, if_true, if_false, bC_in, bI_s, bS_s, bX_s, bY_s, sO, tC]; omega), Bool.false_or, tC (by omega)]
theorem c_comes (hv : iv N B A V tx cu) (ha : agr A V A1 V1) (c1 : Value) {j s r c : Nat} (hj : j < 4) (hs : s < N 0) (hr : r < 4) (hc : c < 2 ^ N 1) (hsz : V (122 + 2 * j) 2 = nI (N 1)) : ∃ A2 V2 c2, fX8_comesOf tx (122 + 2 * j) (nI s) (nI r) (nI c) A1 V1 c1 = some (nI (wfc N B tx (A 131) (A 135 s) (fun i => A 162 (40 * j + i)) s r c).toNat, A2, V2, c2) ∧ agr A V A2 V2 := by
  obtain ⟨v1, v2, v3, v4, v5, v6, v7, v8, v9, v10, v11, v12, v13⟩ := id hv
  obtain ⟨⟨s1, s2, s3⟩, ⟨p1, p2, p3⟩, -, -, ⟨l1, l2, l3⟩, -⟩ := v1
  have h32 := p2_32 _ p3
  have hc32 : c < 32 := by omega
  have hC := bt_p p3 hc
  have cc := ct_le (bt c)
  obtain ⟨r1, r2, r3', r4⟩ := v3 r hr
  have e99 : A1 100 r = nI (B 1 r) := by rw [ha.1 100 rfl]; exact r1
  unfold fX8_comesOf
  rw [m_cnt_c hc32, bI_s, bC_in ⟨hr, by decide⟩, tC (by omega), e99]
  by_cases h : B 1 r < ct (bt c)
  · rw [if_pos (by simp (disch := omega) only [ltI, leI, eqI, tI, tI1, ti_0, ti_1, ti_2, ti_3, ti_4, ti_5, ti_6, ti_7, ti_8, ti_9, ti_10, ti_11, ti_12, ti_14, ti_18, ti_30, ti_39, ti_40, ti_41, ti_45, ti_50, ti_59, ti_97, ti_99, ti_100, ti_122, ti_160, ti_243, ti_255, ti_399, ti_999, ti_1000, ti_1024, ti_99999, tm_1, tm_2, tm_3, tm_4, tm_5, tm_7, tm_11, tm_12, tm_13, tm_14, tm_100, if_pos, if_neg, if_true, if_false, bC_in, bI_s, bS_s, bX_s, bY_s, sO, tC]; omega)]
    refine ⟨A1, V1, c1, ?_, ha⟩
    have : Nat.ble (ct (bt c)) (B 1 r) = false := by
      cases z : Nat.ble (ct (bt c)) (B 1 r) with
      | false => rfl
      | true => have := Nat.ble_eq.mp z; omega
    unfold wfc
    rw [this]
    rfl
  have hb : Nat.ble (ct (bt c)) (B 1 r) = true := Nat.ble_eq.mpr (by omega)
  obtain ⟨A2, V2, w1, w2, w3, w4, w5⟩ := c_maf hv ha c1 hC (s := s) (by omega) r
  rw [bt_mk c hc32] at w1
  rw [if_neg (by simp (disch := omega) only [ltI, leI, eqI, tI, tI1, ti_0, ti_1, ti_2, ti_3, ti_4, ti_5, ti_6, ti_7, ti_8, ti_9, ti_10, ti_11, ti_12, ti_14, ti_18, ti_30, ti_39, ti_40, ti_41, ti_45, ti_50, ti_59, ti_97, ti_99, ti_100, ti_122, ti_160, ti_243, ti_255, ti_399, ti_999, ti_1000, ti_1024, ti_99999, tm_1, tm_2, tm_3, tm_4, tm_5, tm_7, tm_11, tm_12, tm_13, tm_14, tm_100, if_pos, if_neg, if_true, if_false, bC_in, bI_s, bS_s, bX_s, bY_s, sO, tC]; omega), w1, bX_s]
  cases hm : mf N B tx (A 131) s r (bt c) with
  | false =>
    rw [nbf, if_pos rfl]
    refine ⟨A2, V2, .ref (tref (N 3)), ?_, w2⟩
    unfold wfc
    rw [hm, Bool.false_and, Bool.and_false]
    rfl
  | true =>
    rw [nbt, if_neg (by decide)]
    obtain ⟨A3, x1, x2, x3⟩ := c_take (l0 := 77) (l2 := 73) (by omega) A2 V2 (.ref (tref (N 3)))
    rw [x1, bS_s]
    have ha3 : agr A V A3 V2 := ⟨fun a q => by
      rw [x3 a (fun z => by subst z; cases q) (fun z => by subst z; cases q) (fun z => by subst z; cases q)]
      exact w2.1 a q, w2.2⟩
    have rows : ∀ t, t < 6 → r3 A3 77 t (K0 B t) := by
      intro t ht
      have e74 : A2 74 = A 74 := w2.1 74 rfl
      have e75 : A2 75 = A 75 := w2.1 75 rfl
      have e76 : A2 76 = A 76 := w2.1 76 rfl
      refine ⟨?_, ?_, ?_⟩
      · rw [x2 t 1 (Or.inl rfl) ht]; show A2 74 t = _; rw [e74]; exact (v7.2.1 t ht).1
      · rw [x2 t 2 (Or.inr (Or.inl rfl)) ht]; show A2 75 t = _; rw [e75]; exact (v7.2.1 t ht).2.1
      · rw [x2 t 3 (Or.inr (Or.inr rfl)) ht]; show A2 76 t = _; rw [e76]; exact (v7.2.1 t ht).2.2
    have hK0 : ∀ p, p < 5 → K0 B s p ≤ 3 := fun p hp => (v7.1 p s hp (by omega)).1
    obtain ⟨A4, y1, y2, y3, y4⟩ := c_spread (l := 77) (D := fun _ => false) (r := r) (e := 0) hv ha3 hC (fun p _ q => by cases q) (fun p _ => Bool.and_false _) l3 (show s < 6 by omega) (by rw [w4, up2_s]) (rows s (by omega)) hK0 (hasC_ok hv ha3 hs (fun j hj => (rows j hj).1)) (Or.inl rfl) (fun m hm => by rw [x3 83 (by decide) (by decide) (by decide)]; exact w5 m hm)
    have y1 : fX6_spread tx 77 (nI (mk5 (bt c))) 0 A3 V2 (.ref (tref (N 3))) = some (A4, V2, .ref (tref (N 3))) := y1
    rw [bt_mk c hc32] at y1
    rw [y1, bS_s]
    have ha4 : agr A V A4 V2 := ⟨fun a q => by
      rw [y3 a (fun z => by subst z; cases q) (fun z => by subst z; cases q) (fun z => by subst z; cases q) (fun z => by subst z; cases q)]
      exact ha3.1 a q, w2.2⟩
    have en : wK N B tx (A 131) (A 135 s) s r (bt c) = spr N B tx (A 131) (N 3) s r 0 (K0 B s) (bt c) (fun _ => false) (hsf (B 5) (A 135 s)) := by
      unfold wK nxt
      rw [show myp B tx (A 131) (N 3) s r 0 (K0 B s) (bt c) = true from hm, if_pos rfl]
    obtain ⟨n1, n2, n3, n4, n5, n6, n7⟩ := sheet_ok hv hj
    have kc : kA (122 + 2 * j + 1) = true := by
      match j, hj with
      | 0, _ => rfl
      | 1, _ => rfl
      | 2, _ => rfl
      | 3, _ => rfl
    have kv : kV (122 + 2 * j) 2 = true := by
      match j, hj with
      | 0, _ => rfl
      | 1, _ => rfl
      | 2, _ => rfl
      | 3, _ => rfl
    have hw := c_wf (tx := tx) (A1 := A4) (V1 := V2) (s := s) (g := fun i => A 162 (40 * j + i)) (K := wK N B tx (A 131) (A 135 s) s r (bt c)) hj (by omega) p3 ((ha4.2 _ _ kv).trans hsz) (fun i hi => by rw [ha4.1 _ kc]; exact n6 i (by omega)) (by rw [en]; exact y2) (fun p hp => nxt_le (fun q => (v5 p q).1.2.2) hC (fun _ _ q => by cases q) hp (hK0 p hp)) (.ref (tref (N 3))) (N 1) 0 FU (by omega) (fu_gt (by omega)) rfl
    refine ⟨A4, V2, .ref (tref (N 3)), Eq.trans hw ?_, ha4⟩
    unfold wfc
    rw [hm, hb, Bool.true_and, Bool.true_and]
/-- the companies gone through -/
def wst (N : Nat → Nat) (ok : Nat → Bool) : Nat → Int32 × Int32 × Int32
  | 0 => (0, nI (2 ^ N 1 - 1), 0)
  | c + 1 => if ok c = true then ((wst N ok c).1 + Int32.ofInt 1, (wst N ok c).2.1 &&& nI c, (wst N ok c).2.2 ||| nI c) else wst N ok c
theorem c_was (hv : iv N B A V tx cu) {j s r : Nat} (hj : j < 4) (hs : s < N 0) (hr : r < 4) (hsz : V (122 + 2 * j) 2 = nI (N 1)) (l4 : Int32) (ex : Int32 → Int32 → Int32 → xM → xM → Value → Option (Int32 × xS)) : ∀ k c n (A1 V1 : xM) (c1 : Value), agr A V A1 V1 → c + k = 2 ^ N 1 → k < n → ∃ A2 V2 c2, fX8_was_L93 tx (122 + 2 * j) (nI s) (nI r) l4 ex n (wst N (wfc N B tx (A 131) (A 135 s) (fun i => A 162 (40 * j + i)) s r) c).1 (wst N (wfc N B tx (A 131) (A 135 s) (fun i => A 162 (40 * j + i)) s r) c).2.1 (wst N (wfc N B tx (A 131) (A 135 s) (fun i => A 162 (40 * j + i)) s r) c).2.2 (nI c) A1 V1 c1 = ex (wst N (wfc N B tx (A 131) (A 135 s) (fun i => A 162 (40 * j + i)) s r) (2 ^ N 1)).1 (wst N (wfc N B tx (A 131) (A 135 s) (fun i => A 162 (40 * j + i)) s r) (2 ^ N 1)).2.1 (wst N (wfc N B tx (A 131) (A 135 s) (fun i => A 162 (40 * j + i)) s r) (2 ^ N 1)).2.2 A2 V2 c2 ∧ agr A V A2 V2 := by
  obtain ⟨-, ⟨p1, p2, p3⟩, -⟩ := id hv.1
  have h32 := p2_32 _ p3
  have hq := sh_q (N 1) (by omega)
  have hpos := Nat.two_pow_pos (N 1)
  intro k
  induction k with
  | zero =>
    intro c n A1 V1 c1 ha hi hn
    obtain ⟨n, rfl⟩ : ∃ m, n = m + 1 := ⟨n - 1, by omega⟩
    have e := (ha.2 65 3 rfl).trans p1
    have : c = 2 ^ N 1 := by omega
    refine ⟨A1, V1, c1, ?_, ha⟩
    rw [fX8_was_L93, e, hq, if_pos (by simp (disch := omega) only [ltI, leI, eqI, tI, tI1, ti_0, ti_1, ti_2, ti_3, ti_4, ti_5, ti_6, ti_7, ti_8, ti_9, ti_10, ti_11, ti_12, ti_14, ti_18, ti_30, ti_39, ti_40, ti_41, ti_45, ti_50, ti_59, ti_97, ti_99, ti_100, ti_122, ti_160, ti_243, ti_255, ti_399, ti_999, ti_1000, ti_1024, ti_99999, tm_1, tm_2, tm_3, tm_4, tm_5, tm_7, tm_11, tm_12, tm_13, tm_14, tm_100, if_pos, if_neg, if_true, if_false, bC_in, bI_s, bS_s, bX_s, bY_s, sO, tC]; omega), this]
  | succ k ih =>
    intro c n A1 V1 c1 ha hi hn
    obtain ⟨n, rfl⟩ : ∃ m, n = m + 1 := ⟨n - 1, by omega⟩
    have e := (ha.2 65 3 rfl).trans p1
    obtain ⟨A2, V2, c2, w1, w2⟩ := c_comes hv ha c1 hj hs hr (c := c) (by omega) hsz
    have t := ih (c + 1) n A2 V2 c2 w2 (by omega) (by omega)
    rw [fX8_was_L93, e, hq, if_neg (by simp (disch := omega) only [ltI, leI, eqI, tI, tI1, ti_0, ti_1, ti_2, ti_3, ti_4, ti_5, ti_6, ti_7, ti_8, ti_9, ti_10, ti_11, ti_12, ti_14, ti_18, ti_30, ti_39, ti_40, ti_41, ti_45, ti_50, ti_59, ti_97, ti_99, ti_100, ti_122, ti_160, ti_243, ti_255, ti_399, ti_999, ti_1000, ti_1024, ti_99999, tm_1, tm_2, tm_3, tm_4, tm_5, tm_7, tm_11, tm_12, tm_13, tm_14, tm_100, if_pos, if_neg, if_true, if_false, bC_in, bI_s, bS_s, bX_s, bY_s, sO, tC]; omega), w1, bX_s]
    rw [wst] at t
    rw [sO c]
    cases hm : wfc N B tx (A 131) (A 135 s) (fun i => A 162 (40 * j + i)) s r c with
    | false =>
      rw [hm, if_neg (by decide)] at t
      rw [nbf, if_pos rfl]
      exact t
    | true =>
      rw [hm, if_pos rfl] at t
      rw [nbt, if_neg (by decide)]
      exact t
theorem r_was (hv : iv N B A V tx cu) {j s r : Nat} (hj : j < 4) (hs : s < N 0) (hr : r < 4) (l4 : Int32) (ex : Int32 → Int32 → Int32 → xM → xM → Value → Option (Int32 × xS)) : ∀ k c n (A1 V1 : xM) (c1 : Value), agr A V A1 V1 → c + k = 2 ^ N 1 → k < n → ∃ A2 V2 c2, fX9_was_L101 (nI s) (nI r) (nI j) l4 (nI (mk5 (fun p => Nat.blt p (N 1) && hsf (B 5) (A 135 s) p))) ex n (wst N (wfc N B tx (A 131) (A 135 s) (fun i => A 162 (40 * j + i)) s r) c).1 (wst N (wfc N B tx (A 131) (A 135 s) (fun i => A 162 (40 * j + i)) s r) c).2.1 (wst N (wfc N B tx (A 131) (A 135 s) (fun i => A 162 (40 * j + i)) s r) c).2.2 (nI c) A1 V1 c1 = ex (wst N (wfc N B tx (A 131) (A 135 s) (fun i => A 162 (40 * j + i)) s r) (2 ^ N 1)).1 (wst N (wfc N B tx (A 131) (A 135 s) (fun i => A 162 (40 * j + i)) s r) (2 ^ N 1)).2.1 (wst N (wfc N B tx (A 131) (A 135 s) (fun i => A 162 (40 * j + i)) s r) (2 ^ N 1)).2.2 A2 V2 c2 ∧ agr A V A2 V2 := by
  obtain ⟨v1, v2, v3, v4, v5, v6, v7, v8, v9, v10, v11, v12, v13⟩ := id hv
  obtain ⟨⟨s1, s2, s3⟩, ⟨p1, p2, p3⟩, -, -, ⟨l1, l2, l3⟩, -⟩ := v1
  have h32 := p2_32 _ p3
  have hq := sh_p (N 1) (by omega)
  obtain ⟨r1, r2, r3', r4⟩ := v3 r hr
  intro k
  induction k with
  | zero =>
    intro c n A1 V1 c1 ha hi hn
    obtain ⟨n, rfl⟩ : ∃ m, n = m + 1 := ⟨n - 1, by omega⟩
    have e := (ha.2 132 4 rfl).trans p2
    have : c = 2 ^ N 1 := by omega
    refine ⟨A1, V1, c1, ?_, ha⟩
    rw [fX9_was_L101, e, hq, if_pos (by simp (disch := omega) only [ltI, leI, eqI, tI, tI1, ti_0, ti_1, ti_2, ti_3, ti_4, ti_5, ti_6, ti_7, ti_8, ti_9, ti_10, ti_11, ti_12, ti_14, ti_18, ti_30, ti_39, ti_40, ti_41, ti_45, ti_50, ti_59, ti_97, ti_99, ti_100, ti_122, ti_160, ti_243, ti_255, ti_399, ti_999, ti_1000, ti_1024, ti_99999, tm_1, tm_2, tm_3, tm_4, tm_5, tm_7, tm_11, tm_12, tm_13, tm_14, tm_100, if_pos, if_neg, if_true, if_false, bC_in, bI_s, bS_s, bX_s, bY_s, sO, tC]; omega), this]
  | succ k ih =>
    intro c n A1 V1 c1 ha hi hn
    obtain ⟨n, rfl⟩ : ∃ m, n = m + 1 := ⟨n - 1, by omega⟩
    have e := (ha.2 132 4 rfl).trans p2
    have hc32 : c < 32 := by omega
    have hC := bt_p p3 (show c < 2 ^ N 1 by omega)
    have cc := ct_le (bt c)
    have e133 : A1 134 r = nI (B 1 r) := by rw [ha.1 134 rfl]; exact r2
    rw [fX9_was_L101, e, hq, if_neg (by simp (disch := omega) only [ltI, leI, eqI, tI, tI1, ti_0, ti_1, ti_2, ti_3, ti_4, ti_5, ti_6, ti_7, ti_8, ti_9, ti_10, ti_11, ti_12, ti_14, ti_18, ti_30, ti_39, ti_40, ti_41, ti_45, ti_50, ti_59, ti_97, ti_99, ti_100, ti_122, ti_160, ti_243, ti_255, ti_399, ti_999, ti_1000, ti_1024, ti_99999, tm_1, tm_2, tm_3, tm_4, tm_5, tm_7, tm_11, tm_12, tm_13, tm_14, tm_100, if_pos, if_neg, if_true, if_false, bC_in, bI_s, bS_s, bX_s, bY_s, sO, tC]; omega), m_size_c hc32, bI_s, bC_in ⟨hr, by decide⟩, tC (by omega), e133, sO c]
    by_cases h : B 1 r < ct (bt c)
    · have t := ih (c + 1) n A1 V1 c1 ha (by omega) (by omega)
      have : Nat.ble (ct (bt c)) (B 1 r) = false := by
        cases z : Nat.ble (ct (bt c)) (B 1 r) with
        | false => rfl
        | true => have := Nat.ble_eq.mp z; omega
      rw [if_pos (by simp (disch := omega) only [ltI, leI, eqI, tI, tI1, ti_0, ti_1, ti_2, ti_3, ti_4, ti_5, ti_6, ti_7, ti_8, ti_9, ti_10, ti_11, ti_12, ti_14, ti_18, ti_30, ti_39, ti_40, ti_41, ti_45, ti_50, ti_59, ti_97, ti_99, ti_100, ti_122, ti_160, ti_243, ti_255, ti_399, ti_999, ti_1000, ti_1024, ti_99999, tm_1, tm_2, tm_3, tm_4, tm_5, tm_7, tm_11, tm_12, tm_13, tm_14, tm_100, if_pos, if_neg, if_true, if_false, bC_in, bI_s, bS_s, bX_s, bY_s, sO, tC]; omega)]
      rw [wst, if_neg (by unfold wfc; rw [this, Bool.false_and]; decide)] at t
      exact t
    have hb : Nat.ble (ct (bt c)) (B 1 r) = true := Nat.ble_eq.mpr (by omega)
    rw [if_neg (by simp (disch := omega) only [ltI, leI, eqI, tI, tI1, ti_0, ti_1, ti_2, ti_3, ti_4, ti_5, ti_6, ti_7, ti_8, ti_9, ti_10, ti_11, ti_12, ti_14, ti_18, ti_30, ti_39, ti_40, ti_41, ti_45, ti_50, ti_59, ti_97, ti_99, ti_100, ti_122, ti_160, ti_243, ti_255, ti_399, ti_999, ti_1000, ti_1024, ti_99999, tm_1, tm_2, tm_3, tm_4, tm_5, tm_7, tm_11, tm_12, tm_13, tm_14, tm_100, if_pos, if_neg, if_true, if_false, bC_in, bI_s, bS_s, bX_s, bY_s, sO, tC]; omega)]
    obtain ⟨A2, w1, w2, w3⟩ := r_take (A1 := A1) (l := 139) (s := s) (by decide) (by omega) p3 e c1
    have ha2 : agr A V A2 V1 := agr_1 ha (r := 152) rfl w3
    have e16 : V1 132 16 = nI (N 3) := (ha.2 132 16 rfl).trans l2
    have e138 : A1 139 = A 139 := ha.1 139 rfl
    have hK0 : ∀ p, p < 5 → K0 B s p ≤ 3 := fun p hp => (v7.1 p s hp (by omega)).1
    obtain ⟨A3, V3, x1, x2, x3, x4⟩ := r_begin (K := K0 B s) (s := s) (r := r) (e := 0) hv ha2 c1 hC l3 (fun p hp => ⟨by rw [w2 p hp, e138]; exact v7.2.2 _ (by omega), hK0 p (by omega)⟩) (fun _ => false) (fun p => Nat.blt p (N 1) && hsf (B 5) (A 135 s) p)
    have x1 : fX9_begin (nI (N 3)) (nI s) (nI r) (nI (mk5 (bt c))) 0 0 (nI (mk5 (fun p => Nat.blt p (N 1) && hsf (B 5) (A 135 s) p))) A2 V1 c1 = some (nI (mf N B tx (A 131) s r (bt c)).toNat, A3, V3, c1) := x1
    rw [bt_mk c hc32] at x1
    have ha3 : agr A V A3 V3 := by
      refine ⟨fun a q => ?_, fun a i q => ?_⟩
      · rw [x2 a (fun z => by subst z; cases q) (fun z => by subst z; cases q) (fun z => by subst z; cases q)]
        exact ha2.1 a q
      · rw [x4 a i (by rintro ⟨rfl, rfl | rfl⟩ <;> cases q)]
        exact ha2.2 a i q
    rw [w1, bS_s, e16, x1, bX_s]
    have eK : ∀ p, p < N 1 → nxt N B tx (A 131) (N 3) s r 0 (K0 B s) (bt c) (fun _ => false) (fun p => Nat.blt p (N 1) && hsf (B 5) (A 135 s) p) p = wK N B tx (A 131) (A 135 s) s r (bt c) p := by
      intro p hp
      unfold wK nxt
      by_cases q1 : myp B tx (A 131) (N 3) s r 0 (K0 B s) (bt c) = true
      · rw [if_pos q1, if_pos q1]
        unfold spr
        by_cases q2 : anyp (sgs B (K0 B s) (bt c)) = true
        · rw [if_pos q2, if_pos q2]
          exact lrn_c rfl rfl (fun _ => by rw [Nat.blt_eq.mpr hp, Bool.true_and])
        · rw [if_neg q2, if_neg q2]
      · rw [if_neg q1, if_neg q1]
    have t := ih (c + 1) n A3 V3 c1 ha3 (by omega) (by omega)
    obtain ⟨A9, V9, c9, t1, t2⟩ := t
    refine ⟨A9, V9, c9, ?_, t2⟩
    refine Eq.trans (r_wf (N := N) (A1 := A3) (V1 := V3) (K := wK N B tx (A 131) (A 135 s) s r (bt c)) (g := fun i => A 162 (40 * j + i)) hj p3 ((ha3.2 132 4 rfl).trans p2) (fun i _ => by rw [ha3.1 162 rfl]) (fun p hp => by rw [x3 p hp, eK p hp]) (fun p hp => nxt_le (fun q => (v5 p q).1.2.2) hC (fun _ _ q => by cases q) hp (hK0 p hp)) (mf N B tx (A 131) s r (bt c)) _ _ _ _ _ _ _ _ c1 _ (N 1) 0 FU _ (by omega) (fu_gt (by omega)) (by rw [show wfi (fun i => A 162 (40 * j + i)) (wK N B tx (A 131) (A 135 s) s r (bt c)) 0 = true from rfl, Bool.and_true])) ?_
    have ew : wfc N B tx (A 131) (A 135 s) (fun i => A 162 (40 * j + i)) s r c = (mf N B tx (A 131) s r (bt c) && wfi (fun i => A 162 (40 * j + i)) (wK N B tx (A 131) (A 135 s) s r (bt c)) (N 1)) := by
      unfold wfc
      rw [hb, Bool.true_and]
    rw [← ew]
    rw [wst] at t1
    cases hm : wfc N B tx (A 131) (A 135 s) (fun i => A 162 (40 * j + i)) s r c with
    | false =>
      rw [hm, if_neg (by decide)] at t1
      rw [nbf, if_pos rfl]
      exact t1
    | true =>
      rw [hm, if_pos rfl] at t1
      rw [nbt, if_neg (by decide)]
      exact t1
end WH
def wres (w : Nat) (T : Int32 × Int32 × Int32) : Int32 := if w = 0 then T.1 else if w = 2 then T.2.2 else if T.1 = 0 then 0 else T.2.1
section OPS54
variable {LL : Nat} {xs : Nat → Int32} {d : Nat}
theorem op_was (hd : 80 ≤ d) (a0 a b e : Int32) : iv_op (xk_ro LL xs) d 98 197 [.int a0, .int a, .int b, .int e] := by
  refine op_mk (fc := fun tx A V cu => fX8_was tx a0 a b e A V cu) (fm := fun tx A V cu => fX9_was a0 a b e A V cu) (fun tx A V cu r A' V' c' q => sX8_was (by omega) q) (fun tx A V cu r A' V' c' q => sX9_was (by omega) q) ?_
  intro N B A V tx cu hv
  obtain ⟨v1, v2, v3, v4, v5, v6, v7, v8, v9, v10, v11, v12, v13⟩ := id hv
  obtain ⟨⟨s1, s2, s3⟩, ⟨p1, p2, p3⟩, -⟩ := v1
  have h32 := p2_32 _ p3
  unfold fX8_was fX9_was
  rw [s1]
  rcases ix3 a0 (N 0) (by omega) with h | h | ⟨s, hs, rfl⟩
  · exact ⟨-5, A, V, cu, by simp (disch := omega) only [ltI, leI, eqI, tI, tI1, ti_0, ti_1, ti_2, ti_3, ti_4, ti_5, ti_6, ti_7, ti_8, ti_9, ti_10, ti_11, ti_12, ti_14, ti_18, ti_30, ti_39, ti_40, ti_41, ti_45, ti_50, ti_59, ti_97, ti_99, ti_100, ti_122, ti_160, ti_243, ti_255, ti_399, ti_999, ti_1000, ti_1024, ti_99999, tm_1, tm_2, tm_3, tm_4, tm_5, tm_7, tm_11, tm_12, tm_13, tm_14, tm_100, if_pos, if_neg, if_true, if_false, bC_in, bI_s, bS_s, bX_s, bY_s, sO, tC], A, V, cu, by simp (disch := omega) only [ltI, leI, eqI, tI, tI1, ti_0, ti_1, ti_2, ti_3, ti_4, ti_5, ti_6, ti_7, ti_8, ti_9, ti_10, ti_11, ti_12, ti_14, ti_18, ti_30, ti_39, ti_40, ti_41, ti_45, ti_50, ti_59, ti_97, ti_99, ti_100, ti_122, ti_160, ti_243, ti_255, ti_399, ti_999, ti_1000, ti_1024, ti_99999, tm_1, tm_2, tm_3, tm_4, tm_5, tm_7, tm_11, tm_12, tm_13, tm_14, tm_100, if_pos, if_neg, if_true, if_false, bC_in, bI_s, bS_s, bX_s, bY_s, sO, tC, s2], N, B, hv⟩
  · exact ⟨-5, A, V, cu, by simp (disch := omega) only [ltI, leI, eqI, tI, tI1, ti_0, ti_1, ti_2, ti_3, ti_4, ti_5, ti_6, ti_7, ti_8, ti_9, ti_10, ti_11, ti_12, ti_14, ti_18, ti_30, ti_39, ti_40, ti_41, ti_45, ti_50, ti_59, ti_97, ti_99, ti_100, ti_122, ti_160, ti_243, ti_255, ti_399, ti_999, ti_1000, ti_1024, ti_99999, tm_1, tm_2, tm_3, tm_4, tm_5, tm_7, tm_11, tm_12, tm_13, tm_14, tm_100, if_pos, if_neg, if_true, if_false, bC_in, bI_s, bS_s, bX_s, bY_s, sO, tC], A, V, cu, by simp (disch := omega) only [ltI, leI, eqI, tI, tI1, ti_0, ti_1, ti_2, ti_3, ti_4, ti_5, ti_6, ti_7, ti_8, ti_9, ti_10, ti_11, ti_12, ti_14, ti_18, ti_30, ti_39, ti_40, ti_41, ti_45, ti_50, ti_59, ti_97, ti_99, ti_100, ti_122, ti_160, ti_243, ti_255, ti_399, ti_999, ti_1000, ti_1024, ti_99999, tm_1, tm_2, tm_3, tm_4, tm_5, tm_7, tm_11, tm_12, tm_13, tm_14, tm_100, if_pos, if_neg, if_true, if_false, bC_in, bI_s, bS_s, bX_s, bY_s, sO, tC, s2], N, B, hv⟩
  rcases ix3 a 4 (by omega) with h | h | ⟨r, hr, rfl⟩
  · exact ⟨-7, A, V, cu, by simp (disch := omega) only [ltI, leI, eqI, tI, tI1, ti_0, ti_1, ti_2, ti_3, ti_4, ti_5, ti_6, ti_7, ti_8, ti_9, ti_10, ti_11, ti_12, ti_14, ti_18, ti_30, ti_39, ti_40, ti_41, ti_45, ti_50, ti_59, ti_97, ti_99, ti_100, ti_122, ti_160, ti_243, ti_255, ti_399, ti_999, ti_1000, ti_1024, ti_99999, tm_1, tm_2, tm_3, tm_4, tm_5, tm_7, tm_11, tm_12, tm_13, tm_14, tm_100, if_pos, if_neg, if_true, if_false, bC_in, bI_s, bS_s, bX_s, bY_s, sO, tC], A, V, cu, by simp (disch := omega) only [ltI, leI, eqI, tI, tI1, ti_0, ti_1, ti_2, ti_3, ti_4, ti_5, ti_6, ti_7, ti_8, ti_9, ti_10, ti_11, ti_12, ti_14, ti_18, ti_30, ti_39, ti_40, ti_41, ti_45, ti_50, ti_59, ti_97, ti_99, ti_100, ti_122, ti_160, ti_243, ti_255, ti_399, ti_999, ti_1000, ti_1024, ti_99999, tm_1, tm_2, tm_3, tm_4, tm_5, tm_7, tm_11, tm_12, tm_13, tm_14, tm_100, if_pos, if_neg, if_true, if_false, bC_in, bI_s, bS_s, bX_s, bY_s, sO, tC, s2], N, B, hv⟩
  · exact ⟨-7, A, V, cu, by simp (disch := omega) only [ltI, leI, eqI, tI, tI1, ti_0, ti_1, ti_2, ti_3, ti_4, ti_5, ti_6, ti_7, ti_8, ti_9, ti_10, ti_11, ti_12, ti_14, ti_18, ti_30, ti_39, ti_40, ti_41, ti_45, ti_50, ti_59, ti_97, ti_99, ti_100, ti_122, ti_160, ti_243, ti_255, ti_399, ti_999, ti_1000, ti_1024, ti_99999, tm_1, tm_2, tm_3, tm_4, tm_5, tm_7, tm_11, tm_12, tm_13, tm_14, tm_100, if_pos, if_neg, if_true, if_false, bC_in, bI_s, bS_s, bX_s, bY_s, sO, tC], A, V, cu, by simp (disch := omega) only [ltI, leI, eqI, tI, tI1, ti_0, ti_1, ti_2, ti_3, ti_4, ti_5, ti_6, ti_7, ti_8, ti_9, ti_10, ti_11, ti_12, ti_14, ti_18, ti_30, ti_39, ti_40, ti_41, ti_45, ti_50, ti_59, ti_97, ti_99, ti_100, ti_122, ti_160, ti_243, ti_255, ti_399, ti_999, ti_1000, ti_1024, ti_99999, tm_1, tm_2, tm_3, tm_4, tm_5, tm_7, tm_11, tm_12, tm_13, tm_14, tm_100, if_pos, if_neg, if_true, if_false, bC_in, bI_s, bS_s, bX_s, bY_s, sO, tC, s2], N, B, hv⟩
  rcases ix3 e 3 (by omega) with h | h | ⟨w, hw, rfl⟩
  · exact ⟨-7, A, V, cu, by simp (disch := omega) only [ltI, leI, eqI, tI, tI1, ti_0, ti_1, ti_2, ti_3, ti_4, ti_5, ti_6, ti_7, ti_8, ti_9, ti_10, ti_11, ti_12, ti_14, ti_18, ti_30, ti_39, ti_40, ti_41, ti_45, ti_50, ti_59, ti_97, ti_99, ti_100, ti_122, ti_160, ti_243, ti_255, ti_399, ti_999, ti_1000, ti_1024, ti_99999, tm_1, tm_2, tm_3, tm_4, tm_5, tm_7, tm_11, tm_12, tm_13, tm_14, tm_100, if_pos, if_neg, if_true, if_false, bC_in, bI_s, bS_s, bX_s, bY_s, sO, tC], A, V, cu, by simp (disch := omega) only [ltI, leI, eqI, tI, tI1, ti_0, ti_1, ti_2, ti_3, ti_4, ti_5, ti_6, ti_7, ti_8, ti_9, ti_10, ti_11, ti_12, ti_14, ti_18, ti_30, ti_39, ti_40, ti_41, ti_45, ti_50, ti_59, ti_97, ti_99, ti_100, ti_122, ti_160, ti_243, ti_255, ti_399, ti_999, ti_1000, ti_1024, ti_99999, tm_1, tm_2, tm_3, tm_4, tm_5, tm_7, tm_11, tm_12, tm_13, tm_14, tm_100, if_pos, if_neg, if_true, if_false, bC_in, bI_s, bS_s, bX_s, bY_s, sO, tC, s2], N, B, hv⟩
  · exact ⟨-7, A, V, cu, by simp (disch := omega) only [ltI, leI, eqI, tI, tI1, ti_0, ti_1, ti_2, ti_3, ti_4, ti_5, ti_6, ti_7, ti_8, ti_9, ti_10, ti_11, ti_12, ti_14, ti_18, ti_30, ti_39, ti_40, ti_41, ti_45, ti_50, ti_59, ti_97, ti_99, ti_100, ti_122, ti_160, ti_243, ti_255, ti_399, ti_999, ti_1000, ti_1024, ti_99999, tm_1, tm_2, tm_3, tm_4, tm_5, tm_7, tm_11, tm_12, tm_13, tm_14, tm_100, if_pos, if_neg, if_true, if_false, bC_in, bI_s, bS_s, bX_s, bY_s, sO, tC], A, V, cu, by simp (disch := omega) only [ltI, leI, eqI, tI, tI1, ti_0, ti_1, ti_2, ti_3, ti_4, ti_5, ti_6, ti_7, ti_8, ti_9, ti_10, ti_11, ti_12, ti_14, ti_18, ti_30, ti_39, ti_40, ti_41, ti_45, ti_50, ti_59, ti_97, ti_99, ti_100, ti_122, ti_160, ti_243, ti_255, ti_399, ti_999, ti_1000, ti_1024, ti_99999, tm_1, tm_2, tm_3, tm_4, tm_5, tm_7, tm_11, tm_12, tm_13, tm_14, tm_100, if_pos, if_neg, if_true, if_false, bC_in, bI_s, bS_s, bX_s, bY_s, sO, tC, s2], N, B, hv⟩
  rcases ix3 b 4 (by omega) with h | h | ⟨j, hj, rfl⟩
  · exact ⟨-2, A, V, cu, by simp (disch := omega) only [ltI, leI, eqI, tI, tI1, ti_0, ti_1, ti_2, ti_3, ti_4, ti_5, ti_6, ti_7, ti_8, ti_9, ti_10, ti_11, ti_12, ti_14, ti_18, ti_30, ti_39, ti_40, ti_41, ti_45, ti_50, ti_59, ti_97, ti_99, ti_100, ti_122, ti_160, ti_243, ti_255, ti_399, ti_999, ti_1000, ti_1024, ti_99999, tm_1, tm_2, tm_3, tm_4, tm_5, tm_7, tm_11, tm_12, tm_13, tm_14, tm_100, if_pos, if_neg, if_true, if_false, bC_in, bI_s, bS_s, bX_s, bY_s, sO, tC], A, V, cu, by simp (disch := omega) only [ltI, leI, eqI, tI, tI1, ti_0, ti_1, ti_2, ti_3, ti_4, ti_5, ti_6, ti_7, ti_8, ti_9, ti_10, ti_11, ti_12, ti_14, ti_18, ti_30, ti_39, ti_40, ti_41, ti_45, ti_50, ti_59, ti_97, ti_99, ti_100, ti_122, ti_160, ti_243, ti_255, ti_399, ti_999, ti_1000, ti_1024, ti_99999, tm_1, tm_2, tm_3, tm_4, tm_5, tm_7, tm_11, tm_12, tm_13, tm_14, tm_100, if_pos, if_neg, if_true, if_false, bC_in, bI_s, bS_s, bX_s, bY_s, sO, tC, s2], N, B, hv⟩
  · exact ⟨-2, A, V, cu, by simp (disch := omega) only [ltI, leI, eqI, tI, tI1, ti_0, ti_1, ti_2, ti_3, ti_4, ti_5, ti_6, ti_7, ti_8, ti_9, ti_10, ti_11, ti_12, ti_14, ti_18, ti_30, ti_39, ti_40, ti_41, ti_45, ti_50, ti_59, ti_97, ti_99, ti_100, ti_122, ti_160, ti_243, ti_255, ti_399, ti_999, ti_1000, ti_1024, ti_99999, tm_1, tm_2, tm_3, tm_4, tm_5, tm_7, tm_11, tm_12, tm_13, tm_14, tm_100, if_pos, if_neg, if_true, if_false, bC_in, bI_s, bS_s, bX_s, bY_s, sO, tC], A, V, cu, by simp (disch := omega) only [ltI, leI, eqI, tI, tI1, ti_0, ti_1, ti_2, ti_3, ti_4, ti_5, ti_6, ti_7, ti_8, ti_9, ti_10, ti_11, ti_12, ti_14, ti_18, ti_30, ti_39, ti_40, ti_41, ti_45, ti_50, ti_59, ti_97, ti_99, ti_100, ti_122, ti_160, ti_243, ti_255, ti_399, ti_999, ti_1000, ti_1024, ti_99999, tm_1, tm_2, tm_3, tm_4, tm_5, tm_7, tm_11, tm_12, tm_13, tm_14, tm_100, if_pos, if_neg, if_true, if_false, bC_in, bI_s, bS_s, bX_s, bY_s, sO, tC, s2], N, B, hv⟩
  obtain ⟨n, n1, n2, n3, n4, n5, n6⟩ := sheet_ok hv hj
  have gc : ∀ X Y : Option (Int32 × xS), (if (nI s) < 0 then X else (if nI (N 0) ≤ nI s then X else (if (6 : Int32) ≤ nI s then X else Y))) = Y := by
    intro X Y
    rw [if_neg (by simp (disch := omega) only [ltI, leI, eqI, tI, tI1, ti_0, ti_1, ti_2, ti_3, ti_4, ti_5, ti_6, ti_7, ti_8, ti_9, ti_10, ti_11, ti_12, ti_14, ti_18, ti_30, ti_39, ti_40, ti_41, ti_45, ti_50, ti_59, ti_97, ti_99, ti_100, ti_122, ti_160, ti_243, ti_255, ti_399, ti_999, ti_1000, ti_1024, ti_99999, tm_1, tm_2, tm_3, tm_4, tm_5, tm_7, tm_11, tm_12, tm_13, tm_14, tm_100, if_pos, if_neg, if_true, if_false, bC_in, bI_s, bS_s, bX_s, bY_s, sO, tC]; omega), if_neg (by simp (disch := omega) only [ltI, leI, eqI, tI, tI1, ti_0, ti_1, ti_2, ti_3, ti_4, ti_5, ti_6, ti_7, ti_8, ti_9, ti_10, ti_11, ti_12, ti_14, ti_18, ti_30, ti_39, ti_40, ti_41, ti_45, ti_50, ti_59, ti_97, ti_99, ti_100, ti_122, ti_160, ti_243, ti_255, ti_399, ti_999, ti_1000, ti_1024, ti_99999, tm_1, tm_2, tm_3, tm_4, tm_5, tm_7, tm_11, tm_12, tm_13, tm_14, tm_100, if_pos, if_neg, if_true, if_false, bC_in, bI_s, bS_s, bX_s, bY_s, sO, tC]; omega), if_neg (by simp (disch := omega) only [ltI, leI, eqI, tI, tI1, ti_0, ti_1, ti_2, ti_3, ti_4, ti_5, ti_6, ti_7, ti_8, ti_9, ti_10, ti_11, ti_12, ti_14, ti_18, ti_30, ti_39, ti_40, ti_41, ti_45, ti_50, ti_59, ti_97, ti_99, ti_100, ti_122, ti_160, ti_243, ti_255, ti_399, ti_999, ti_1000, ti_1024, ti_99999, tm_1, tm_2, tm_3, tm_4, tm_5, tm_7, tm_11, tm_12, tm_13, tm_14, tm_100, if_pos, if_neg, if_true, if_false, bC_in, bI_s, bS_s, bX_s, bY_s, sO, tC]; omega)]
  rw [tC (show j < 2 ^ 20 by omega)]
  rcases n6 with n6 | ⟨k, hk, n6⟩
  · exact ⟨-11, A, V, cu, by simp (disch := omega) only [ltI, leI, eqI, tI, tI1, ti_0, ti_1, ti_2, ti_3, ti_4, ti_5, ti_6, ti_7, ti_8, ti_9, ti_10, ti_11, ti_12, ti_14, ti_18, ti_30, ti_39, ti_40, ti_41, ti_45, ti_50, ti_59, ti_97, ti_99, ti_100, ti_122, ti_160, ti_243, ti_255, ti_399, ti_999, ti_1000, ti_1024, ti_99999, tm_1, tm_2, tm_3, tm_4, tm_5, tm_7, tm_11, tm_12, tm_13, tm_14, tm_100, if_pos, if_neg, if_true, if_false, bC_in, bI_s, bS_s, bX_s, bY_s, sO, tC, n2, n6], A, V, cu, by simp (disch := omega) only [ltI, leI, eqI, tI, tI1, ti_0, ti_1, ti_2, ti_3, ti_4, ti_5, ti_6, ti_7, ti_8, ti_9, ti_10, ti_11, ti_12, ti_14, ti_18, ti_30, ti_39, ti_40, ti_41, ti_45, ti_50, ti_59, ti_97, ti_99, ti_100, ti_122, ti_160, ti_243, ti_255, ti_399, ti_999, ti_1000, ti_1024, ti_99999, tm_1, tm_2, tm_3, tm_4, tm_5, tm_7, tm_11, tm_12, tm_13, tm_14, tm_100, if_pos, if_neg, if_true, if_false, bC_in, bI_s, bS_s, bX_s, bY_s, sO, tC, s2, n6], N, B, hv⟩
  by_cases hn : n = N 1
  · subst hn
    obtain ⟨A1, V1, c1, w1, w2⟩ := c_was hv hj hs hr n3 (nI w) (fun (l6_21 : Int32) (l7_22 : Int32) (l8_23 : Int32) (A30 V31 : xM) (c32 : Value) => if nI w = 0 then (some (l6_21, A30, V31, c32)) else (if nI w = (2 : Int32) then (some (l8_23, A30, V31, c32)) else (if l6_21 = 0 then (some ((0 : Int32), A30, V31, c32)) else (some (l7_22, A30, V31, c32))))) (2 ^ N 1) 0 FU A V cu (agr_r A V) (by omega) (fu_gt (by omega))
    have hv1 : iv N B A1 V1 tx c1 := iv_agr w2 hv
    obtain ⟨A2, V2, c2, y1, y2⟩ := r_was hv1 hj hs hr (nI w) (fun (l6_37 : Int32) (l7_38 : Int32) (l8_39 : Int32) (A48 V49 : xM) (c50 : Value) => if nI w = 0 then (some (l6_37, A48, V49, c50)) else (if nI w = (1 : Int32) then (if l6_37 = 0 then (some ((0 : Int32), A48, V49, c50)) else (some (l7_38, A48, V49, c50))) else (some (l8_39, A48, V49, c50)))) (2 ^ N 1) 0 FU A1 V1 c1 (agr_r A1 V1) (by omega) (fu_gt (by omega))
    rw [w2.1 131 rfl, w2.1 135 rfl, w2.1 162 rfl] at y1
    have e4 : V1 132 4 = nI (N 1) := (w2.2 132 4 rfl).trans p2
    have e2 : V1 132 2 = nI (N 0) := (w2.2 132 2 rfl).trans s2
    have e159 : A1 160 j = nI k := by rw [w2.1 160 rfl]; exact n6
    have e160 : A1 161 j = nI (N 1) := by rw [w2.1 161 rfl]; exact n4
    have hwh := r_whoHas (N := N) (A1 := A1) (V1 := V1) (l := 139) (s := s) (F := B 5) (by omega) p3 e4 (by rw [w2.1 135 rfl]; exact (need_ok hv hs).2) (fun i hi => by
      refine ⟨by rw [w2.1 139 rfl]; exact v7.2.2 i hi, ?_⟩
      have := (v7.1 (i / 6) (i % 6) (by omega) (by omega)).1
      rw [show 6 * (i / 6) + i % 6 = i by omega] at this
      exact this)
    rw [w2.1 135 rfl] at hwh
    have hq := sh_q (N 1) (by omega)
    have fin : ∀ T : Int32 × Int32 × Int32, (if nI w = 0 then (some (T.1, A1, V1, c1)) else (if nI w = (2 : Int32) then (some (T.2.2, A1, V1, c1)) else (if T.1 = 0 then (some ((0 : Int32), A1, V1, c1)) else (some (T.2.1, A1, V1, c1))))) = some (wres w T, A1, V1, c1) ∧ (if nI w = 0 then (some (T.1, A2, V2, c2)) else (if nI w = (1 : Int32) then (if T.1 = 0 then (some ((0 : Int32), A2, V2, c2)) else (some (T.2.1, A2, V2, c2))) else (some (T.2.2, A2, V2, c2)))) = some (wres w T, A2, V2, c2) := by
      intro T
      unfold wres
      rcases (show w = 0 ∨ w = 1 ∨ w = 2 by omega) with q | q | q
      · rw [q]; exact ⟨rfl, rfl⟩
      · rw [q]
        by_cases z : T.1 = 0
        · constructor
          · rw [if_neg (by decide), if_neg (by decide), if_pos z, if_neg (by decide), if_neg (by decide), if_pos z]
          · rw [if_neg (by decide), if_pos (by decide), if_pos z, if_neg (by decide), if_neg (by decide), if_pos z]
        · constructor
          · rw [if_neg (by decide), if_neg (by decide), if_neg z, if_neg (by decide), if_neg (by decide), if_neg z]
          · rw [if_neg (by decide), if_pos (by decide), if_neg z, if_neg (by decide), if_neg (by decide), if_neg z]
      · rw [q]; exact ⟨rfl, rfl⟩
    obtain ⟨f1, f2⟩ := fin (wst N (wfc N B tx (A 131) (A 135 s) (fun i => A 162 (40 * j + i)) s r) (2 ^ N 1))
    refine ⟨wres w (wst N (wfc N B tx (A 131) (A 135 s) (fun i => A 162 (40 * j + i)) s r) (2 ^ N 1)), A1, V1, c1, ?_, A2, V2, c2, ?_, N, B, iv_agr y2 hv1⟩
    · rw [gc, if_neg (by simp (disch := omega) only [ltI, leI, eqI, tI, tI1, ti_0, ti_1, ti_2, ti_3, ti_4, ti_5, ti_6, ti_7, ti_8, ti_9, ti_10, ti_11, ti_12, ti_14, ti_18, ti_30, ti_39, ti_40, ti_41, ti_45, ti_50, ti_59, ti_97, ti_99, ti_100, ti_122, ti_160, ti_243, ti_255, ti_399, ti_999, ti_1000, ti_1024, ti_99999, tm_1, tm_2, tm_3, tm_4, tm_5, tm_7, tm_11, tm_12, tm_13, tm_14, tm_100, if_pos, if_neg, if_true, if_false, bC_in, bI_s, bS_s, bX_s, bY_s, sO, tC]; omega), if_neg (by simp (disch := omega) only [ltI, leI, eqI, tI, tI1, ti_0, ti_1, ti_2, ti_3, ti_4, ti_5, ti_6, ti_7, ti_8, ti_9, ti_10, ti_11, ti_12, ti_14, ti_18, ti_30, ti_39, ti_40, ti_41, ti_45, ti_50, ti_59, ti_97, ti_99, ti_100, ti_122, ti_160, ti_243, ti_255, ti_399, ti_999, ti_1000, ti_1024, ti_99999, tm_1, tm_2, tm_3, tm_4, tm_5, tm_7, tm_11, tm_12, tm_13, tm_14, tm_100, if_pos, if_neg, if_true, if_false, bC_in, bI_s, bS_s, bX_s, bY_s, sO, tC]; omega), if_neg (by simp (disch := omega) only [ltI, leI, eqI, tI, tI1, ti_0, ti_1, ti_2, ti_3, ti_4, ti_5, ti_6, ti_7, ti_8, ti_9, ti_10, ti_11, ti_12, ti_14, ti_18, ti_30, ti_39, ti_40, ti_41, ti_45, ti_50, ti_59, ti_97, ti_99, ti_100, ti_122, ti_160, ti_243, ti_255, ti_399, ti_999, ti_1000, ti_1024, ti_99999, tm_1, tm_2, tm_3, tm_4, tm_5, tm_7, tm_11, tm_12, tm_13, tm_14, tm_100, if_pos, if_neg, if_true, if_false, bC_in, bI_s, bS_s, bX_s, bY_s, sO, tC]; omega), if_pos (by simp (disch := omega) only [ltI, leI, eqI, tI, tI1, ti_0, ti_1, ti_2, ti_3, ti_4, ti_5, ti_6, ti_7, ti_8, ti_9, ti_10, ti_11, ti_12, ti_14, ti_18, ti_30, ti_39, ti_40, ti_41, ti_45, ti_50, ti_59, ti_97, ti_99, ti_100, ti_122, ti_160, ti_243, ti_255, ti_399, ti_999, ti_1000, ti_1024, ti_99999, tm_1, tm_2, tm_3, tm_4, tm_5, tm_7, tm_11, tm_12, tm_13, tm_14, tm_100, if_pos, if_neg, if_true, if_false, bC_in, bI_s, bS_s, bX_s, bY_s, sO, tC]; omega), if_neg (by simp (disch := omega) only [ltI, leI, eqI, tI, tI1, ti_0, ti_1, ti_2, ti_3, ti_4, ti_5, ti_6, ti_7, ti_8, ti_9, ti_10, ti_11, ti_12, ti_14, ti_18, ti_30, ti_39, ti_40, ti_41, ti_45, ti_50, ti_59, ti_97, ti_99, ti_100, ti_122, ti_160, ti_243, ti_255, ti_399, ti_999, ti_1000, ti_1024, ti_99999, tm_1, tm_2, tm_3, tm_4, tm_5, tm_7, tm_11, tm_12, tm_13, tm_14, tm_100, if_pos, if_neg, if_true, if_false, bC_in, bI_s, bS_s, bX_s, bY_s, sO, tC]; omega), if_neg (by simp (disch := omega) only [ltI, leI, eqI, tI, tI1, ti_0, ti_1, ti_2, ti_3, ti_4, ti_5, ti_6, ti_7, ti_8, ti_9, ti_10, ti_11, ti_12, ti_14, ti_18, ti_30, ti_39, ti_40, ti_41, ti_45, ti_50, ti_59, ti_97, ti_99, ti_100, ti_122, ti_160, ti_243, ti_255, ti_399, ti_999, ti_1000, ti_1024, ti_99999, tm_1, tm_2, tm_3, tm_4, tm_5, tm_7, tm_11, tm_12, tm_13, tm_14, tm_100, if_pos, if_neg, if_true, if_false, bC_in, bI_s, bS_s, bX_s, bY_s, sO, tC]; omega), bC_in ⟨hj, by decide⟩, if_neg (by rw [n2, n6]; simp (disch := omega) only [ltI, leI, eqI, tI, tI1, ti_0, ti_1, ti_2, ti_3, ti_4, ti_5, ti_6, ti_7, ti_8, ti_9, ti_10, ti_11, ti_12, ti_14, ti_18, ti_30, ti_39, ti_40, ti_41, ti_45, ti_50, ti_59, ti_97, ti_99, ti_100, ti_122, ti_160, ti_243, ti_255, ti_399, ti_999, ti_1000, ti_1024, ti_99999, tm_1, tm_2, tm_3, tm_4, tm_5, tm_7, tm_11, tm_12, tm_13, tm_14, tm_100, if_pos, if_neg, if_true, if_false, bC_in, bI_s, bS_s, bX_s, bY_s, sO, tC]; omega), n3, p1, if_pos rfl, hq]
      exact Eq.trans w1 f1
    · rw [e2, e159, e160, e4, if_neg (by simp (disch := omega) only [ltI, leI, eqI, tI, tI1, ti_0, ti_1, ti_2, ti_3, ti_4, ti_5, ti_6, ti_7, ti_8, ti_9, ti_10, ti_11, ti_12, ti_14, ti_18, ti_30, ti_39, ti_40, ti_41, ti_45, ti_50, ti_59, ti_97, ti_99, ti_100, ti_122, ti_160, ti_243, ti_255, ti_399, ti_999, ti_1000, ti_1024, ti_99999, tm_1, tm_2, tm_3, tm_4, tm_5, tm_7, tm_11, tm_12, tm_13, tm_14, tm_100, if_pos, if_neg, if_true, if_false, bC_in, bI_s, bS_s, bX_s, bY_s, sO, tC]; omega), if_neg (by simp (disch := omega) only [ltI, leI, eqI, tI, tI1, ti_0, ti_1, ti_2, ti_3, ti_4, ti_5, ti_6, ti_7, ti_8, ti_9, ti_10, ti_11, ti_12, ti_14, ti_18, ti_30, ti_39, ti_40, ti_41, ti_45, ti_50, ti_59, ti_97, ti_99, ti_100, ti_122, ti_160, ti_243, ti_255, ti_399, ti_999, ti_1000, ti_1024, ti_99999, tm_1, tm_2, tm_3, tm_4, tm_5, tm_7, tm_11, tm_12, tm_13, tm_14, tm_100, if_pos, if_neg, if_true, if_false, bC_in, bI_s, bS_s, bX_s, bY_s, sO, tC]; omega), if_neg (by simp (disch := omega) only [ltI, leI, eqI, tI, tI1, ti_0, ti_1, ti_2, ti_3, ti_4, ti_5, ti_6, ti_7, ti_8, ti_9, ti_10, ti_11, ti_12, ti_14, ti_18, ti_30, ti_39, ti_40, ti_41, ti_45, ti_50, ti_59, ti_97, ti_99, ti_100, ti_122, ti_160, ti_243, ti_255, ti_399, ti_999, ti_1000, ti_1024, ti_99999, tm_1, tm_2, tm_3, tm_4, tm_5, tm_7, tm_11, tm_12, tm_13, tm_14, tm_100, if_pos, if_neg, if_true, if_false, bC_in, bI_s, bS_s, bX_s, bY_s, sO, tC]; omega), if_neg (by simp (disch := omega) only [ltI, leI, eqI, tI, tI1, ti_0, ti_1, ti_2, ti_3, ti_4, ti_5, ti_6, ti_7, ti_8, ti_9, ti_10, ti_11, ti_12, ti_14, ti_18, ti_30, ti_39, ti_40, ti_41, ti_45, ti_50, ti_59, ti_97, ti_99, ti_100, ti_122, ti_160, ti_243, ti_255, ti_399, ti_999, ti_1000, ti_1024, ti_99999, tm_1, tm_2, tm_3, tm_4, tm_5, tm_7, tm_11, tm_12, tm_13, tm_14, tm_100, if_pos, if_neg, if_true, if_false, bC_in, bI_s, bS_s, bX_s, bY_s, sO, tC]; omega), if_neg (by simp (disch := omega) only [ltI, leI, eqI, tI, tI1, ti_0, ti_1, ti_2, ti_3, ti_4, ti_5, ti_6, ti_7, ti_8, ti_9, ti_10, ti_11, ti_12, ti_14, ti_18, ti_30, ti_39, ti_40, ti_41, ti_45, ti_50, ti_59, ti_97, ti_99, ti_100, ti_122, ti_160, ti_243, ti_255, ti_399, ti_999, ti_1000, ti_1024, ti_99999, tm_1, tm_2, tm_3, tm_4, tm_5, tm_7, tm_11, tm_12, tm_13, tm_14, tm_100, if_pos, if_neg, if_true, if_false, bC_in, bI_s, bS_s, bX_s, bY_s, sO, tC]; omega), if_neg (by simp (disch := omega) only [ltI, leI, eqI, tI, tI1, ti_0, ti_1, ti_2, ti_3, ti_4, ti_5, ti_6, ti_7, ti_8, ti_9, ti_10, ti_11, ti_12, ti_14, ti_18, ti_30, ti_39, ti_40, ti_41, ti_45, ti_50, ti_59, ti_97, ti_99, ti_100, ti_122, ti_160, ti_243, ti_255, ti_399, ti_999, ti_1000, ti_1024, ti_99999, tm_1, tm_2, tm_3, tm_4, tm_5, tm_7, tm_11, tm_12, tm_13, tm_14, tm_100, if_pos, if_neg, if_true, if_false, bC_in, bI_s, bS_s, bX_s, bY_s, sO, tC]; omega), if_neg (by simp (disch := omega) only [ltI, leI, eqI, tI, tI1, ti_0, ti_1, ti_2, ti_3, ti_4, ti_5, ti_6, ti_7, ti_8, ti_9, ti_10, ti_11, ti_12, ti_14, ti_18, ti_30, ti_39, ti_40, ti_41, ti_45, ti_50, ti_59, ti_97, ti_99, ti_100, ti_122, ti_160, ti_243, ti_255, ti_399, ti_999, ti_1000, ti_1024, ti_99999, tm_1, tm_2, tm_3, tm_4, tm_5, tm_7, tm_11, tm_12, tm_13, tm_14, tm_100, if_pos, if_neg, if_true, if_false, bC_in, bI_s, bS_s, bX_s, bY_s, sO, tC]; omega), if_neg (by simp (disch := omega) only [ltI, leI, eqI, tI, tI1, ti_0, ti_1, ti_2, ti_3, ti_4, ti_5, ti_6, ti_7, ti_8, ti_9, ti_10, ti_11, ti_12, ti_14, ti_18, ti_30, ti_39, ti_40, ti_41, ti_45, ti_50, ti_59, ti_97, ti_99, ti_100, ti_122, ti_160, ti_243, ti_255, ti_399, ti_999, ti_1000, ti_1024, ti_99999, tm_1, tm_2, tm_3, tm_4, tm_5, tm_7, tm_11, tm_12, tm_13, tm_14, tm_100, if_pos, if_neg, if_true, if_false, bC_in, bI_s, bS_s, bX_s, bY_s, sO, tC]; omega), bC_in ⟨hj, by decide⟩, if_pos (by simp (disch := omega) only [ltI, leI, eqI, tI, tI1, ti_0, ti_1, ti_2, ti_3, ti_4, ti_5, ti_6, ti_7, ti_8, ti_9, ti_10, ti_11, ti_12, ti_14, ti_18, ti_30, ti_39, ti_40, ti_41, ti_45, ti_50, ti_59, ti_97, ti_99, ti_100, ti_122, ti_160, ti_243, ti_255, ti_399, ti_999, ti_1000, ti_1024, ti_99999, tm_1, tm_2, tm_3, tm_4, tm_5, tm_7, tm_11, tm_12, tm_13, tm_14, tm_100, if_pos, if_neg, if_true, if_false, bC_in, bI_s, bS_s, bX_s, bY_s, sO, tC]; omega), if_pos rfl, hwh, bI_s, hq]
      exact Eq.trans y1 f2
  · refine ⟨-2, A, V, cu, ?_, A, V, cu, ?_, N, B, hv⟩
    · rw [gc]
      simp (disch := omega) only [ltI, leI, eqI, tI, tI1, ti_0, ti_1, ti_2, ti_3, ti_4, ti_5, ti_6, ti_7, ti_8, ti_9, ti_10, ti_11, ti_12, ti_14, ti_18, ti_30, ti_39, ti_40, ti_41, ti_45, ti_50, ti_59, ti_97, ti_99, ti_100, ti_122, ti_160, ti_243, ti_255, ti_399, ti_999, ti_1000, ti_1024, ti_99999, tm_1, tm_2, tm_3, tm_4, tm_5, tm_7, tm_11, tm_12, tm_13, tm_14, tm_100, if_pos, if_neg, if_true, if_false, bC_in, bI_s, bS_s, bX_s, bY_s, sO, tC, n2, n3, n6, p1]
    · simp (disch := omega) only [ltI, leI, eqI, tI, tI1, ti_0, ti_1, ti_2, ti_3, ti_4, ti_5, ti_6, ti_7, ti_8, ti_9, ti_10, ti_11, ti_12, ti_14, ti_18, ti_30, ti_39, ti_40, ti_41, ti_45, ti_50, ti_59, ti_97, ti_99, ti_100, ti_122, ti_160, ti_243, ti_255, ti_399, ti_999, ti_1000, ti_1024, ti_99999, tm_1, tm_2, tm_3, tm_4, tm_5, tm_7, tm_11, tm_12, tm_13, tm_14, tm_100, if_pos, if_neg, if_true, if_false, bC_in, bI_s, bS_s, bX_s, bY_s, sO, tC, s2, n4, n6, p2]
end OPS54
