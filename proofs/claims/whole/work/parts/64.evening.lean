/-! evening -/
def rok (g : Nat → Int32) : Nat → Bool
  | 0 => true
  | p + 1 => rok g p && decide (-1 ≤ (g p).toInt ∧ (g p).toInt ≤ 3)
theorem rok_f {g : Nat → Int32} {i : Nat} (h : rok g i = false) : ∀ k, rok g (i + k) = false
  | 0 => h
  | k + 1 => by show (rok g (i + k) && _) = false; rw [rok_f h k]; rfl
theorem rok_t {g : Nat → Int32} : ∀ n, rok g n = true → ∀ p, p < n → -1 ≤ (g p).toInt ∧ (g p).toInt ≤ 3
  | 0, _, p, h => by omega
  | n + 1, h, p, hp => by
    rw [rok, Bool.and_eq_true] at h
    by_cases q : p = n
    · subst q; exact of_decide_eq_true h.2
    · exact rok_t n h.1 p (by omega)
def rct (g : Nat → Int32) (r : Nat) : Nat → Nat
  | 0 => 0
  | p + 1 => rct g r p + (if g p = nI r then 1 else 0)
theorem rct_le (g : Nat → Int32) (r : Nat) : ∀ n, rct g r n ≤ n
  | 0 => Nat.le_refl _
  | n + 1 => by have := rct_le g r n; rw [rct]; split <;> omega
def sok (B : Nat → Nat → Nat) (g : Nat → Int32) (n : Nat) : Nat → Bool
  | 0 => true
  | r + 1 => sok B g n r && Nat.ble (rct g r n) (B 1 r)
theorem sok_f {B : Nat → Nat → Nat} {g : Nat → Int32} {n i : Nat} (h : sok B g n i = false) : ∀ k, sok B g n (i + k) = false
  | 0 => h
  | k + 1 => by show (sok B g n (i + k) && _) = false; rw [sok_f h k]; rfl
section EV
variable {N : Nat → Nat} {B : Nat → Nat → Nat} {A V A1 V1 A' V' : xM} {tx : List xh_T} {cu cu' : Value} {LL : Nat} {xs : Nat → Int32} {d : Nat}
theorem c_at {j n x : Nat} {g : Nat → Int32} (hs : V (122 + 2 * j) 2 = nI n) (hn : n ≤ 40) (hg : ∀ x, x < 40 → A (122 + 2 * j + 1) x = g x) (hx : x < n) : fX5_at (122 + 2 * j) (nI x) A V = some (g x) := by
  unfold fX5_at fX5_has
  rw [if_neg (by simp (disch := omega) only [ltI, leI, eqI, tI, tI1, ti_0, ti_1, ti_2, ti_3, ti_4, ti_5, ti_6, ti_7, ti_8, ti_9, ti_10, ti_11, ti_12, ti_14, ti_18, ti_30, ti_39, ti_40, ti_41, ti_45, ti_50, ti_59, ti_97, ti_99, ti_100, ti_122, ti_160, ti_243, ti_255, ti_399, ti_999, ti_1000, ti_1024, ti_99999, tm_1, tm_2, tm_3, tm_4, tm_5, tm_7, tm_11, tm_12, tm_13, tm_14, tm_100, if_pos, if_neg, if_true, if_false, bC_in, bI_s, bS_s, bX_s, bY_s, sO, tC]; omega), if_neg (by simp (disch := omega) only [ltI, leI, eqI, tI, tI1, ti_0, ti_1, ti_2, ti_3, ti_4, ti_5, ti_6, ti_7, ti_8, ti_9, ti_10, ti_11, ti_12, ti_14, ti_18, ti_30, ti_39, ti_40, ti_41, ti_45, ti_50, ti_59, ti_97, ti_99, ti_100, ti_122, ti_160, ti_243, ti_255, ti_399, ti_999, ti_1000, ti_1024, ti_99999, tm_1, tm_2, tm_3, tm_4, tm_5, tm_7, tm_11, tm_12, tm_13, tm_14, tm_100, if_pos, if_neg, if_true, if_false, bC_in, bI_s, bS_s, bX_s, bY_s, sO, tC, hs]; omega), bI_s, if_neg (by decide), bC_in ⟨by omega, by decide⟩, tC (by omega), hg x (by omega)]
theorem c_tells {j n : Nat} {g : Nat → Int32} (hs : V (122 + 2 * j) 2 = nI n) (hn : n ≤ 40) (hg : ∀ x, x < 40 → A (122 + 2 * j + 1) x = g x) : fX8_tellsRooms (122 + 2 * j) A V = some (nI (rok g n).toNat) := by
  have L : ∀ k i m, i + k = n → k < m → rok g i = true → fX8_tellsRooms_L2 (122 + 2 * j) A V (some 1) m (nI i) = some (nI (rok g n).toNat) := by
    intro k
    induction k with
    | zero =>
      intro i m hi hm hr
      obtain ⟨m, rfl⟩ : ∃ q, m = q + 1 := ⟨m - 1, by omega⟩
      have : i = n := by omega
      subst this
      rw [fX8_tellsRooms_L2, hs, if_pos (by simp (disch := omega) only [ltI, leI, eqI, tI, tI1, ti_0, ti_1, ti_2, ti_3, ti_4, ti_5, ti_6, ti_7, ti_8, ti_9, ti_10, ti_11, ti_12, ti_14, ti_18, ti_30, ti_39, ti_40, ti_41, ti_45, ti_50, ti_59, ti_97, ti_99, ti_100, ti_122, ti_160, ti_243, ti_255, ti_399, ti_999, ti_1000, ti_1024, ti_99999, tm_1, tm_2, tm_3, tm_4, tm_5, tm_7, tm_11, tm_12, tm_13, tm_14, tm_100, if_pos, if_neg, if_true, if_false, bC_in, bI_s, bS_s, bX_s, bY_s, sO, tC]; omega), hr]
      rfl
    | succ k ih =>
      intro i m hi hm hr
      obtain ⟨m, rfl⟩ : ∃ q, m = q + 1 := ⟨m - 1, by omega⟩
      rw [fX8_tellsRooms_L2, hs, if_neg (by simp (disch := omega) only [ltI, leI, eqI, tI, tI1, ti_0, ti_1, ti_2, ti_3, ti_4, ti_5, ti_6, ti_7, ti_8, ti_9, ti_10, ti_11, ti_12, ti_14, ti_18, ti_30, ti_39, ti_40, ti_41, ti_45, ti_50, ti_59, ti_97, ti_99, ti_100, ti_122, ti_160, ti_243, ti_255, ti_399, ti_999, ti_1000, ti_1024, ti_99999, tm_1, tm_2, tm_3, tm_4, tm_5, tm_7, tm_11, tm_12, tm_13, tm_14, tm_100, if_pos, if_neg, if_true, if_false, bC_in, bI_s, bS_s, bX_s, bY_s, sO, tC]; omega), c_at hs hn hg (by omega), bI_s, bI_s, sO]
      have bad : ¬ (-1 ≤ (g i).toInt ∧ (g i).toInt ≤ 3) → rok g n = false := fun q => by
        have := rok_f (g := g) (i := i + 1) (by rw [rok, decide_eq_false q, Bool.and_false]) k
        rw [show i + 1 + k = n by omega] at this
        exact this
      have good : -1 ≤ (g i).toInt ∧ (g i).toInt ≤ 3 → rok g (i + 1) = true := fun q => by rw [rok, hr, decide_eq_true q]; rfl
      by_cases q1 : (g i).toInt = -1
      · rw [if_pos (by simp (disch := omega) only [ltI, leI, eqI, tI, tI1, ti_0, ti_1, ti_2, ti_3, ti_4, ti_5, ti_6, ti_7, ti_8, ti_9, ti_10, ti_11, ti_12, ti_14, ti_18, ti_30, ti_39, ti_40, ti_41, ti_45, ti_50, ti_59, ti_97, ti_99, ti_100, ti_122, ti_160, ti_243, ti_255, ti_399, ti_999, ti_1000, ti_1024, ti_99999, tm_1, tm_2, tm_3, tm_4, tm_5, tm_7, tm_11, tm_12, tm_13, tm_14, tm_100, if_pos, if_neg, if_true, if_false, bC_in, bI_s, bS_s, bX_s, bY_s, sO, tC]; exact q1)]
        exact ih (i + 1) m (by omega) (by omega) (good (by omega))
      · rw [if_neg (by simp (disch := omega) only [ltI, leI, eqI, tI, tI1, ti_0, ti_1, ti_2, ti_3, ti_4, ti_5, ti_6, ti_7, ti_8, ti_9, ti_10, ti_11, ti_12, ti_14, ti_18, ti_30, ti_39, ti_40, ti_41, ti_45, ti_50, ti_59, ti_97, ti_99, ti_100, ti_122, ti_160, ti_243, ti_255, ti_399, ti_999, ti_1000, ti_1024, ti_99999, tm_1, tm_2, tm_3, tm_4, tm_5, tm_7, tm_11, tm_12, tm_13, tm_14, tm_100, if_pos, if_neg, if_true, if_false, bC_in, bI_s, bS_s, bX_s, bY_s, sO, tC]; exact q1)]
        by_cases q2 : (g i).toInt < 0
        · rw [if_pos (by simp (disch := omega) only [ltI, leI, eqI, tI, tI1, ti_0, ti_1, ti_2, ti_3, ti_4, ti_5, ti_6, ti_7, ti_8, ti_9, ti_10, ti_11, ti_12, ti_14, ti_18, ti_30, ti_39, ti_40, ti_41, ti_45, ti_50, ti_59, ti_97, ti_99, ti_100, ti_122, ti_160, ti_243, ti_255, ti_399, ti_999, ti_1000, ti_1024, ti_99999, tm_1, tm_2, tm_3, tm_4, tm_5, tm_7, tm_11, tm_12, tm_13, tm_14, tm_100, if_pos, if_neg, if_true, if_false, bC_in, bI_s, bS_s, bX_s, bY_s, sO, tC]; exact q2), bad (by omega)]; rfl
        · rw [if_neg (by simp (disch := omega) only [ltI, leI, eqI, tI, tI1, ti_0, ti_1, ti_2, ti_3, ti_4, ti_5, ti_6, ti_7, ti_8, ti_9, ti_10, ti_11, ti_12, ti_14, ti_18, ti_30, ti_39, ti_40, ti_41, ti_45, ti_50, ti_59, ti_97, ti_99, ti_100, ti_122, ti_160, ti_243, ti_255, ti_399, ti_999, ti_1000, ti_1024, ti_99999, tm_1, tm_2, tm_3, tm_4, tm_5, tm_7, tm_11, tm_12, tm_13, tm_14, tm_100, if_pos, if_neg, if_true, if_false, bC_in, bI_s, bS_s, bX_s, bY_s, sO, tC]; exact q2)]
          by_cases q3 : 4 ≤ (g i).toInt
          · rw [if_pos (by simp (disch := omega) only [ltI, leI, eqI, tI, tI1, ti_0, ti_1, ti_2, ti_3, ti_4, ti_5, ti_6, ti_7, ti_8, ti_9, ti_10, ti_11, ti_12, ti_14, ti_18, ti_30, ti_39, ti_40, ti_41, ti_45, ti_50, ti_59, ti_97, ti_99, ti_100, ti_122, ti_160, ti_243, ti_255, ti_399, ti_999, ti_1000, ti_1024, ti_99999, tm_1, tm_2, tm_3, tm_4, tm_5, tm_7, tm_11, tm_12, tm_13, tm_14, tm_100, if_pos, if_neg, if_true, if_false, bC_in, bI_s, bS_s, bX_s, bY_s, sO, tC]; exact q3), bad (by omega)]; rfl
          · rw [if_neg (by simp (disch := omega) only [ltI, leI, eqI, tI, tI1, ti_0, ti_1, ti_2, ti_3, ti_4, ti_5, ti_6, ti_7, ti_8, ti_9, ti_10, ti_11, ti_12, ti_14, ti_18, ti_30, ti_39, ti_40, ti_41, ti_45, ti_50, ti_59, ti_97, ti_99, ti_100, ti_122, ti_160, ti_243, ti_255, ti_399, ti_999, ti_1000, ti_1024, ti_99999, tm_1, tm_2, tm_3, tm_4, tm_5, tm_7, tm_11, tm_12, tm_13, tm_14, tm_100, if_pos, if_neg, if_true, if_false, bC_in, bI_s, bS_s, bX_s, bY_s, sO, tC]; exact q3)]
            exact ih (i + 1) m (by omega) (by omega) (good (by omega))
  exact L n 0 FU (by omega) (fu_gt (by omega)) rfl
theorem r_tells {j n : Nat} {g : Nat → Int32} (hj : j < 4) (h4 : V 132 4 = nI n) (hn : n ≤ 5) (hg : ∀ x, x < 40 → A 162 (40 * j + x) = g x) (l1 l2 : Int32) (ex : Option (Int32 × xS)) : fX9_evening_L58 l1 l2 (nI j) A V cu ex FU 0 = if rok g n = true then ex else some (-2, A, V, cu) := by
  have L : ∀ k i m, i + k = n → k < m → rok g i = true → fX9_evening_L58 l1 l2 (nI j) A V cu ex m (nI i) = if rok g n = true then ex else some (-2, A, V, cu) := by
    intro k
    induction k with
    | zero =>
      intro i m hi hm hr
      obtain ⟨m, rfl⟩ : ∃ q, m = q + 1 := ⟨m - 1, by omega⟩
      have : i = n := by omega
      subst this
      rw [fX9_evening_L58, h4, if_pos (by simp (disch := omega) only [ltI, leI, eqI, tI, tI1, ti_0, ti_1, ti_2, ti_3, ti_4, ti_5, ti_6, ti_7, ti_8, ti_9, ti_10, ti_11, ti_12, ti_14, ti_18, ti_30, ti_39, ti_40, ti_41, ti_45, ti_50, ti_59, ti_97, ti_99, ti_100, ti_122, ti_160, ti_243, ti_255, ti_399, ti_999, ti_1000, ti_1024, ti_99999, tm_1, tm_2, tm_3, tm_4, tm_5, tm_7, tm_11, tm_12, tm_13, tm_14, tm_100, if_pos, if_neg, if_true, if_false, bC_in, bI_s, bS_s, bX_s, bY_s, sO, tC]; omega), if_pos hr]
    | succ k ih =>
      intro i m hi hm hr
      obtain ⟨m, rfl⟩ : ∃ q, m = q + 1 := ⟨m - 1, by omega⟩
      have e40 : (40 : Int32) * nI j + nI i = nI (40 * j + i) := by rw [show (40 : Int32) = nI 40 from rfl, pk_mul, nI_add]
      rw [fX9_evening_L58, h4, if_neg (by simp (disch := omega) only [ltI, leI, eqI, tI, tI1, ti_0, ti_1, ti_2, ti_3, ti_4, ti_5, ti_6, ti_7, ti_8, ti_9, ti_10, ti_11, ti_12, ti_14, ti_18, ti_30, ti_39, ti_40, ti_41, ti_45, ti_50, ti_59, ti_97, ti_99, ti_100, ti_122, ti_160, ti_243, ti_255, ti_399, ti_999, ti_1000, ti_1024, ti_99999, tm_1, tm_2, tm_3, tm_4, tm_5, tm_7, tm_11, tm_12, tm_13, tm_14, tm_100, if_pos, if_neg, if_true, if_false, bC_in, bI_s, bS_s, bX_s, bY_s, sO, tC]; omega), e40, bC_in ⟨by omega, by decide⟩, tC (by omega), hg i (by omega), sO]
      have bad : ¬ (-1 ≤ (g i).toInt ∧ (g i).toInt ≤ 3) → ¬ rok g n = true := fun q => by
        have := rok_f (g := g) (i := i + 1) (by rw [rok, decide_eq_false q, Bool.and_false]) k
        rw [show i + 1 + k = n by omega] at this
        rw [this]
        decide
      have good : -1 ≤ (g i).toInt ∧ (g i).toInt ≤ 3 → rok g (i + 1) = true := fun q => by rw [rok, hr, decide_eq_true q]; rfl
      by_cases q1 : (g i).toInt < -1
      · rw [if_pos (by simp (disch := omega) only [ltI, leI, eqI, tI, tI1, ti_0, ti_1, ti_2, ti_3, ti_4, ti_5, ti_6, ti_7, ti_8, ti_9, ti_10, ti_11, ti_12, ti_14, ti_18, ti_30, ti_39, ti_40, ti_41, ti_45, ti_50, ti_59, ti_97, ti_99, ti_100, ti_122, ti_160, ti_243, ti_255, ti_399, ti_999, ti_1000, ti_1024, ti_99999, tm_1, tm_2, tm_3, tm_4, tm_5, tm_7, tm_11, tm_12, tm_13, tm_14, tm_100, if_pos, if_neg, if_true, if_false, bC_in, bI_s, bS_s, bX_s, bY_s, sO, tC]; exact q1), if_neg (bad (by omega))]
      · rw [if_neg (by simp (disch := omega) only [ltI, leI, eqI, tI, tI1, ti_0, ti_1, ti_2, ti_3, ti_4, ti_5, ti_6, ti_7, ti_8, ti_9, ti_10, ti_11, ti_12, ti_14, ti_18, ti_30, ti_39, ti_40, ti_41, ti_45, ti_50, ti_59, ti_97, ti_99, ti_100, ti_122, ti_160, ti_243, ti_255, ti_399, ti_999, ti_1000, ti_1024, ti_99999, tm_1, tm_2, tm_3, tm_4, tm_5, tm_7, tm_11, tm_12, tm_13, tm_14, tm_100, if_pos, if_neg, if_true, if_false, bC_in, bI_s, bS_s, bX_s, bY_s, sO, tC]; exact q1)]
        by_cases q2 : 3 < (g i).toInt
        · rw [if_pos (by simp (disch := omega) only [ltI, leI, eqI, tI, tI1, ti_0, ti_1, ti_2, ti_3, ti_4, ti_5, ti_6, ti_7, ti_8, ti_9, ti_10, ti_11, ti_12, ti_14, ti_18, ti_30, ti_39, ti_40, ti_41, ti_45, ti_50, ti_59, ti_97, ti_99, ti_100, ti_122, ti_160, ti_243, ti_255, ti_399, ti_999, ti_1000, ti_1024, ti_99999, tm_1, tm_2, tm_3, tm_4, tm_5, tm_7, tm_11, tm_12, tm_13, tm_14, tm_100, if_pos, if_neg, if_true, if_false, bC_in, bI_s, bS_s, bX_s, bY_s, sO, tC]; exact q2), if_neg (bad (by omega))]
        · rw [if_neg (by simp (disch := omega) only [ltI, leI, eqI, tI, tI1, ti_0, ti_1, ti_2, ti_3, ti_4, ti_5, ti_6, ti_7, ti_8, ti_9, ti_10, ti_11, ti_12, ti_14, ti_18, ti_30, ti_39, ti_40, ti_41, ti_45, ti_50, ti_59, ti_97, ti_99, ti_100, ti_122, ti_160, ti_243, ti_255, ti_399, ti_999, ti_1000, ti_1024, ti_99999, tm_1, tm_2, tm_3, tm_4, tm_5, tm_7, tm_11, tm_12, tm_13, tm_14, tm_100, if_pos, if_neg, if_true, if_false, bC_in, bI_s, bS_s, bX_s, bY_s, sO, tC]; exact q2)]
          exact ih (i + 1) m (by omega) (by omega) (good (by omega))
  exact L n 0 FU (by omega) (fu_gt (by omega)) rfl
theorem c_cnt {j n r : Nat} {g : Nat → Int32} (hs : V (122 + 2 * j) 2 = nI n) (hn : n ≤ 40) (hg : ∀ x, x < 40 → A (122 + 2 * j + 1) x = g x) (ex : Int32 → Option Int32) : fX8_isSeated_L12 (122 + 2 * j) (nI r) A V ex FU 0 0 = ex (nI (rct g r n)) := by
  have L : ∀ k i m, i + k = n → k < m → fX8_isSeated_L12 (122 + 2 * j) (nI r) A V ex m (nI (rct g r i)) (nI i) = ex (nI (rct g r n)) := by
    intro k
    induction k with
    | zero =>
      intro i m hi hm
      obtain ⟨m, rfl⟩ : ∃ q, m = q + 1 := ⟨m - 1, by omega⟩
      have : i = n := by omega
      rw [fX8_isSeated_L12, hs, if_pos (by simp (disch := omega) only [ltI, leI, eqI, tI, tI1, ti_0, ti_1, ti_2, ti_3, ti_4, ti_5, ti_6, ti_7, ti_8, ti_9, ti_10, ti_11, ti_12, ti_14, ti_18, ti_30, ti_39, ti_40, ti_41, ti_45, ti_50, ti_59, ti_97, ti_99, ti_100, ti_122, ti_160, ti_243, ti_255, ti_399, ti_999, ti_1000, ti_1024, ti_99999, tm_1, tm_2, tm_3, tm_4, tm_5, tm_7, tm_11, tm_12, tm_13, tm_14, tm_100, if_pos, if_neg, if_true, if_false, bC_in, bI_s, bS_s, bX_s, bY_s, sO, tC]; omega), this]
    | succ k ih =>
      intro i m hi hm
      obtain ⟨m, rfl⟩ : ∃ q, m = q + 1 := ⟨m - 1, by omega⟩
      have t := ih (i + 1) m (by omega) (by omega)
      rw [rct] at t
      rw [fX8_isSeated_L12, hs, if_neg (by simp (disch := omega) only [ltI, leI, eqI, tI, tI1, ti_0, ti_1, ti_2, ti_3, ti_4, ti_5, ti_6, ti_7, ti_8, ti_9, ti_10, ti_11, ti_12, ti_14, ti_18, ti_30, ti_39, ti_40, ti_41, ti_45, ti_50, ti_59, ti_97, ti_99, ti_100, ti_122, ti_160, ti_243, ti_255, ti_399, ti_999, ti_1000, ti_1024, ti_99999, tm_1, tm_2, tm_3, tm_4, tm_5, tm_7, tm_11, tm_12, tm_13, tm_14, tm_100, if_pos, if_neg, if_true, if_false, bC_in, bI_s, bS_s, bX_s, bY_s, sO, tC]; omega), c_at hs hn hg (by omega), bI_s, sO, nI_1, show ∀ x : Int32, x + 0 = x from fun x => Int32.add_zero x]
      by_cases q : g i = nI r
      · rw [if_pos q] at t ⊢; exact t
      · rw [if_neg q] at t ⊢; exact t
  exact L n 0 FU (by omega) (fu_gt (by omega))
theorem r_cnt {j n r : Nat} {g : Nat → Int32} (hj : j < 4) (h4 : V 132 4 = nI n) (hn : n ≤ 5) (hg : ∀ x, x < 40 → A 162 (40 * j + x) = g x) (l1 l2 : Int32) (ex : Int32 → Option (Int32 × xS)) : fX9_evening_L111 l1 l2 (nI j) (nI r) A V cu ex FU 0 0 = ex (nI (rct g r n)) := by
  have L : ∀ k i m, i + k = n → k < m → fX9_evening_L111 l1 l2 (nI j) (nI r) A V cu ex m (nI (rct g r i)) (nI i) = ex (nI (rct g r n)) := by
    intro k
    induction k with
    | zero =>
      intro i m hi hm
      obtain ⟨m, rfl⟩ : ∃ q, m = q + 1 := ⟨m - 1, by omega⟩
      have : i = n := by omega
      rw [fX9_evening_L111, h4, if_pos (by simp (disch := omega) only [ltI, leI, eqI, tI, tI1, ti_0, ti_1, ti_2, ti_3, ti_4, ti_5, ti_6, ti_7, ti_8, ti_9, ti_10, ti_11, ti_12, ti_14, ti_18, ti_30, ti_39, ti_40, ti_41, ti_45, ti_50, ti_59, ti_97, ti_99, ti_100, ti_122, ti_160, ti_243, ti_255, ti_399, ti_999, ti_1000, ti_1024, ti_99999, tm_1, tm_2, tm_3, tm_4, tm_5, tm_7, tm_11, tm_12, tm_13, tm_14, tm_100, if_pos, if_neg, if_true, if_false, bC_in, bI_s, bS_s, bX_s, bY_s, sO, tC]; omega), this]
    | succ k ih =>
      intro i m hi hm
      obtain ⟨m, rfl⟩ : ∃ q, m = q + 1 := ⟨m - 1, by omega⟩
      have t := ih (i + 1) m (by omega) (by omega)
      have e40 : (40 : Int32) * nI j + nI i = nI (40 * j + i) := by rw [show (40 : Int32) = nI 40 from rfl, pk_mul, nI_add]
      rw [rct] at t
      rw [fX9_evening_L111, h4, if_neg (by simp (disch := omega) only [ltI, leI, eqI, tI, tI1, ti_0, ti_1, ti_2, ti_3, ti_4, ti_5, ti_6, ti_7, ti_8, ti_9, ti_10, ti_11, ti_12, ti_14, ti_18, ti_30, ti_39, ti_40, ti_41, ti_45, ti_50, ti_59, ti_97, ti_99, ti_100, ti_122, ti_160, ti_243, ti_255, ti_399, ti_999, ti_1000, ti_1024, ti_99999, tm_1, tm_2, tm_3, tm_4, tm_5, tm_7, tm_11, tm_12, tm_13, tm_14, tm_100, if_pos, if_neg, if_true, if_false, bC_in, bI_s, bS_s, bX_s, bY_s, sO, tC]; omega), e40, bC_in ⟨by omega, by decide⟩, tC (by omega), hg i (by omega), sO, nI_1, show ∀ x : Int32, x + 0 = x from fun x => Int32.add_zero x]
      by_cases q : g i = nI r
      · rw [if_pos q] at t ⊢; exact t
      · rw [if_neg q] at t ⊢; exact t
  exact L n 0 FU (by omega) (fu_gt (by omega))
theorem c_seated (h99 : ∀ r, r < 4 → A 100 r = nI (B 1 r) ∧ B 1 r ≤ 5) {j n : Nat} {g : Nat → Int32} (hs : V (122 + 2 * j) 2 = nI n) (hn : n ≤ 5) (hg : ∀ x, x < 40 → A (122 + 2 * j + 1) x = g x) : fX8_isSeated (122 + 2 * j) A V = some (nI (sok B g n 4).toNat) := by
  have L : ∀ k r m, r + k = 4 → k < m → sok B g n r = true → fX8_isSeated_L2 (122 + 2 * j) A V (some 1) m (nI r) = some (nI (sok B g n 4).toNat) := by
    intro k
    induction k with
    | zero =>
      intro r m hr hm h
      obtain ⟨m, rfl⟩ : ∃ q, m = q + 1 := ⟨m - 1, by omega⟩
      have : r = 4 := by omega
      subst this
      rw [fX8_isSeated_L2, if_pos (by decide), h]
      rfl
    | succ k ih =>
      intro r m hr hm h
      obtain ⟨m, rfl⟩ : ∃ q, m = q + 1 := ⟨m - 1, by omega⟩
      have hle := rct_le g r n
      obtain ⟨h1, h2⟩ := h99 r (by omega)
      rw [fX8_isSeated_L2, if_neg (by simp (disch := omega) only [ltI, leI, eqI, tI, tI1, ti_0, ti_1, ti_2, ti_3, ti_4, ti_5, ti_6, ti_7, ti_8, ti_9, ti_10, ti_11, ti_12, ti_14, ti_18, ti_30, ti_39, ti_40, ti_41, ti_45, ti_50, ti_59, ti_97, ti_99, ti_100, ti_122, ti_160, ti_243, ti_255, ti_399, ti_999, ti_1000, ti_1024, ti_99999, tm_1, tm_2, tm_3, tm_4, tm_5, tm_7, tm_11, tm_12, tm_13, tm_14, tm_100, if_pos, if_neg, if_true, if_false, bC_in, bI_s, bS_s, bX_s, bY_s, sO, tC]; omega), c_cnt hs (by omega) hg, bC_in ⟨by omega, by decide⟩, tC (by omega), h1, sO]
      by_cases q : rct g r n ≤ B 1 r
      · rw [if_pos (by simp (disch := omega) only [ltI, leI, eqI, tI, tI1, ti_0, ti_1, ti_2, ti_3, ti_4, ti_5, ti_6, ti_7, ti_8, ti_9, ti_10, ti_11, ti_12, ti_14, ti_18, ti_30, ti_39, ti_40, ti_41, ti_45, ti_50, ti_59, ti_97, ti_99, ti_100, ti_122, ti_160, ti_243, ti_255, ti_399, ti_999, ti_1000, ti_1024, ti_99999, tm_1, tm_2, tm_3, tm_4, tm_5, tm_7, tm_11, tm_12, tm_13, tm_14, tm_100, if_pos, if_neg, if_true, if_false, bC_in, bI_s, bS_s, bX_s, bY_s, sO, tC]; omega)]
        exact ih (r + 1) m (by omega) (by omega) (by rw [sok, h, Nat.ble_eq.mpr q]; rfl)
      · rw [if_neg (by simp (disch := omega) only [ltI, leI, eqI, tI, tI1, ti_0, ti_1, ti_2, ti_3, ti_4, ti_5, ti_6, ti_7, ti_8, ti_9, ti_10, ti_11, ti_12, ti_14, ti_18, ti_30, ti_39, ti_40, ti_41, ti_45, ti_50, ti_59, ti_97, ti_99, ti_100, ti_122, ti_160, ti_243, ti_255, ti_399, ti_999, ti_1000, ti_1024, ti_99999, tm_1, tm_2, tm_3, tm_4, tm_5, tm_7, tm_11, tm_12, tm_13, tm_14, tm_100, if_pos, if_neg, if_true, if_false, bC_in, bI_s, bS_s, bX_s, bY_s, sO, tC]; omega)]
        have hb : Nat.ble (rct g r n) (B 1 r) = false := by
          cases z : Nat.ble (rct g r n) (B 1 r) with
          | false => rfl
          | true => exact absurd (Nat.ble_eq.mp z) q
        have := sok_f (B := B) (g := g) (n := n) (i := r + 1) (by rw [sok, hb, Bool.and_false]) k
        rw [show r + 1 + k = 4 by omega] at this
        rw [this]
        rfl
  exact L 4 0 FU (by omega) (fu_gt (by omega)) rfl
theorem r_seated (h133 : ∀ r, r < 4 → A 134 r = nI (B 1 r) ∧ B 1 r ≤ 5) {j n : Nat} {g : Nat → Int32} (hj : j < 4) (h4 : V 132 4 = nI n) (hn : n ≤ 5) (hg : ∀ x, x < 40 → A 162 (40 * j + x) = g x) (l1 l2 : Int32) (ex : Option (Int32 × xS)) : fX9_evening_L99 l1 l2 (nI j) A V cu ex FU 0 = if sok B g n 4 = true then ex else some (-3, A, V, cu) := by
  have L : ∀ k r m, r + k = 4 → k < m → sok B g n r = true → fX9_evening_L99 l1 l2 (nI j) A V cu ex m (nI r) = if sok B g n 4 = true then ex else some (-3, A, V, cu) := by
    intro k
    induction k with
    | zero =>
      intro r m hr hm h
      obtain ⟨m, rfl⟩ : ∃ q, m = q + 1 := ⟨m - 1, by omega⟩
      have : r = 4 := by omega
      subst this
      rw [fX9_evening_L99, if_pos (by decide), if_pos h]
    | succ k ih =>
      intro r m hr hm h
      obtain ⟨m, rfl⟩ : ∃ q, m = q + 1 := ⟨m - 1, by omega⟩
      have hle := rct_le g r n
      obtain ⟨h1, h2⟩ := h133 r (by omega)
      rw [fX9_evening_L99, if_neg (by simp (disch := omega) only [ltI, leI, eqI, tI, tI1, ti_0, ti_1, ti_2, ti_3, ti_4, ti_5, ti_6, ti_7, ti_8, ti_9, ti_10, ti_11, ti_12, ti_14, ti_18, ti_30, ti_39, ti_40, ti_41, ti_45, ti_50, ti_59, ti_97, ti_99, ti_100, ti_122, ti_160, ti_243, ti_255, ti_399, ti_999, ti_1000, ti_1024, ti_99999, tm_1, tm_2, tm_3, tm_4, tm_5, tm_7, tm_11, tm_12, tm_13, tm_14, tm_100, if_pos, if_neg, if_true, if_false, bC_in, bI_s, bS_s, bX_s, bY_s, sO, tC]; omega), r_cnt hj h4 hn hg, bC_in ⟨by omega, by decide⟩, tC (by omega), h1, sO]
      by_cases q : rct g r n ≤ B 1 r
      · rw [if_pos (by simp (disch := omega) only [ltI, leI, eqI, tI, tI1, ti_0, ti_1, ti_2, ti_3, ti_4, ti_5, ti_6, ti_7, ti_8, ti_9, ti_10, ti_11, ti_12, ti_14, ti_18, ti_30, ti_39, ti_40, ti_41, ti_45, ti_50, ti_59, ti_97, ti_99, ti_100, ti_122, ti_160, ti_243, ti_255, ti_399, ti_999, ti_1000, ti_1024, ti_99999, tm_1, tm_2, tm_3, tm_4, tm_5, tm_7, tm_11, tm_12, tm_13, tm_14, tm_100, if_pos, if_neg, if_true, if_false, bC_in, bI_s, bS_s, bX_s, bY_s, sO, tC]; omega)]
        exact ih (r + 1) m (by omega) (by omega) (by rw [sok, h, Nat.ble_eq.mpr q]; rfl)
      · rw [if_neg (by simp (disch := omega) only [ltI, leI, eqI, tI, tI1, ti_0, ti_1, ti_2, ti_3, ti_4, ti_5, ti_6, ti_7, ti_8, ti_9, ti_10, ti_11, ti_12, ti_14, ti_18, ti_30, ti_39, ti_40, ti_41, ti_45, ti_50, ti_59, ti_97, ti_99, ti_100, ti_122, ti_160, ti_243, ti_255, ti_399, ti_999, ti_1000, ti_1024, ti_99999, tm_1, tm_2, tm_3, tm_4, tm_5, tm_7, tm_11, tm_12, tm_13, tm_14, tm_100, if_pos, if_neg, if_true, if_false, bC_in, bI_s, bS_s, bX_s, bY_s, sO, tC]; omega)]
        have hb : Nat.ble (rct g r n) (B 1 r) = false := by
          cases z : Nat.ble (rct g r n) (B 1 r) with
          | false => rfl
          | true => exact absurd (Nat.ble_eq.mp z) q
        have := sok_f (B := B) (g := g) (n := n) (i := r + 1) (by rw [sok, hb, Bool.and_false]) k
        rw [show r + 1 + k = 4 by omega] at this
        rw [if_neg (by rw [this]; decide)]
  exact L 4 0 FU (by omega) (fu_gt (by omega)) rfl
theorem c_evw {j n e : Nat} {g : Nat → Int32} (hj : j < 4) (he : e < 12) (hs : V (122 + 2 * j) 2 = nI n) (hn : n ≤ 5) (ex : xM → xM → Value → Option (Int32 × xS)) : ∀ k p m (A : xM), p + k = 5 → k < m → (∀ x, x < 40 → A (122 + 2 * j + 1) x = g x) → ∃ A2, fX8_evening_L114 (122 + 2 * j) (102 + e) ex m (nI p) A V cu = ex A2 V cu ∧ (∀ x, p ≤ x → x < 5 → A2 (102 + e) (2 + x) = if x < n then g x else -1) ∧ (∀ y, y < 2 + p → A2 (102 + e) y = A (102 + e) y) ∧ ∀ b, b ≠ 102 + e → A2 b = A b := by
  intro k
  induction k with
  | zero =>
    intro p m A hp hm hg
    obtain ⟨m, rfl⟩ : ∃ q, m = q + 1 := ⟨m - 1, by omega⟩
    refine ⟨A, ?_, fun x h1 h2 => by omega, fun _ _ => rfl, fun _ _ => rfl⟩
    rw [fX8_evening_L114, if_pos (by simp (disch := omega) only [ltI, leI, eqI, tI, tI1, ti_0, ti_1, ti_2, ti_3, ti_4, ti_5, ti_6, ti_7, ti_8, ti_9, ti_10, ti_11, ti_12, ti_14, ti_18, ti_30, ti_39, ti_40, ti_41, ti_45, ti_50, ti_59, ti_97, ti_99, ti_100, ti_122, ti_160, ti_243, ti_255, ti_399, ti_999, ti_1000, ti_1024, ti_99999, tm_1, tm_2, tm_3, tm_4, tm_5, tm_7, tm_11, tm_12, tm_13, tm_14, tm_100, if_pos, if_neg, if_true, if_false, bC_in, bI_s, bS_s, bX_s, bY_s, sO, tC]; omega)]
  | succ k ih =>
    intro p m A hp hm hg
    obtain ⟨m, rfl⟩ : ∃ q, m = q + 1 := ⟨m - 1, by omega⟩
    have e2 : (2 : Int32) + nI p = nI (2 + p) := nI_add 2 p
    have go : ∀ v, v = (if p < n then g p else -1) → ∃ A2, fX8_evening_L114 (122 + 2 * j) (102 + e) ex m (nI (p + 1)) (aw A (102 + e) (nI (2 + p)) v) V cu = ex A2 V cu ∧ (∀ x, p ≤ x → x < 5 → A2 (102 + e) (2 + x) = if x < n then g x else -1) ∧ (∀ y, y < 2 + p → A2 (102 + e) y = A (102 + e) y) ∧ ∀ b, b ≠ 102 + e → A2 b = A b := by
      intro v hv
      obtain ⟨A2, w1, w2, w3, w4⟩ := ih (p + 1) m (aw A (102 + e) (nI (2 + p)) v) (by omega) (by omega) (fun x hx => by rw [aw_n (by omega)]; exact hg x hx)
      refine ⟨A2, w1, fun x h1 h2 => ?_, fun y hy => ?_, fun b hb => (w4 b hb).trans (aw_n hb)⟩
      · by_cases q : x = p
        · subst q
          rw [w3 _ (by omega), aw_s, tC (by omega), pk_us, hv]
        · exact w2 x (by omega) h2
      · rw [w3 y (by omega), aw_s, tC (by omega), pk_un (by omega)]
    rw [fX8_evening_L114, if_neg (by simp (disch := omega) only [ltI, leI, eqI, tI, tI1, ti_0, ti_1, ti_2, ti_3, ti_4, ti_5, ti_6, ti_7, ti_8, ti_9, ti_10, ti_11, ti_12, ti_14, ti_18, ti_30, ti_39, ti_40, ti_41, ti_45, ti_50, ti_59, ti_97, ti_99, ti_100, ti_122, ti_160, ti_243, ti_255, ti_399, ti_999, ti_1000, ti_1024, ti_99999, tm_1, tm_2, tm_3, tm_4, tm_5, tm_7, tm_11, tm_12, tm_13, tm_14, tm_100, if_pos, if_neg, if_true, if_false, bC_in, bI_s, bS_s, bX_s, bY_s, sO, tC]; omega), hs, e2, bC_in ⟨by omega, by decide⟩, sO]
    by_cases q : p < n
    · rw [if_neg (by simp (disch := omega) only [ltI, leI, eqI, tI, tI1, ti_0, ti_1, ti_2, ti_3, ti_4, ti_5, ti_6, ti_7, ti_8, ti_9, ti_10, ti_11, ti_12, ti_14, ti_18, ti_30, ti_39, ti_40, ti_41, ti_45, ti_50, ti_59, ti_97, ti_99, ti_100, ti_122, ti_160, ti_243, ti_255, ti_399, ti_999, ti_1000, ti_1024, ti_99999, tm_1, tm_2, tm_3, tm_4, tm_5, tm_7, tm_11, tm_12, tm_13, tm_14, tm_100, if_pos, if_neg, if_true, if_false, bC_in, bI_s, bS_s, bX_s, bY_s, sO, tC]; omega), c_at hs (by omega) hg q, bI_s, bC_in ⟨by omega, by decide⟩]
      exact go _ (by rw [if_pos q])
    · rw [if_pos (by simp (disch := omega) only [ltI, leI, eqI, tI, tI1, ti_0, ti_1, ti_2, ti_3, ti_4, ti_5, ti_6, ti_7, ti_8, ti_9, ti_10, ti_11, ti_12, ti_14, ti_18, ti_30, ti_39, ti_40, ti_41, ti_45, ti_50, ti_59, ti_97, ti_99, ti_100, ti_122, ti_160, ti_243, ti_255, ti_399, ti_999, ti_1000, ti_1024, ti_99999, tm_1, tm_2, tm_3, tm_4, tm_5, tm_7, tm_11, tm_12, tm_13, tm_14, tm_100, if_pos, if_neg, if_true, if_false, bC_in, bI_s, bS_s, bX_s, bY_s, sO, tC]; omega)]
      exact go _ (by rw [if_neg q])
theorem r_evw {j n e : Nat} {g : Nat → Int32} (hj : j < 4) (he : e < 12) (h4 : V 132 4 = nI n) (h9 : V 132 9 = nI e) (hn : n ≤ 5) (ex : xM → xM → Value → Option (Int32 × xS)) : ∀ k p m (A : xM), p + k = 5 → k < m → (∀ x, x < 40 → A 162 (40 * j + x) = g x) → ∃ A2, fX9_evening_L209 (nI j) ex m (nI p) A V cu = ex A2 V cu ∧ (∀ x, p ≤ x → x < 5 → A2 142 (5 * e + x) = if x < n then g x else -1) ∧ (∀ y, ¬ (5 * e + p ≤ y ∧ y < 5 * e + 5) → A2 142 y = A 142 y) ∧ ∀ b, b ≠ 142 → A2 b = A b := by
  intro k
  induction k with
  | zero =>
    intro p m A hp hm hg
    obtain ⟨m, rfl⟩ : ∃ q, m = q + 1 := ⟨m - 1, by omega⟩
    refine ⟨A, ?_, fun x h1 h2 => by omega, fun _ _ => rfl, fun _ _ => rfl⟩
    rw [fX9_evening_L209, if_pos (by simp (disch := omega) only [ltI, leI, eqI, tI, tI1, ti_0, ti_1, ti_2, ti_3, ti_4, ti_5, ti_6, ti_7, ti_8, ti_9, ti_10, ti_11, ti_12, ti_14, ti_18, ti_30, ti_39, ti_40, ti_41, ti_45, ti_50, ti_59, ti_97, ti_99, ti_100, ti_122, ti_160, ti_243, ti_255, ti_399, ti_999, ti_1000, ti_1024, ti_99999, tm_1, tm_2, tm_3, tm_4, tm_5, tm_7, tm_11, tm_12, tm_13, tm_14, tm_100, if_pos, if_neg, if_true, if_false, bC_in, bI_s, bS_s, bX_s, bY_s, sO, tC]; omega)]
  | succ k ih =>
    intro p m A hp hm hg
    obtain ⟨m, rfl⟩ : ∃ q, m = q + 1 := ⟨m - 1, by omega⟩
    have e5 : (5 : Int32) * nI e + nI p = nI (5 * e + p) := by rw [show (5 : Int32) = nI 5 from rfl, pk_mul, nI_add]
    have e40 : (40 : Int32) * nI j + nI p = nI (40 * j + p) := by rw [show (40 : Int32) = nI 40 from rfl, pk_mul, nI_add]
    have go : ∀ v, v = (if p < n then g p else -1) → ∃ A2, fX9_evening_L209 (nI j) ex m (nI (p + 1)) (aw A 142 (nI (5 * e + p)) v) V cu = ex A2 V cu ∧ (∀ x, p ≤ x → x < 5 → A2 142 (5 * e + x) = if x < n then g x else -1) ∧ (∀ y, ¬ (5 * e + p ≤ y ∧ y < 5 * e + 5) → A2 142 y = A 142 y) ∧ ∀ b, b ≠ 142 → A2 b = A b := by
      intro v hv
      obtain ⟨A2, w1, w2, w3, w4⟩ := ih (p + 1) m (aw A 142 (nI (5 * e + p)) v) (by omega) (by omega) (fun x hx => by rw [aw_n (by decide)]; exact hg x hx)
      refine ⟨A2, w1, fun x h1 h2 => ?_, fun y hy => ?_, fun b hb => (w4 b hb).trans (aw_n hb)⟩
      · by_cases q : x = p
        · subst q
          rw [w3 _ (by omega), aw_s, tC (by omega), pk_us, hv]
        · exact w2 x (by omega) h2
      · rw [w3 y (by omega), aw_s, tC (by omega), pk_un (by omega)]
    rw [fX9_evening_L209, if_neg (by simp (disch := omega) only [ltI, leI, eqI, tI, tI1, ti_0, ti_1, ti_2, ti_3, ti_4, ti_5, ti_6, ti_7, ti_8, ti_9, ti_10, ti_11, ti_12, ti_14, ti_18, ti_30, ti_39, ti_40, ti_41, ti_45, ti_50, ti_59, ti_97, ti_99, ti_100, ti_122, ti_160, ti_243, ti_255, ti_399, ti_999, ti_1000, ti_1024, ti_99999, tm_1, tm_2, tm_3, tm_4, tm_5, tm_7, tm_11, tm_12, tm_13, tm_14, tm_100, if_pos, if_neg, if_true, if_false, bC_in, bI_s, bS_s, bX_s, bY_s, sO, tC]; omega), h4, h9, e5, e40, bC_in ⟨by omega, by decide⟩, sO]
    by_cases q : p < n
    · rw [if_neg (by simp (disch := omega) only [ltI, leI, eqI, tI, tI1, ti_0, ti_1, ti_2, ti_3, ti_4, ti_5, ti_6, ti_7, ti_8, ti_9, ti_10, ti_11, ti_12, ti_14, ti_18, ti_30, ti_39, ti_40, ti_41, ti_45, ti_50, ti_59, ti_97, ti_99, ti_100, ti_122, ti_160, ti_243, ti_255, ti_399, ti_999, ti_1000, ti_1024, ti_99999, tm_1, tm_2, tm_3, tm_4, tm_5, tm_7, tm_11, tm_12, tm_13, tm_14, tm_100, if_pos, if_neg, if_true, if_false, bC_in, bI_s, bS_s, bX_s, bY_s, sO, tC]; omega), bC_in ⟨by omega, by decide⟩, bC_in ⟨by omega, by decide⟩, tC (by omega), hg p (by omega)]
      exact go _ (by rw [if_pos q])
    · rw [if_pos (by simp (disch := omega) only [ltI, leI, eqI, tI, tI1, ti_0, ti_1, ti_2, ti_3, ti_4, ti_5, ti_6, ti_7, ti_8, ti_9, ti_10, ti_11, ti_12, ti_14, ti_18, ti_30, ti_39, ti_40, ti_41, ti_45, ti_50, ti_59, ti_97, ti_99, ti_100, ti_122, ti_160, ti_243, ti_255, ti_399, ti_999, ti_1000, ti_1024, ti_99999, tm_1, tm_2, tm_3, tm_4, tm_5, tm_7, tm_11, tm_12, tm_13, tm_14, tm_100, if_pos, if_neg, if_true, if_false, bC_in, bI_s, bS_s, bX_s, bY_s, sO, tC]; omega)]
      exact go _ (by rw [if_neg q])
theorem even_of {A : xM} (h : ∀ i, i < 12 → iv_e1 (A (102 + i)) (A 140 i) (A 141 i) (fun p => A 142 (5 * i + p))) : iv_e1 (A 102) (A 140 0) (A 141 0) (fun p => A 142 (0 + p)) ∧ iv_e1 (A 103) (A 140 1) (A 141 1) (fun p => A 142 (5 + p)) ∧ iv_e1 (A 104) (A 140 2) (A 141 2) (fun p => A 142 (10 + p)) ∧ iv_e1 (A 105) (A 140 3) (A 141 3) (fun p => A 142 (15 + p)) ∧ iv_e1 (A 106) (A 140 4) (A 141 4) (fun p => A 142 (20 + p)) ∧ iv_e1 (A 107) (A 140 5) (A 141 5) (fun p => A 142 (25 + p)) ∧ iv_e1 (A 108) (A 140 6) (A 141 6) (fun p => A 142 (30 + p)) ∧ iv_e1 (A 109) (A 140 7) (A 141 7) (fun p => A 142 (35 + p)) ∧ iv_e1 (A 110) (A 140 8) (A 141 8) (fun p => A 142 (40 + p)) ∧ iv_e1 (A 111) (A 140 9) (A 141 9) (fun p => A 142 (45 + p)) ∧ iv_e1 (A 112) (A 140 10) (A 141 10) (fun p => A 142 (50 + p)) ∧ iv_e1 (A 113) (A 140 11) (A 141 11) (fun p => A 142 (55 + p)) := ⟨h 0 (by decide), h 1 (by decide), h 2 (by decide), h 3 (by decide), h 4 (by decide), h 5 (by decide), h 6 (by decide), h 7 (by decide), h 8 (by decide), h 9 (by decide), h 10 (by decide), h 11 (by decide)⟩
theorem op_evening (hd : 70 ≤ d) (a b c : Int32) : iv_op (xk_ro LL xs) d 83 174 [.int a, .int b, .int c] := by
  refine op_mk (fc := fun tx A V cu => fX8_evening a b c A V cu) (fm := fun tx A V cu => fX9_evening a b c A V cu) (fun tx A V cu r A' V' c' q => sX8_evening (by omega) q) (fun tx A V cu r A' V' c' q => sX9_evening (by omega) q) ?_
  intro N B A V tx cu hv
  obtain ⟨v1, v2, v3, v4, v5, v6, v7, v8, v9, v10, v11, v12, v13⟩ := id hv
  obtain ⟨⟨s1, s2, s3⟩, ⟨p1, p2, p3⟩, ⟨e1, e2, e3⟩, ⟨t1, t2, t3⟩, ⟨l1, l2, l3⟩, ⟨z1, z2, z3⟩⟩ := v1
  unfold fX8_evening fX9_evening
  rw [s1]
  rcases ix3 a (N 0) (by omega) with h | h | ⟨s, hs, rfl⟩
  · exact ⟨-2, A, V, cu, by simp (disch := omega) only [ltI, leI, eqI, tI, tI1, ti_0, ti_1, ti_2, ti_3, ti_4, ti_5, ti_6, ti_7, ti_8, ti_9, ti_10, ti_11, ti_12, ti_14, ti_18, ti_30, ti_39, ti_40, ti_41, ti_45, ti_50, ti_59, ti_97, ti_99, ti_100, ti_122, ti_160, ti_243, ti_255, ti_399, ti_999, ti_1000, ti_1024, ti_99999, tm_1, tm_2, tm_3, tm_4, tm_5, tm_7, tm_11, tm_12, tm_13, tm_14, tm_100, if_pos, if_neg, if_true, if_false, bC_in, bI_s, bS_s, bX_s, bY_s, sO, tC], A, V, cu, by simp (disch := omega) only [ltI, leI, eqI, tI, tI1, ti_0, ti_1, ti_2, ti_3, ti_4, ti_5, ti_6, ti_7, ti_8, ti_9, ti_10, ti_11, ti_12, ti_14, ti_18, ti_30, ti_39, ti_40, ti_41, ti_45, ti_50, ti_59, ti_97, ti_99, ti_100, ti_122, ti_160, ti_243, ti_255, ti_399, ti_999, ti_1000, ti_1024, ti_99999, tm_1, tm_2, tm_3, tm_4, tm_5, tm_7, tm_11, tm_12, tm_13, tm_14, tm_100, if_pos, if_neg, if_true, if_false, bC_in, bI_s, bS_s, bX_s, bY_s, sO, tC, s2], N, B, hv⟩
  · exact ⟨-2, A, V, cu, by simp (disch := omega) only [ltI, leI, eqI, tI, tI1, ti_0, ti_1, ti_2, ti_3, ti_4, ti_5, ti_6, ti_7, ti_8, ti_9, ti_10, ti_11, ti_12, ti_14, ti_18, ti_30, ti_39, ti_40, ti_41, ti_45, ti_50, ti_59, ti_97, ti_99, ti_100, ti_122, ti_160, ti_243, ti_255, ti_399, ti_999, ti_1000, ti_1024, ti_99999, tm_1, tm_2, tm_3, tm_4, tm_5, tm_7, tm_11, tm_12, tm_13, tm_14, tm_100, if_pos, if_neg, if_true, if_false, bC_in, bI_s, bS_s, bX_s, bY_s, sO, tC], A, V, cu, by simp (disch := omega) only [ltI, leI, eqI, tI, tI1, ti_0, ti_1, ti_2, ti_3, ti_4, ti_5, ti_6, ti_7, ti_8, ti_9, ti_10, ti_11, ti_12, ti_14, ti_18, ti_30, ti_39, ti_40, ti_41, ti_45, ti_50, ti_59, ti_97, ti_99, ti_100, ti_122, ti_160, ti_243, ti_255, ti_399, ti_999, ti_1000, ti_1024, ti_99999, tm_1, tm_2, tm_3, tm_4, tm_5, tm_7, tm_11, tm_12, tm_13, tm_14, tm_100, if_pos, if_neg, if_true, if_false, bC_in, bI_s, bS_s, bX_s, bY_s, sO, tC, s2], N, B, hv⟩
  rcases ix3 b 4 (by omega) with h | h | ⟨r, hr, rfl⟩
  · exact ⟨-2, A, V, cu, by simp (disch := omega) only [ltI, leI, eqI, tI, tI1, ti_0, ti_1, ti_2, ti_3, ti_4, ti_5, ti_6, ti_7, ti_8, ti_9, ti_10, ti_11, ti_12, ti_14, ti_18, ti_30, ti_39, ti_40, ti_41, ti_45, ti_50, ti_59, ti_97, ti_99, ti_100, ti_122, ti_160, ti_243, ti_255, ti_399, ti_999, ti_1000, ti_1024, ti_99999, tm_1, tm_2, tm_3, tm_4, tm_5, tm_7, tm_11, tm_12, tm_13, tm_14, tm_100, if_pos, if_neg, if_true, if_false, bC_in, bI_s, bS_s, bX_s, bY_s, sO, tC], A, V, cu, by simp (disch := omega) only [ltI, leI, eqI, tI, tI1, ti_0, ti_1, ti_2, ti_3, ti_4, ti_5, ti_6, ti_7, ti_8, ti_9, ti_10, ti_11, ti_12, ti_14, ti_18, ti_30, ti_39, ti_40, ti_41, ti_45, ti_50, ti_59, ti_97, ti_99, ti_100, ti_122, ti_160, ti_243, ti_255, ti_399, ti_999, ti_1000, ti_1024, ti_99999, tm_1, tm_2, tm_3, tm_4, tm_5, tm_7, tm_11, tm_12, tm_13, tm_14, tm_100, if_pos, if_neg, if_true, if_false, bC_in, bI_s, bS_s, bX_s, bY_s, sO, tC, s2], N, B, hv⟩
  · exact ⟨-2, A, V, cu, by simp (disch := omega) only [ltI, leI, eqI, tI, tI1, ti_0, ti_1, ti_2, ti_3, ti_4, ti_5, ti_6, ti_7, ti_8, ti_9, ti_10, ti_11, ti_12, ti_14, ti_18, ti_30, ti_39, ti_40, ti_41, ti_45, ti_50, ti_59, ti_97, ti_99, ti_100, ti_122, ti_160, ti_243, ti_255, ti_399, ti_999, ti_1000, ti_1024, ti_99999, tm_1, tm_2, tm_3, tm_4, tm_5, tm_7, tm_11, tm_12, tm_13, tm_14, tm_100, if_pos, if_neg, if_true, if_false, bC_in, bI_s, bS_s, bX_s, bY_s, sO, tC], A, V, cu, by simp (disch := omega) only [ltI, leI, eqI, tI, tI1, ti_0, ti_1, ti_2, ti_3, ti_4, ti_5, ti_6, ti_7, ti_8, ti_9, ti_10, ti_11, ti_12, ti_14, ti_18, ti_30, ti_39, ti_40, ti_41, ti_45, ti_50, ti_59, ti_97, ti_99, ti_100, ti_122, ti_160, ti_243, ti_255, ti_399, ti_999, ti_1000, ti_1024, ti_99999, tm_1, tm_2, tm_3, tm_4, tm_5, tm_7, tm_11, tm_12, tm_13, tm_14, tm_100, if_pos, if_neg, if_true, if_false, bC_in, bI_s, bS_s, bX_s, bY_s, sO, tC, s2], N, B, hv⟩
  rcases ix3 c 4 (by omega) with h | h | ⟨j, hj, rfl⟩
  · exact ⟨-2, A, V, cu, by simp (disch := omega) only [ltI, leI, eqI, tI, tI1, ti_0, ti_1, ti_2, ti_3, ti_4, ti_5, ti_6, ti_7, ti_8, ti_9, ti_10, ti_11, ti_12, ti_14, ti_18, ti_30, ti_39, ti_40, ti_41, ti_45, ti_50, ti_59, ti_97, ti_99, ti_100, ti_122, ti_160, ti_243, ti_255, ti_399, ti_999, ti_1000, ti_1024, ti_99999, tm_1, tm_2, tm_3, tm_4, tm_5, tm_7, tm_11, tm_12, tm_13, tm_14, tm_100, if_pos, if_neg, if_true, if_false, bC_in, bI_s, bS_s, bX_s, bY_s, sO, tC], A, V, cu, by simp (disch := omega) only [ltI, leI, eqI, tI, tI1, ti_0, ti_1, ti_2, ti_3, ti_4, ti_5, ti_6, ti_7, ti_8, ti_9, ti_10, ti_11, ti_12, ti_14, ti_18, ti_30, ti_39, ti_40, ti_41, ti_45, ti_50, ti_59, ti_97, ti_99, ti_100, ti_122, ti_160, ti_243, ti_255, ti_399, ti_999, ti_1000, ti_1024, ti_99999, tm_1, tm_2, tm_3, tm_4, tm_5, tm_7, tm_11, tm_12, tm_13, tm_14, tm_100, if_pos, if_neg, if_true, if_false, bC_in, bI_s, bS_s, bX_s, bY_s, sO, tC, s2], N, B, hv⟩
  · exact ⟨-2, A, V, cu, by simp (disch := omega) only [ltI, leI, eqI, tI, tI1, ti_0, ti_1, ti_2, ti_3, ti_4, ti_5, ti_6, ti_7, ti_8, ti_9, ti_10, ti_11, ti_12, ti_14, ti_18, ti_30, ti_39, ti_40, ti_41, ti_45, ti_50, ti_59, ti_97, ti_99, ti_100, ti_122, ti_160, ti_243, ti_255, ti_399, ti_999, ti_1000, ti_1024, ti_99999, tm_1, tm_2, tm_3, tm_4, tm_5, tm_7, tm_11, tm_12, tm_13, tm_14, tm_100, if_pos, if_neg, if_true, if_false, bC_in, bI_s, bS_s, bX_s, bY_s, sO, tC], A, V, cu, by simp (disch := omega) only [ltI, leI, eqI, tI, tI1, ti_0, ti_1, ti_2, ti_3, ti_4, ti_5, ti_6, ti_7, ti_8, ti_9, ti_10, ti_11, ti_12, ti_14, ti_18, ti_30, ti_39, ti_40, ti_41, ti_45, ti_50, ti_59, ti_97, ti_99, ti_100, ti_122, ti_160, ti_243, ti_255, ti_399, ti_999, ti_1000, ti_1024, ti_99999, tm_1, tm_2, tm_3, tm_4, tm_5, tm_7, tm_11, tm_12, tm_13, tm_14, tm_100, if_pos, if_neg, if_true, if_false, bC_in, bI_s, bS_s, bX_s, bY_s, sO, tC, s2], N, B, hv⟩
  obtain ⟨sz, g1, g2, g3, g4, g5, g6⟩ := sheet_ok hv hj
  have gc : ∀ X Y : Option (Int32 × xS), (if nI s < 0 then X else (if nI (N 0) ≤ nI s then X else (if (6 : Int32) ≤ nI s then X else (if nI r < 0 then X else (if (4 : Int32) ≤ nI r then X else (if nI j < 0 then X else (if (4 : Int32) ≤ nI j then X else Y))))))) = Y := by
    intro X Y
    rw [if_neg (by simp (disch := omega) only [ltI, leI, eqI, tI, tI1, ti_0, ti_1, ti_2, ti_3, ti_4, ti_5, ti_6, ti_7, ti_8, ti_9, ti_10, ti_11, ti_12, ti_14, ti_18, ti_30, ti_39, ti_40, ti_41, ti_45, ti_50, ti_59, ti_97, ti_99, ti_100, ti_122, ti_160, ti_243, ti_255, ti_399, ti_999, ti_1000, ti_1024, ti_99999, tm_1, tm_2, tm_3, tm_4, tm_5, tm_7, tm_11, tm_12, tm_13, tm_14, tm_100, if_pos, if_neg, if_true, if_false, bC_in, bI_s, bS_s, bX_s, bY_s, sO, tC]; omega), if_neg (by simp (disch := omega) only [ltI, leI, eqI, tI, tI1, ti_0, ti_1, ti_2, ti_3, ti_4, ti_5, ti_6, ti_7, ti_8, ti_9, ti_10, ti_11, ti_12, ti_14, ti_18, ti_30, ti_39, ti_40, ti_41, ti_45, ti_50, ti_59, ti_97, ti_99, ti_100, ti_122, ti_160, ti_243, ti_255, ti_399, ti_999, ti_1000, ti_1024, ti_99999, tm_1, tm_2, tm_3, tm_4, tm_5, tm_7, tm_11, tm_12, tm_13, tm_14, tm_100, if_pos, if_neg, if_true, if_false, bC_in, bI_s, bS_s, bX_s, bY_s, sO, tC]; omega), if_neg (by simp (disch := omega) only [ltI, leI, eqI, tI, tI1, ti_0, ti_1, ti_2, ti_3, ti_4, ti_5, ti_6, ti_7, ti_8, ti_9, ti_10, ti_11, ti_12, ti_14, ti_18, ti_30, ti_39, ti_40, ti_41, ti_45, ti_50, ti_59, ti_97, ti_99, ti_100, ti_122, ti_160, ti_243, ti_255, ti_399, ti_999, ti_1000, ti_1024, ti_99999, tm_1, tm_2, tm_3, tm_4, tm_5, tm_7, tm_11, tm_12, tm_13, tm_14, tm_100, if_pos, if_neg, if_true, if_false, bC_in, bI_s, bS_s, bX_s, bY_s, sO, tC]; omega), if_neg (by simp (disch := omega) only [ltI, leI, eqI, tI, tI1, ti_0, ti_1, ti_2, ti_3, ti_4, ti_5, ti_6, ti_7, ti_8, ti_9, ti_10, ti_11, ti_12, ti_14, ti_18, ti_30, ti_39, ti_40, ti_41, ti_45, ti_50, ti_59, ti_97, ti_99, ti_100, ti_122, ti_160, ti_243, ti_255, ti_399, ti_999, ti_1000, ti_1024, ti_99999, tm_1, tm_2, tm_3, tm_4, tm_5, tm_7, tm_11, tm_12, tm_13, tm_14, tm_100, if_pos, if_neg, if_true, if_false, bC_in, bI_s, bS_s, bX_s, bY_s, sO, tC]; omega), if_neg (by simp (disch := omega) only [ltI, leI, eqI, tI, tI1, ti_0, ti_1, ti_2, ti_3, ti_4, ti_5, ti_6, ti_7, ti_8, ti_9, ti_10, ti_11, ti_12, ti_14, ti_18, ti_30, ti_39, ti_40, ti_41, ti_45, ti_50, ti_59, ti_97, ti_99, ti_100, ti_122, ti_160, ti_243, ti_255, ti_399, ti_999, ti_1000, ti_1024, ti_99999, tm_1, tm_2, tm_3, tm_4, tm_5, tm_7, tm_11, tm_12, tm_13, tm_14, tm_100, if_pos, if_neg, if_true, if_false, bC_in, bI_s, bS_s, bX_s, bY_s, sO, tC]; omega), if_neg (by simp (disch := omega) only [ltI, leI, eqI, tI, tI1, ti_0, ti_1, ti_2, ti_3, ti_4, ti_5, ti_6, ti_7, ti_8, ti_9, ti_10, ti_11, ti_12, ti_14, ti_18, ti_30, ti_39, ti_40, ti_41, ti_45, ti_50, ti_59, ti_97, ti_99, ti_100, ti_122, ti_160, ti_243, ti_255, ti_399, ti_999, ti_1000, ti_1024, ti_99999, tm_1, tm_2, tm_3, tm_4, tm_5, tm_7, tm_11, tm_12, tm_13, tm_14, tm_100, if_pos, if_neg, if_true, if_false, bC_in, bI_s, bS_s, bX_s, bY_s, sO, tC]; omega), if_neg (by simp (disch := omega) only [ltI, leI, eqI, tI, tI1, ti_0, ti_1, ti_2, ti_3, ti_4, ti_5, ti_6, ti_7, ti_8, ti_9, ti_10, ti_11, ti_12, ti_14, ti_18, ti_30, ti_39, ti_40, ti_41, ti_45, ti_50, ti_59, ti_97, ti_99, ti_100, ti_122, ti_160, ti_243, ti_255, ti_399, ti_999, ti_1000, ti_1024, ti_99999, tm_1, tm_2, tm_3, tm_4, tm_5, tm_7, tm_11, tm_12, tm_13, tm_14, tm_100, if_pos, if_neg, if_true, if_false, bC_in, bI_s, bS_s, bX_s, bY_s, sO, tC]; omega)]
  have gr : ∀ X Y : Option (Int32 × xS), (if nI s < (0 : Int32) then X else (if nI (N 0) - (1 : Int32) < nI s then X else (if nI r < (0 : Int32) then X else (if (3 : Int32) < nI r then X else (if nI j < (0 : Int32) then X else (if (3 : Int32) < nI j then X else Y)))))) = Y := by
    intro X Y
    rw [if_neg (by simp (disch := omega) only [ltI, leI, eqI, tI, tI1, ti_0, ti_1, ti_2, ti_3, ti_4, ti_5, ti_6, ti_7, ti_8, ti_9, ti_10, ti_11, ti_12, ti_14, ti_18, ti_30, ti_39, ti_40, ti_41, ti_45, ti_50, ti_59, ti_97, ti_99, ti_100, ti_122, ti_160, ti_243, ti_255, ti_399, ti_999, ti_1000, ti_1024, ti_99999, tm_1, tm_2, tm_3, tm_4, tm_5, tm_7, tm_11, tm_12, tm_13, tm_14, tm_100, if_pos, if_neg, if_true, if_false, bC_in, bI_s, bS_s, bX_s, bY_s, sO, tC]; omega), if_neg (by simp (disch := omega) only [ltI, leI, eqI, tI, tI1, ti_0, ti_1, ti_2, ti_3, ti_4, ti_5, ti_6, ti_7, ti_8, ti_9, ti_10, ti_11, ti_12, ti_14, ti_18, ti_30, ti_39, ti_40, ti_41, ti_45, ti_50, ti_59, ti_97, ti_99, ti_100, ti_122, ti_160, ti_243, ti_255, ti_399, ti_999, ti_1000, ti_1024, ti_99999, tm_1, tm_2, tm_3, tm_4, tm_5, tm_7, tm_11, tm_12, tm_13, tm_14, tm_100, if_pos, if_neg, if_true, if_false, bC_in, bI_s, bS_s, bX_s, bY_s, sO, tC]; omega), if_neg (by simp (disch := omega) only [ltI, leI, eqI, tI, tI1, ti_0, ti_1, ti_2, ti_3, ti_4, ti_5, ti_6, ti_7, ti_8, ti_9, ti_10, ti_11, ti_12, ti_14, ti_18, ti_30, ti_39, ti_40, ti_41, ti_45, ti_50, ti_59, ti_97, ti_99, ti_100, ti_122, ti_160, ti_243, ti_255, ti_399, ti_999, ti_1000, ti_1024, ti_99999, tm_1, tm_2, tm_3, tm_4, tm_5, tm_7, tm_11, tm_12, tm_13, tm_14, tm_100, if_pos, if_neg, if_true, if_false, bC_in, bI_s, bS_s, bX_s, bY_s, sO, tC]; omega), if_neg (by simp (disch := omega) only [ltI, leI, eqI, tI, tI1, ti_0, ti_1, ti_2, ti_3, ti_4, ti_5, ti_6, ti_7, ti_8, ti_9, ti_10, ti_11, ti_12, ti_14, ti_18, ti_30, ti_39, ti_40, ti_41, ti_45, ti_50, ti_59, ti_97, ti_99, ti_100, ti_122, ti_160, ti_243, ti_255, ti_399, ti_999, ti_1000, ti_1024, ti_99999, tm_1, tm_2, tm_3, tm_4, tm_5, tm_7, tm_11, tm_12, tm_13, tm_14, tm_100, if_pos, if_neg, if_true, if_false, bC_in, bI_s, bS_s, bX_s, bY_s, sO, tC]; omega), if_neg (by simp (disch := omega) only [ltI, leI, eqI, tI, tI1, ti_0, ti_1, ti_2, ti_3, ti_4, ti_5, ti_6, ti_7, ti_8, ti_9, ti_10, ti_11, ti_12, ti_14, ti_18, ti_30, ti_39, ti_40, ti_41, ti_45, ti_50, ti_59, ti_97, ti_99, ti_100, ti_122, ti_160, ti_243, ti_255, ti_399, ti_999, ti_1000, ti_1024, ti_99999, tm_1, tm_2, tm_3, tm_4, tm_5, tm_7, tm_11, tm_12, tm_13, tm_14, tm_100, if_pos, if_neg, if_true, if_false, bC_in, bI_s, bS_s, bX_s, bY_s, sO, tC]; omega), if_neg (by simp (disch := omega) only [ltI, leI, eqI, tI, tI1, ti_0, ti_1, ti_2, ti_3, ti_4, ti_5, ti_6, ti_7, ti_8, ti_9, ti_10, ti_11, ti_12, ti_14, ti_18, ti_30, ti_39, ti_40, ti_41, ti_45, ti_50, ti_59, ti_97, ti_99, ti_100, ti_122, ti_160, ti_243, ti_255, ti_399, ti_999, ti_1000, ti_1024, ti_99999, tm_1, tm_2, tm_3, tm_4, tm_5, tm_7, tm_11, tm_12, tm_13, tm_14, tm_100, if_pos, if_neg, if_true, if_false, bC_in, bI_s, bS_s, bX_s, bY_s, sO, tC]; omega)]
  rw [tC (show j < 2 ^ 20 by omega)]
  rcases g6 with g6 | ⟨k, hk, g6⟩
  · refine ⟨-11, A, V, cu, ?_, A, V, cu, ?_, N, B, hv⟩
    · rw [gc, bC_in ⟨hj, by decide⟩, if_pos (g2.trans g6)]
    · rw [s2, gr, bC_in ⟨hj, by decide⟩, g6, if_neg (by decide)]
  have c1 : ¬ V (122 + 2 * j) 1 = -1 := by rw [g2, g6]; simp (disch := omega) only [ltI, leI, eqI, tI, tI1, ti_0, ti_1, ti_2, ti_3, ti_4, ti_5, ti_6, ti_7, ti_8, ti_9, ti_10, ti_11, ti_12, ti_14, ti_18, ti_30, ti_39, ti_40, ti_41, ti_45, ti_50, ti_59, ti_97, ti_99, ti_100, ti_122, ti_160, ti_243, ti_255, ti_399, ti_999, ti_1000, ti_1024, ti_99999, tm_1, tm_2, tm_3, tm_4, tm_5, tm_7, tm_11, tm_12, tm_13, tm_14, tm_100, if_pos, if_neg, if_true, if_false, bC_in, bI_s, bS_s, bX_s, bY_s, sO, tC]; omega
  have c2 : (0 : Int32) ≤ nI k := by simp (disch := omega) only [ltI, leI, eqI, tI, tI1, ti_0, ti_1, ti_2, ti_3, ti_4, ti_5, ti_6, ti_7, ti_8, ti_9, ti_10, ti_11, ti_12, ti_14, ti_18, ti_30, ti_39, ti_40, ti_41, ti_45, ti_50, ti_59, ti_97, ti_99, ti_100, ti_122, ti_160, ti_243, ti_255, ti_399, ti_999, ti_1000, ti_1024, ti_99999, tm_1, tm_2, tm_3, tm_4, tm_5, tm_7, tm_11, tm_12, tm_13, tm_14, tm_100, if_pos, if_neg, if_true, if_false, bC_in, bI_s, bS_s, bX_s, bY_s, sO, tC]; omega
  by_cases hsz : sz = N 1
  rotate_left
  · refine ⟨-2, A, V, cu, ?_, A, V, cu, ?_, N, B, hv⟩
    · rw [gc, bC_in ⟨hj, by decide⟩, if_neg c1, g3, p1, if_neg (by simp (disch := omega) only [ltI, leI, eqI, tI, tI1, ti_0, ti_1, ti_2, ti_3, ti_4, ti_5, ti_6, ti_7, ti_8, ti_9, ti_10, ti_11, ti_12, ti_14, ti_18, ti_30, ti_39, ti_40, ti_41, ti_45, ti_50, ti_59, ti_97, ti_99, ti_100, ti_122, ti_160, ti_243, ti_255, ti_399, ti_999, ti_1000, ti_1024, ti_99999, tm_1, tm_2, tm_3, tm_4, tm_5, tm_7, tm_11, tm_12, tm_13, tm_14, tm_100, if_pos, if_neg, if_true, if_false, bC_in, bI_s, bS_s, bX_s, bY_s, sO, tC]; omega)]
    · rw [s2, gr, bC_in ⟨hj, by decide⟩, g6, if_pos c2, g4, p2, if_neg (by simp (disch := omega) only [ltI, leI, eqI, tI, tI1, ti_0, ti_1, ti_2, ti_3, ti_4, ti_5, ti_6, ti_7, ti_8, ti_9, ti_10, ti_11, ti_12, ti_14, ti_18, ti_30, ti_39, ti_40, ti_41, ti_45, ti_50, ti_59, ti_97, ti_99, ti_100, ti_122, ti_160, ti_243, ti_255, ti_399, ti_999, ti_1000, ti_1024, ti_99999, tm_1, tm_2, tm_3, tm_4, tm_5, tm_7, tm_11, tm_12, tm_13, tm_14, tm_100, if_pos, if_neg, if_true, if_false, bC_in, bI_s, bS_s, bX_s, bY_s, sO, tC]; omega)]
  subst hsz
  have ct1 := c_tells (A := A) (V := V) (g := fun i => A 162 (40 * j + i)) g3 (by omega) g5
  have ct2 := c_seated (A := A) (V := V) (B := B) (g := fun i => A 162 (40 * j + i)) (fun r hr => ⟨(v3 r hr).1, (v3 r hr).2.2.2⟩) g3 p3 g5
  have rt1 := fun ex => r_tells (A := A) (V := V) (cu := cu) (g := fun i => A 162 (40 * j + i)) hj p2 p3 (fun _ _ => rfl) (nI s) (nI r) ex
  have rt2 := fun ex => r_seated (A := A) (V := V) (cu := cu) (B := B) (g := fun i => A 162 (40 * j + i)) (fun r hr => ⟨(v3 r hr).2.1, (v3 r hr).2.2.2⟩) hj p2 p3 (fun _ _ => rfl) (nI s) (nI r) ex
  by_cases h1 : rok (fun i => A 162 (40 * j + i)) (N 1) = true
  rotate_left
  · refine ⟨-2, A, V, cu, ?_, A, V, cu, ?_, N, B, hv⟩
    · rw [gc, bC_in ⟨hj, by decide⟩, if_neg c1, g3, p1, if_pos rfl, ct1, bI_s, show rok (fun i => A 162 (40 * j + i)) (N 1) = false by simpa using h1, nbf, if_pos rfl]
    · rw [s2, gr, bC_in ⟨hj, by decide⟩, g6, if_pos c2, g4, p2, if_pos rfl, rt1, if_neg h1]
  by_cases h2 : sok B (fun i => A 162 (40 * j + i)) (N 1) 4 = true
  rotate_left
  · refine ⟨-3, A, V, cu, ?_, A, V, cu, ?_, N, B, hv⟩
    · rw [gc, bC_in ⟨hj, by decide⟩, if_neg c1, g3, p1, if_pos rfl, ct1, bI_s, h1, nbt, if_neg (by decide), ct2, bI_s, show sok B (fun i => A 162 (40 * j + i)) (N 1) 4 = false by simpa using h2, nbf, if_pos rfl]
    · rw [s2, gr, bC_in ⟨hj, by decide⟩, g6, if_pos c2, g4, p2, if_pos rfl, rt1, if_pos h1, rt2, if_neg h2]
  by_cases h3 : N 2 = 12
  · refine ⟨-4, A, V, cu, ?_, A, V, cu, ?_, N, B, hv⟩
    · rw [gc, bC_in ⟨hj, by decide⟩, if_neg c1, g3, p1, if_pos rfl, ct1, bI_s, h1, nbt, if_neg (by decide), ct2, bI_s, h2, nbt, if_neg (by decide), e1, if_neg (by simp (disch := omega) only [ltI, leI, eqI, tI, tI1, ti_0, ti_1, ti_2, ti_3, ti_4, ti_5, ti_6, ti_7, ti_8, ti_9, ti_10, ti_11, ti_12, ti_14, ti_18, ti_30, ti_39, ti_40, ti_41, ti_45, ti_50, ti_59, ti_97, ti_99, ti_100, ti_122, ti_160, ti_243, ti_255, ti_399, ti_999, ti_1000, ti_1024, ti_99999, tm_1, tm_2, tm_3, tm_4, tm_5, tm_7, tm_11, tm_12, tm_13, tm_14, tm_100, if_pos, if_neg, if_true, if_false, bC_in, bI_s, bS_s, bX_s, bY_s, sO, tC]; omega)]
    · rw [s2, gr, bC_in ⟨hj, by decide⟩, g6, if_pos c2, g4, p2, if_pos rfl, rt1, if_pos h1, rt2, if_pos h2, e2, if_pos (by simp (disch := omega) only [ltI, leI, eqI, tI, tI1, ti_0, ti_1, ti_2, ti_3, ti_4, ti_5, ti_6, ti_7, ti_8, ti_9, ti_10, ti_11, ti_12, ti_14, ti_18, ti_30, ti_39, ti_40, ti_41, ti_45, ti_50, ti_59, ti_97, ti_99, ti_100, ti_122, ti_160, ti_243, ti_255, ti_399, ti_999, ti_1000, ti_1024, ti_99999, tm_1, tm_2, tm_3, tm_4, tm_5, tm_7, tm_11, tm_12, tm_13, tm_14, tm_100, if_pos, if_neg, if_true, if_false, bC_in, bI_s, bS_s, bX_s, bY_s, sO, tC]; omega)]
  -- it is told
  have e12 : N 2 < 12 := by omega
  obtain ⟨A0, hA0⟩ : ∃ A0 : xM, A0 = aw (aw A (102 + N 2) (0 : Int32) (nI s)) (102 + N 2) (1 : Int32) (nI r) := ⟨_, rfl⟩
  have a00 : A0 (102 + N 2) 0 = nI s := by rw [hA0, aw_s, aw_s]; rfl
  have a01 : A0 (102 + N 2) 1 = nI r := by rw [hA0, aw_s]; rfl
  have a0n : ∀ b, b ≠ 102 + N 2 → A0 b = A b := fun b hb => by rw [hA0, aw_n hb, aw_n hb]
  obtain ⟨A1, w1, w2, w3, w4⟩ := c_evw (V := V) (cu := cu) (e := N 2) (n := N 1) (g := fun i => A 162 (40 * j + i)) hj e12 g3 p3 (fun (A34 V35 : xM) (c36 : Value) => some ((((up2 V35 64 14 ((V35 64 14) + (1 : Int32))) 64 14) - (1 : Int32)), A34, (up2 V35 64 14 ((V35 64 14) + (1 : Int32))), c36)) 5 0 FU A0 (by omega) (fu_gt (by omega)) (fun x hx => by rw [a0n _ (by omega)]; exact g5 x hx)
  have b1 : ∀ b, b ≠ 102 + N 2 → A1 b = A b := fun b hb => (w4 b hb).trans (a0n b hb)
  obtain ⟨V1, hV1⟩ : ∃ V1 : xM, V1 = up2 V 64 14 (nI (N 2 + 1)) := ⟨_, rfl⟩
  have eV1 : ∀ a k, ¬ (a = 64 ∧ k = 14) → V1 a k = V a k := fun a k h => by rw [hV1, up2_n h]
  obtain ⟨A2, x1, x2, x3, x4⟩ := r_evw (V := V1) (cu := cu) (e := N 2) (n := N 1) (g := fun i => A 162 (40 * j + i)) hj e12 ((eV1 132 4 (by omega)).trans p2) ((eV1 132 9 (by omega)).trans e2) p3 (fun (A41 V42 : xM) (c43 : Value) => some ((((up2 V42 132 9 ((V42 132 9) + (1 : Int32))) 132 9) - (1 : Int32)), A41, (up2 V42 132 9 ((V42 132 9) + (1 : Int32))), c43)) 5 0 FU (aw (aw A1 140 (nI (N 2)) (nI s)) 141 (nI (N 2)) (nI r)) (by omega) (fu_gt (by omega)) (fun x hx => by rw [aw_n (by decide), aw_n (by decide), b1 162 (by omega)])
  have m : ∀ b, b ≠ 102 + N 2 → b ≠ 140 → b ≠ 141 → b ≠ 142 → A2 b = A b := fun b h1 h2 h3 h4 => by rw [x4 b h4, aw_n h3, aw_n h2, b1 b h1]
  have mT : A2 (102 + N 2) = A1 (102 + N 2) := by rw [x4 _ (by omega), aw_n (by omega), aw_n (by omega)]
  have m139 : ∀ i, A2 140 i = if i = N 2 then nI s else A 140 i := fun i => by rw [x4 140 (by decide), aw_n (by decide), aw_s, tC (by omega), b1 140 (by omega)]; rfl
  have m140 : ∀ i, A2 141 i = if i = N 2 then nI r else A 141 i := fun i => by rw [x4 141 (by decide), aw_s, aw_n (by decide), tC (by omega), b1 141 (by omega)]; rfl
  have m141 : ∀ y, ¬ (5 * N 2 ≤ y ∧ y < 5 * N 2 + 5) → A2 142 y = A 142 y := fun y h => by rw [x3 y (by omega), aw_n (by decide), aw_n (by decide), b1 142 (by omega)]
  refine ⟨nI (N 2), A1, V1, cu, ?_, A2, up2 V1 132 9 (nI (N 2 + 1)), cu, ?_, va_up N 2 (N 2 + 1), B, iv_but_even (A := A) (V := V) (cu := cu) (fun a q => m a ?_ ?_ ?_ ?_) (fun a k q => ?_) hv ?_ ?_⟩
  · rw [gc, bC_in ⟨hj, by decide⟩, if_neg c1, g3, p1, if_pos rfl, ct1, bI_s, h1, nbt, if_neg (by decide), ct2, bI_s, h2, nbt, if_neg (by decide), e1, if_pos (by simp (disch := omega) only [ltI, leI, eqI, tI, tI1, ti_0, ti_1, ti_2, ti_3, ti_4, ti_5, ti_6, ti_7, ti_8, ti_9, ti_10, ti_11, ti_12, ti_14, ti_18, ti_30, ti_39, ti_40, ti_41, ti_45, ti_50, ti_59, ti_97, ti_99, ti_100, ti_122, ti_160, ti_243, ti_255, ti_399, ti_999, ti_1000, ti_1024, ti_99999, tm_1, tm_2, tm_3, tm_4, tm_5, tm_7, tm_11, tm_12, tm_13, tm_14, tm_100, if_pos, if_neg, if_true, if_false, bC_in, bI_s, bS_s, bX_s, bY_s, sO, tC]; omega), bC_in ⟨e12, by decide⟩, bC_t (show xq_in (0 : Int32) 7 = true from rfl), bC_t (show xq_in (1 : Int32) 7 = true from rfl), tC (by omega), ← hA0]
    refine Eq.trans w1 ?_
    rw [e1, nI_1, up2_s, nI_pred, ← hV1]
  · have k2 : A1 160 j = nI k := by rw [b1 160 (by omega)]; exact g6
    have k4 : A1 161 j = nI (N 1) := by rw [b1 161 (by omega)]; exact g4
    have q2 := (eV1 132 2 (by omega)).trans s2
    have q4 := (eV1 132 4 (by omega)).trans p2
    have q9 := (eV1 132 9 (by omega)).trans e2
    have ru1 := fun ex => r_tells (A := A1) (V := V1) (cu := cu) (g := fun i => A 162 (40 * j + i)) hj q4 p3 (fun x _ => by rw [b1 162 (by omega)]) (nI s) (nI r) ex
    have ru2 := fun ex => r_seated (A := A1) (V := V1) (cu := cu) (B := B) (g := fun i => A 162 (40 * j + i)) (fun r hr => ⟨by rw [b1 134 (by omega)]; exact (v3 r hr).2.1, (v3 r hr).2.2.2⟩) hj q4 p3 (fun x _ => by rw [b1 162 (by omega)]) (nI s) (nI r) ex
    rw [q2, gr, bC_in ⟨hj, by decide⟩, k2, if_pos c2, k4, q4, if_pos rfl, ru1, if_pos h1, ru2, if_pos h2, q9, if_neg (by simp (disch := omega) only [ltI, leI, eqI, tI, tI1, ti_0, ti_1, ti_2, ti_3, ti_4, ti_5, ti_6, ti_7, ti_8, ti_9, ti_10, ti_11, ti_12, ti_14, ti_18, ti_30, ti_39, ti_40, ti_41, ti_45, ti_50, ti_59, ti_97, ti_99, ti_100, ti_122, ti_160, ti_243, ti_255, ti_399, ti_999, ti_1000, ti_1024, ti_99999, tm_1, tm_2, tm_3, tm_4, tm_5, tm_7, tm_11, tm_12, tm_13, tm_14, tm_100, if_pos, if_neg, if_true, if_false, bC_in, bI_s, bS_s, bX_s, bY_s, sO, tC]; omega), bC_in ⟨e12, by decide⟩]
    refine Eq.trans x1 ?_
    rw [q9, nI_1, up2_s, nI_pred]
  · intro z
    have : a = 102 + N 2 := z
    have hr : a = 102 ∨ a = 103 ∨ a = 104 ∨ a = 105 ∨ a = 106 ∨ a = 107 ∨ a = 108 ∨ a = 109 ∨ a = 110 ∨ a = 111 ∨ a = 112 ∨ a = 113 := by omega
    rcases hr with y | y | y | y | y | y | y | y | y | y | y | y <;> rw [y] at q <;> cases q
  · intro z; rw [z] at q; cases q
  · intro z; rw [z] at q; cases q
  · intro z; rw [z] at q; cases q
  · rw [up2_n (by rintro ⟨rfl, rfl⟩; cases q), eV1 a k (by rintro ⟨rfl, rfl⟩; cases q)]
  · have u : ∀ a k, ¬ (a = 64 ∧ k = 14) → ¬ (a = 132 ∧ k = 9) → (up2 V1 132 9 (nI (N 2 + 1))) a k = V a k := fun a k h1 h2 => by rw [up2_n h2, eV1 a k h1]
    exact ⟨⟨(u 64 13 (by omega) (by omega)).trans s1, (u 132 2 (by omega) (by omega)).trans s2, s3⟩, ⟨(u 65 3 (by omega) (by omega)).trans p1, (u 132 4 (by omega) (by omega)).trans p2, p3⟩, ⟨by rw [up2_n (by omega), hV1, up2_s]; rfl, by rw [up2_s]; rfl, show N 2 + 1 ≤ 12 by omega⟩, ⟨(u 64 15 (by omega) (by omega)).trans t1, (u 132 15 (by omega) (by omega)).trans t2, t3⟩, ⟨(u 64 16 (by omega) (by omega)).trans l1, (u 132 16 (by omega) (by omega)).trans l2, l3⟩, ⟨(u 95 1 (by omega) (by omega)).trans z1, (u 132 14 (by omega) (by omega)).trans z2, z3⟩⟩
  · refine ⟨even_of (fun i hi => ?_), fun e he => ?_⟩
    · by_cases q : i = N 2
      · subst q
        refine ⟨?_, ?_, fun p hp => ?_⟩
        · rw [mT, w3 0 (by omega), a00, m139, if_pos rfl]
        · rw [mT, w3 1 (by omega), a01, m140, if_pos rfl]
        · rw [mT, w2 p (Nat.zero_le _) hp]
          exact (x2 p (Nat.zero_le _) hp).symm
      · obtain ⟨y0, y1, y2⟩ := ev_row hv hi
        have : A2 (102 + i) = A (102 + i) := m _ (by omega) (by omega) (by omega) (by omega)
        refine ⟨?_, ?_, fun p hp => ?_⟩
        · rw [this, m139, if_neg q]; exact y0
        · rw [this, m140, if_neg q]; exact y1
        · rw [this]
          exact (y2 p hp).trans (m141 _ (by omega)).symm
    · have he : e < N 2 + 1 := he
      by_cases q : e = N 2
      · subst q
        refine ⟨⟨s, hs, by rw [m139, if_pos rfl]⟩, ⟨r, hr, by rw [m140, if_pos rfl]⟩, fun p hp => ?_⟩
        show A2 142 (5 * N 2 + p) = -1 ∨ (p < N 1 ∧ ∃ r : Nat, r < 4 ∧ A2 142 (5 * N 2 + p) = nI r)
        rw [x2 p (Nat.zero_le _) hp]
        by_cases z : p < N 1
        · rw [if_pos z]
          have hh := rok_t (N 1) h1 p z
          by_cases y : (A 162 (40 * j + p)).toInt = -1
          · left
            exact Int32.toInt_inj.mp (y.trans tm_1.symm)
          · right
            refine ⟨z, ?_⟩
            rcases ix3 (A 162 (40 * j + p)) 4 (by omega) with u | u | u
            · omega
            · omega
            · exact u
        · rw [if_neg z]
          exact Or.inl rfl
      · obtain ⟨y0, y1, y2⟩ := v8.2 e (by omega)
        refine ⟨by rw [m139, if_neg q]; exact y0, by rw [m140, if_neg q]; exact y1, fun p hp => ?_⟩
        show A2 142 (5 * e + p) = -1 ∨ (p < N 1 ∧ ∃ r : Nat, r < 4 ∧ A2 142 (5 * e + p) = nI r)
        rw [m141 _ (by omega)]
        exact y2 p hp
end EV
