/-! PEOPLE BY A SHEET. -/
def pbl (g : Nat → Int32) (sz a : Nat) : Nat → Nat → Nat → PP → Int32 × PP
  | 0, _, c, q => (nI c, q)
  | k + 1, i, c, q => if a + 3 * i + 2 < sz then pbl g sz a k (i + 1) (c + (if pok (g (a + 3 * i)) (g (a + 3 * i + 1)) (g (a + 3 * i + 2)) = true ∧ q.1 < 5 then 1 else 0)) (padd (g (a + 3 * i)) (g (a + 3 * i + 1)) (g (a + 3 * i + 2)) q) else (-12, q)
theorem pbl_le (g : Nat → Int32) (sz a : Nat) : ∀ k i c (q : PP), q.1 ≤ 5 → q.1 ≤ (pbl g sz a k i c q).2.1 ∧ (pbl g sz a k i c q).2.1 ≤ 5
  | 0, _, _, q, h => ⟨Nat.le_refl _, h⟩
  | k + 1, i, c, q, h => by
    rw [pbl]
    split
    · have h1 := padd_le (g (a + 3 * i)) (g (a + 3 * i + 1)) (g (a + 3 * i + 2)) q h
      have h2 := pbl_le g sz a k (i + 1) (c + (if pok (g (a + 3 * i)) (g (a + 3 * i + 1)) (g (a + 3 * i + 2)) = true ∧ q.1 < 5 then 1 else 0)) (padd (g (a + 3 * i)) (g (a + 3 * i + 1)) (g (a + 3 * i + 2)) q) h1.2
      exact ⟨Nat.le_trans h1.1 h2.1, h2.2⟩
    · exact ⟨Nat.le_refl _, h⟩
theorem pres_t {k d m : Int32} {q : PP} (h : pok k d m = true ∧ q.1 < 5) : ¬ pres k d m q < 0 := by
  unfold pres
  rw [if_pos h.1, if_pos h.2]
  exact nI_pos (by have := h.2; omega)
theorem pres_f {k d m : Int32} {q : PP} (h : ¬ (pok k d m = true ∧ q.1 < 5)) : pres k d m q < 0 := by
  unfold pres
  by_cases z : pok k d m = true
  · rw [if_pos z, if_neg (fun y => h ⟨z, y⟩)]; decide
  · rw [if_neg z]; decide
theorem c_pby {j sz a n0 : Nat} {g : Nat → Int32} (hj : j < 4) (hsz : sz ≤ 40) (ha : a ≤ 40) (hn : n0 ≤ 5) (cu : Value) : ∀ k i n c (q : PP) (A V : xM), i + k = n0 → k < n → c ≤ i → pcl q A V → V (122 + 2 * j) 2 = nI sz → (∀ x, x < 40 → A (122 + 2 * j + 1) x = g x) → ∃ A1 V1, fX8_peopleBy_L63 (122 + 2 * j) (nI a) (nI n0) (fun (l6_27 : Int32) (A36 V37 : xM) (c38 : Value) => some (l6_27, A36, V37, c38)) n (nI c) (nI i) A V cu = some ((pbl g sz a k i c q).1, A1, V1, cu) ∧ pcl (pbl g sz a k i c q).2 A1 V1 ∧ (∀ a, ¬ (66 ≤ a ∧ a ≤ 71) → A1 a = A a) ∧ ∀ a j, ¬ (a = 65 ∧ (j = 3 ∨ j = 7)) → V1 a j = V a j := by
  intro k
  induction k with
  | zero =>
    intro i n c q A V hi hn hc hp hs hg
    obtain ⟨n, rfl⟩ : ∃ m, n = m + 1 := ⟨n - 1, by omega⟩
    refine ⟨A, V, ?_, hp, fun _ _ => rfl, fun _ _ _ => rfl⟩
    rw [fX8_peopleBy_L63, if_pos (by simp (disch := omega) only [ltI, leI, eqI, tI, tI1, ti_0, ti_1, ti_2, ti_3, ti_4, ti_5, ti_6, ti_7, ti_8, ti_9, ti_10, ti_11, ti_12, ti_14, ti_18, ti_30, ti_39, ti_40, ti_41, ti_45, ti_50, ti_59, ti_97, ti_99, ti_100, ti_122, ti_160, ti_243, ti_255, ti_399, ti_999, ti_1000, ti_1024, ti_99999, tm_1, tm_2, tm_3, tm_4, tm_5, tm_7, tm_11, tm_12, tm_13, tm_14, tm_100, if_pos, if_neg, if_true, if_false, bC_in, bI_s, bS_s, bX_s, bY_s, sO, tC]; omega), pbl]
  | succ k ih =>
    intro i n c q A V hi hn2 hc hp hs hg
    obtain ⟨n, rfl⟩ : ∃ m, n = m + 1 := ⟨n - 1, by omega⟩
    have e0 : nI a + (3 : Int32) * nI i = nI (a + 3 * i) := by rw [show (3 : Int32) = nI 3 from rfl, pk_mul, nI_add]
    have e1 : nI (a + 3 * i) + 1 = nI (a + 3 * i + 1) := nI_1 _
    have e2 : nI (a + 3 * i) + 2 = nI (a + 3 * i + 2) := nI_add _ 2
    have hr : fX5_hasRange (122 + 2 * j) (nI (a + 3 * i)) 3 A V = some (if a + 3 * i + 2 < sz then 1 else 0) := by
      unfold fX5_hasRange
      rw [hs, if_neg (by decide), if_neg (by simp (disch := omega) only [ltI, leI, eqI, tI, tI1, ti_0, ti_1, ti_2, ti_3, ti_4, ti_5, ti_6, ti_7, ti_8, ti_9, ti_10, ti_11, ti_12, ti_14, ti_18, ti_30, ti_39, ti_40, ti_41, ti_45, ti_50, ti_59, ti_97, ti_99, ti_100, ti_122, ti_160, ti_243, ti_255, ti_399, ti_999, ti_1000, ti_1024, ti_99999, tm_1, tm_2, tm_3, tm_4, tm_5, tm_7, tm_11, tm_12, tm_13, tm_14, tm_100, if_pos, if_neg, if_true, if_false, bC_in, bI_s, bS_s, bX_s, bY_s, sO, tC]; omega)]
      by_cases z : sz < 3
      · rw [if_pos (by simp (disch := omega) only [ltI, leI, eqI, tI, tI1, ti_0, ti_1, ti_2, ti_3, ti_4, ti_5, ti_6, ti_7, ti_8, ti_9, ti_10, ti_11, ti_12, ti_14, ti_18, ti_30, ti_39, ti_40, ti_41, ti_45, ti_50, ti_59, ti_97, ti_99, ti_100, ti_122, ti_160, ti_243, ti_255, ti_399, ti_999, ti_1000, ti_1024, ti_99999, tm_1, tm_2, tm_3, tm_4, tm_5, tm_7, tm_11, tm_12, tm_13, tm_14, tm_100, if_pos, if_neg, if_true, if_false, bC_in, bI_s, bS_s, bX_s, bY_s, sO, tC]; omega), if_neg (by omega)]
      · have e3 : nI sz - 3 = nI (sz - 3) := by rw [show (3 : Int32) = nI 3 from rfl, pk_sub (by omega)]
        rw [if_neg (by simp (disch := omega) only [ltI, leI, eqI, tI, tI1, ti_0, ti_1, ti_2, ti_3, ti_4, ti_5, ti_6, ti_7, ti_8, ti_9, ti_10, ti_11, ti_12, ti_14, ti_18, ti_30, ti_39, ti_40, ti_41, ti_45, ti_50, ti_59, ti_97, ti_99, ti_100, ti_122, ti_160, ti_243, ti_255, ti_399, ti_999, ti_1000, ti_1024, ti_99999, tm_1, tm_2, tm_3, tm_4, tm_5, tm_7, tm_11, tm_12, tm_13, tm_14, tm_100, if_pos, if_neg, if_true, if_false, bC_in, bI_s, bS_s, bX_s, bY_s, sO, tC]; omega), e3]
        by_cases z2 : a + 3 * i + 2 < sz
        · rw [if_neg (by simp (disch := omega) only [ltI, leI, eqI, tI, tI1, ti_0, ti_1, ti_2, ti_3, ti_4, ti_5, ti_6, ti_7, ti_8, ti_9, ti_10, ti_11, ti_12, ti_14, ti_18, ti_30, ti_39, ti_40, ti_41, ti_45, ti_50, ti_59, ti_97, ti_99, ti_100, ti_122, ti_160, ti_243, ti_255, ti_399, ti_999, ti_1000, ti_1024, ti_99999, tm_1, tm_2, tm_3, tm_4, tm_5, tm_7, tm_11, tm_12, tm_13, tm_14, tm_100, if_pos, if_neg, if_true, if_false, bC_in, bI_s, bS_s, bX_s, bY_s, sO, tC]; omega), if_pos z2]
        · rw [if_pos (by simp (disch := omega) only [ltI, leI, eqI, tI, tI1, ti_0, ti_1, ti_2, ti_3, ti_4, ti_5, ti_6, ti_7, ti_8, ti_9, ti_10, ti_11, ti_12, ti_14, ti_18, ti_30, ti_39, ti_40, ti_41, ti_45, ti_50, ti_59, ti_97, ti_99, ti_100, ti_122, ti_160, ti_243, ti_255, ti_399, ti_999, ti_1000, ti_1024, ti_99999, tm_1, tm_2, tm_3, tm_4, tm_5, tm_7, tm_11, tm_12, tm_13, tm_14, tm_100, if_pos, if_neg, if_true, if_false, bC_in, bI_s, bS_s, bX_s, bY_s, sO, tC]; omega), if_neg z2]
    rw [fX8_peopleBy_L63, if_neg (by simp (disch := omega) only [ltI, leI, eqI, tI, tI1, ti_0, ti_1, ti_2, ti_3, ti_4, ti_5, ti_6, ti_7, ti_8, ti_9, ti_10, ti_11, ti_12, ti_14, ti_18, ti_30, ti_39, ti_40, ti_41, ti_45, ti_50, ti_59, ti_97, ti_99, ti_100, ti_122, ti_160, ti_243, ti_255, ti_399, ti_999, ti_1000, ti_1024, ti_99999, tm_1, tm_2, tm_3, tm_4, tm_5, tm_7, tm_11, tm_12, tm_13, tm_14, tm_100, if_pos, if_neg, if_true, if_false, bC_in, bI_s, bS_s, bX_s, bY_s, sO, tC]; omega), e0, e1, e2, hr, bI_s, pbl]
    by_cases z : a + 3 * i + 2 < sz
    rotate_left
    · rw [if_neg z, if_neg z, if_pos rfl]
      exact ⟨A, V, rfl, hp, fun _ _ => rfl, fun _ _ _ => rfl⟩
    have hat : ∀ x, x < sz → fX5_at (122 + 2 * j) (nI x) A V = some (g x) := by
      intro x hx
      unfold fX5_at fX5_has
      rw [if_neg (by simp (disch := omega) only [ltI, leI, eqI, tI, tI1, ti_0, ti_1, ti_2, ti_3, ti_4, ti_5, ti_6, ti_7, ti_8, ti_9, ti_10, ti_11, ti_12, ti_14, ti_18, ti_30, ti_39, ti_40, ti_41, ti_45, ti_50, ti_59, ti_97, ti_99, ti_100, ti_122, ti_160, ti_243, ti_255, ti_399, ti_999, ti_1000, ti_1024, ti_99999, tm_1, tm_2, tm_3, tm_4, tm_5, tm_7, tm_11, tm_12, tm_13, tm_14, tm_100, if_pos, if_neg, if_true, if_false, bC_in, bI_s, bS_s, bX_s, bY_s, sO, tC]; omega), if_neg (by simp (disch := omega) only [ltI, leI, eqI, tI, tI1, ti_0, ti_1, ti_2, ti_3, ti_4, ti_5, ti_6, ti_7, ti_8, ti_9, ti_10, ti_11, ti_12, ti_14, ti_18, ti_30, ti_39, ti_40, ti_41, ti_45, ti_50, ti_59, ti_97, ti_99, ti_100, ti_122, ti_160, ti_243, ti_255, ti_399, ti_999, ti_1000, ti_1024, ti_99999, tm_1, tm_2, tm_3, tm_4, tm_5, tm_7, tm_11, tm_12, tm_13, tm_14, tm_100, if_pos, if_neg, if_true, if_false, bC_in, bI_s, bS_s, bX_s, bY_s, sO, tC, hs]; omega), bI_s, if_neg (by decide), bC_in ⟨by omega, by decide⟩, tC (by omega), hg x (by omega)]
    rw [if_pos z, if_pos z, if_neg (by decide), hat _ (by omega), bI_s, hat _ (by omega), bI_s, hat _ (by omega), bI_s]
    obtain ⟨A1, V1, w1, w2, w3, w4⟩ := c_come cu hp (g (a + 3 * i)) (g (a + 3 * i + 1)) (g (a + 3 * i + 2))
    rw [w1, bX_s, sO, sO]
    have go : ∀ c', c' ≤ i + 1 → ∃ A2 V2, fX8_peopleBy_L63 (122 + 2 * j) (nI a) (nI n0) (fun (l6_27 : Int32) (A36 V37 : xM) (c38 : Value) => some (l6_27, A36, V37, c38)) n (nI c') (nI (i + 1)) A1 V1 cu = some ((pbl g sz a k (i + 1) c' (padd (g (a + 3 * i)) (g (a + 3 * i + 1)) (g (a + 3 * i + 2)) q)).1, A2, V2, cu) ∧ pcl (pbl g sz a k (i + 1) c' (padd (g (a + 3 * i)) (g (a + 3 * i + 1)) (g (a + 3 * i + 2)) q)).2 A2 V2 ∧ (∀ a, ¬ (66 ≤ a ∧ a ≤ 71) → A2 a = A a) ∧ ∀ a j, ¬ (a = 65 ∧ (j = 3 ∨ j = 7)) → V2 a j = V a j := by
      intro c' hc'
      obtain ⟨A2, V2, x1, x2, x3, x4⟩ := ih (i + 1) n c' _ A1 V1 (by omega) (by omega) hc' w2 (by rw [w4 _ _ (by omega)]; exact hs) (fun x hx => by rw [w3 _ (by omega)]; exact hg x hx)
      exact ⟨A2, V2, x1, x2, fun a h => (x3 a h).trans (w3 a h), fun a j h => (x4 a j h).trans (w4 a j h)⟩
    by_cases y : pok (g (a + 3 * i)) (g (a + 3 * i + 1)) (g (a + 3 * i + 2)) = true ∧ q.1 < 5
    · rw [if_neg (pres_t y), if_pos y]
      exact go (c + 1) (by omega)
    · rw [if_pos (pres_f y), if_neg y, Nat.add_zero]
      exact go c (by omega)
theorem lN_i32 {n : Nat} (h : n < 2 ^ 31) : (lN n).toInt32 = nI n := by
  apply Int32.toInt_inj.mp
  rw [Int64.toInt_toInt32, pk_lT (by omega), nI_toInt h]
  unfold Int.bmod
  dsimp only
  split <;> omega
theorem r_pby {j sz a n0 : Nat} {g : Nat → Int32} (hj : j < 4) (hsz : sz ≤ 40) (ha : a ≤ 40) (hn : n0 ≤ 5) (cu : Value) : ∀ k i n c (q : PP) (A V : xM), i + k = n0 → k < n → c ≤ i → prl q A V → q.1 ≤ 5 → A 161 j = nI sz → (∀ x, x < 40 → A 162 (40 * j + x) = g x) → ∃ A1 V1, fX9_peopleBy_L60 (nI j) (nI a) (nI n0) (fun (l5_23 : Int32) (A33 V34 : xM) (c35 : Value) => some (l5_23, A33, V34, c35)) n (nI c) (nI i) A V cu = some ((pbl g sz a k i c q).1, A1, V1, cu) ∧ prl (pbl g sz a k i c q).2 A1 V1 ∧ (∀ a, ¬ (136 ≤ a ∧ a ≤ 138) → A1 a = A a) ∧ ∀ a j, ¬ (a = 132 ∧ j = 4) → V1 a j = V a j := by
  intro k
  induction k with
  | zero =>
    intro i n c q A V hi hn hc hp h5 hs hg
    obtain ⟨n, rfl⟩ : ∃ m, n = m + 1 := ⟨n - 1, by omega⟩
    refine ⟨A, V, ?_, hp, fun _ _ => rfl, fun _ _ _ => rfl⟩
    rw [fX9_peopleBy_L60, if_pos (by simp (disch := omega) only [ltI, leI, eqI, tI, tI1, ti_0, ti_1, ti_2, ti_3, ti_4, ti_5, ti_6, ti_7, ti_8, ti_9, ti_10, ti_11, ti_12, ti_14, ti_18, ti_30, ti_39, ti_40, ti_41, ti_45, ti_50, ti_59, ti_97, ti_99, ti_100, ti_122, ti_160, ti_243, ti_255, ti_399, ti_999, ti_1000, ti_1024, ti_99999, tm_1, tm_2, tm_3, tm_4, tm_5, tm_7, tm_11, tm_12, tm_13, tm_14, tm_100, if_pos, if_neg, if_true, if_false, bC_in, bI_s, bS_s, bX_s, bY_s, sO, tC]; omega), pbl]
  | succ k ih =>
    intro i n c q A V hi hn2 hc hp h5 hs hg
    obtain ⟨n, rfl⟩ : ∃ m, n = m + 1 := ⟨n - 1, by omega⟩
    have e0 : (nI a).toInt64 + (3 : Int64) * (nI i).toInt64 = lN (a + 3 * i) := by
      rw [nI_l (by omega), nI_l (by omega)]
      have : (3 : Int64) * lN i = lN (3 * i) := lN_mul 3 i
      rw [this, lN_add]
    have e2 : lN (a + 3 * i) + 2 = lN (a + 3 * i + 2) := lN_add _ 2
    have e40 : ∀ x, (40 : Int32) * nI j + nI x = nI (40 * j + x) := fun x => by rw [show (40 : Int32) = nI 40 from rfl, pk_mul, nI_add]
    have c0 : ¬ lg_cmp (lN (a + 3 * i)) 0 < 0 := by
      rw [lg_cmp_lt]
      intro z
      exact absurd ((pk_lLT (a := a + 3 * i) (b := 0) (by omega) (by decide)).mp z) (by omega)
    have c2 : (lg_cmp (lN (a + 3 * i + 2)) (nI sz).toInt64 < 0) = (a + 3 * i + 2 < sz) := by
      apply propext
      rw [lg_cmp_lt, nI_l (by omega)]
      exact pk_lLT (by omega) (by omega)
    rw [fX9_peopleBy_L60, if_neg (by simp (disch := omega) only [ltI, leI, eqI, tI, tI1, ti_0, ti_1, ti_2, ti_3, ti_4, ti_5, ti_6, ti_7, ti_8, ti_9, ti_10, ti_11, ti_12, ti_14, ti_18, ti_30, ti_39, ti_40, ti_41, ti_45, ti_50, ti_59, ti_97, ti_99, ti_100, ti_122, ti_160, ti_243, ti_255, ti_399, ti_999, ti_1000, ti_1024, ti_99999, tm_1, tm_2, tm_3, tm_4, tm_5, tm_7, tm_11, tm_12, tm_13, tm_14, tm_100, if_pos, if_neg, if_true, if_false, bC_in, bI_s, bS_s, bX_s, bY_s, sO, tC]; omega), e0, if_neg c0, bC_in ⟨hj, by decide⟩, tC (by omega), hs, e2, pbl]
    by_cases z : a + 3 * i + 2 < sz
    rotate_left
    · rw [if_neg (by rw [c2]; exact z), if_neg z]
      exact ⟨A, V, rfl, hp, fun _ _ => rfl, fun _ _ _ => rfl⟩
    have f1 : nI (40 * j + (a + 3 * i)) + 1 = nI (40 * j + (a + 3 * i + 1)) := nI_1 _
    have f2 : nI (40 * j + (a + 3 * i)) + 2 = nI (40 * j + (a + 3 * i + 2)) := nI_add _ 2
    rw [if_pos (by rw [c2]; exact z), if_pos z, lN_i32 (by omega), e40, f1, f2, bC_in ⟨by omega, by decide⟩, bC_in ⟨by omega, by decide⟩, bC_in ⟨by omega, by decide⟩, tC (by omega), tC (by omega), tC (by omega), hg _ (by omega), hg _ (by omega), hg _ (by omega)]
    obtain ⟨A1, V1, w1, w2, w3, w4⟩ := r_come cu hp h5 (g (a + 3 * i)) (g (a + 3 * i + 1)) (g (a + 3 * i + 2))
    rw [w1, bX_s, sO]
    have go : ∀ c', c' ≤ i + 1 → ∃ A2 V2, fX9_peopleBy_L60 (nI j) (nI a) (nI n0) (fun (l5_23 : Int32) (A33 V34 : xM) (c35 : Value) => some (l5_23, A33, V34, c35)) n (nI c') (nI (i + 1)) A1 V1 cu = some ((pbl g sz a k (i + 1) c' (padd (g (a + 3 * i)) (g (a + 3 * i + 1)) (g (a + 3 * i + 2)) q)).1, A2, V2, cu) ∧ prl (pbl g sz a k (i + 1) c' (padd (g (a + 3 * i)) (g (a + 3 * i + 1)) (g (a + 3 * i + 2)) q)).2 A2 V2 ∧ (∀ a, ¬ (136 ≤ a ∧ a ≤ 138) → A2 a = A a) ∧ ∀ a j, ¬ (a = 132 ∧ j = 4) → V2 a j = V a j := by
      intro c' hc'
      obtain ⟨A2, V2, x1, x2, x3, x4⟩ := ih (i + 1) n c' _ A1 V1 (by omega) (by omega) hc' w2 (padd_le _ _ _ q h5).2 (by rw [w3 161 (by omega)]; exact hs) (fun x hx => by rw [w3 162 (by omega)]; exact hg x hx)
      exact ⟨A2, V2, x1, x2, fun a h => (x3 a h).trans (w3 a h), fun a j h => (x4 a j h).trans (w4 a j h)⟩
    by_cases y : pok (g (a + 3 * i)) (g (a + 3 * i + 1)) (g (a + 3 * i + 2)) = true ∧ q.1 < 5
    · rw [if_neg (pres_t y), if_pos y, nI_1]
      exact go (c + 1) (by omega)
    · rw [if_pos (pres_f y), if_neg y, Nat.add_zero, show ∀ x : Int32, x + 0 = x from fun x => Int32.add_zero x]
      exact go c (by omega)
section PB
variable {LL : Nat} {xs : Nat → Int32} {d : Nat}
theorem op_peopleBy (hd : 70 ≤ d) (a b c e : Int32) : iv_op (xk_ro LL xs) d 109 214 [.int a, .int b, .int c, .int e] := by
  refine op_mk (fc := fun tx A V cu => fX8_peopleBy a b c e A V cu) (fm := fun tx A V cu => fX9_peopleBy a b c e A V cu) (fun tx A V cu r A' V' c' q => sX8_peopleBy (by omega) q) (fun tx A V cu r A' V' c' q => sX9_peopleBy (by omega) q) ?_
  intro N B A V tx cu hv
  have p3 : N 1 ≤ 5 := hv.1.2.1.2.2
  unfold fX8_peopleBy fX9_peopleBy
  rcases ix3 a 4 (by omega) with h | h | ⟨j, hj, rfl⟩
  · exact ⟨-2, A, V, cu, by simp (disch := omega) only [ltI, leI, eqI, tI, tI1, ti_0, ti_1, ti_2, ti_3, ti_4, ti_5, ti_6, ti_7, ti_8, ti_9, ti_10, ti_11, ti_12, ti_14, ti_18, ti_30, ti_39, ti_40, ti_41, ti_45, ti_50, ti_59, ti_97, ti_99, ti_100, ti_122, ti_160, ti_243, ti_255, ti_399, ti_999, ti_1000, ti_1024, ti_99999, tm_1, tm_2, tm_3, tm_4, tm_5, tm_7, tm_11, tm_12, tm_13, tm_14, tm_100, if_pos, if_neg, if_true, if_false, bC_in, bI_s, bS_s, bX_s, bY_s, sO, tC], A, V, cu, by simp (disch := omega) only [ltI, leI, eqI, tI, tI1, ti_0, ti_1, ti_2, ti_3, ti_4, ti_5, ti_6, ti_7, ti_8, ti_9, ti_10, ti_11, ti_12, ti_14, ti_18, ti_30, ti_39, ti_40, ti_41, ti_45, ti_50, ti_59, ti_97, ti_99, ti_100, ti_122, ti_160, ti_243, ti_255, ti_399, ti_999, ti_1000, ti_1024, ti_99999, tm_1, tm_2, tm_3, tm_4, tm_5, tm_7, tm_11, tm_12, tm_13, tm_14, tm_100, if_pos, if_neg, if_true, if_false, bC_in, bI_s, bS_s, bX_s, bY_s, sO, tC], N, B, hv⟩
  · exact ⟨-2, A, V, cu, by simp (disch := omega) only [ltI, leI, eqI, tI, tI1, ti_0, ti_1, ti_2, ti_3, ti_4, ti_5, ti_6, ti_7, ti_8, ti_9, ti_10, ti_11, ti_12, ti_14, ti_18, ti_30, ti_39, ti_40, ti_41, ti_45, ti_50, ti_59, ti_97, ti_99, ti_100, ti_122, ti_160, ti_243, ti_255, ti_399, ti_999, ti_1000, ti_1024, ti_99999, tm_1, tm_2, tm_3, tm_4, tm_5, tm_7, tm_11, tm_12, tm_13, tm_14, tm_100, if_pos, if_neg, if_true, if_false, bC_in, bI_s, bS_s, bX_s, bY_s, sO, tC], A, V, cu, by simp (disch := omega) only [ltI, leI, eqI, tI, tI1, ti_0, ti_1, ti_2, ti_3, ti_4, ti_5, ti_6, ti_7, ti_8, ti_9, ti_10, ti_11, ti_12, ti_14, ti_18, ti_30, ti_39, ti_40, ti_41, ti_45, ti_50, ti_59, ti_97, ti_99, ti_100, ti_122, ti_160, ti_243, ti_255, ti_399, ti_999, ti_1000, ti_1024, ti_99999, tm_1, tm_2, tm_3, tm_4, tm_5, tm_7, tm_11, tm_12, tm_13, tm_14, tm_100, if_pos, if_neg, if_true, if_false, bC_in, bI_s, bS_s, bX_s, bY_s, sO, tC], N, B, hv⟩
  rcases ix3 b 3 (by omega) with h | h | ⟨so, hso, rfl⟩
  · exact ⟨-2, A, V, cu, by simp (disch := omega) only [ltI, leI, eqI, tI, tI1, ti_0, ti_1, ti_2, ti_3, ti_4, ti_5, ti_6, ti_7, ti_8, ti_9, ti_10, ti_11, ti_12, ti_14, ti_18, ti_30, ti_39, ti_40, ti_41, ti_45, ti_50, ti_59, ti_97, ti_99, ti_100, ti_122, ti_160, ti_243, ti_255, ti_399, ti_999, ti_1000, ti_1024, ti_99999, tm_1, tm_2, tm_3, tm_4, tm_5, tm_7, tm_11, tm_12, tm_13, tm_14, tm_100, if_pos, if_neg, if_true, if_false, bC_in, bI_s, bS_s, bX_s, bY_s, sO, tC], A, V, cu, by simp (disch := omega) only [ltI, leI, eqI, tI, tI1, ti_0, ti_1, ti_2, ti_3, ti_4, ti_5, ti_6, ti_7, ti_8, ti_9, ti_10, ti_11, ti_12, ti_14, ti_18, ti_30, ti_39, ti_40, ti_41, ti_45, ti_50, ti_59, ti_97, ti_99, ti_100, ti_122, ti_160, ti_243, ti_255, ti_399, ti_999, ti_1000, ti_1024, ti_99999, tm_1, tm_2, tm_3, tm_4, tm_5, tm_7, tm_11, tm_12, tm_13, tm_14, tm_100, if_pos, if_neg, if_true, if_false, bC_in, bI_s, bS_s, bX_s, bY_s, sO, tC], N, B, hv⟩
  · exact ⟨-2, A, V, cu, by simp (disch := omega) only [ltI, leI, eqI, tI, tI1, ti_0, ti_1, ti_2, ti_3, ti_4, ti_5, ti_6, ti_7, ti_8, ti_9, ti_10, ti_11, ti_12, ti_14, ti_18, ti_30, ti_39, ti_40, ti_41, ti_45, ti_50, ti_59, ti_97, ti_99, ti_100, ti_122, ti_160, ti_243, ti_255, ti_399, ti_999, ti_1000, ti_1024, ti_99999, tm_1, tm_2, tm_3, tm_4, tm_5, tm_7, tm_11, tm_12, tm_13, tm_14, tm_100, if_pos, if_neg, if_true, if_false, bC_in, bI_s, bS_s, bX_s, bY_s, sO, tC], A, V, cu, by simp (disch := omega) only [ltI, leI, eqI, tI, tI1, ti_0, ti_1, ti_2, ti_3, ti_4, ti_5, ti_6, ti_7, ti_8, ti_9, ti_10, ti_11, ti_12, ti_14, ti_18, ti_30, ti_39, ti_40, ti_41, ti_45, ti_50, ti_59, ti_97, ti_99, ti_100, ti_122, ti_160, ti_243, ti_255, ti_399, ti_999, ti_1000, ti_1024, ti_99999, tm_1, tm_2, tm_3, tm_4, tm_5, tm_7, tm_11, tm_12, tm_13, tm_14, tm_100, if_pos, if_neg, if_true, if_false, bC_in, bI_s, bS_s, bX_s, bY_s, sO, tC], N, B, hv⟩
  rcases ix3 e 6 (by omega) with h | h | ⟨n0, hn0, rfl⟩
  · exact ⟨-2, A, V, cu, by simp (disch := omega) only [ltI, leI, eqI, tI, tI1, ti_0, ti_1, ti_2, ti_3, ti_4, ti_5, ti_6, ti_7, ti_8, ti_9, ti_10, ti_11, ti_12, ti_14, ti_18, ti_30, ti_39, ti_40, ti_41, ti_45, ti_50, ti_59, ti_97, ti_99, ti_100, ti_122, ti_160, ti_243, ti_255, ti_399, ti_999, ti_1000, ti_1024, ti_99999, tm_1, tm_2, tm_3, tm_4, tm_5, tm_7, tm_11, tm_12, tm_13, tm_14, tm_100, if_pos, if_neg, if_true, if_false, bC_in, bI_s, bS_s, bX_s, bY_s, sO, tC], A, V, cu, by simp (disch := omega) only [ltI, leI, eqI, tI, tI1, ti_0, ti_1, ti_2, ti_3, ti_4, ti_5, ti_6, ti_7, ti_8, ti_9, ti_10, ti_11, ti_12, ti_14, ti_18, ti_30, ti_39, ti_40, ti_41, ti_45, ti_50, ti_59, ti_97, ti_99, ti_100, ti_122, ti_160, ti_243, ti_255, ti_399, ti_999, ti_1000, ti_1024, ti_99999, tm_1, tm_2, tm_3, tm_4, tm_5, tm_7, tm_11, tm_12, tm_13, tm_14, tm_100, if_pos, if_neg, if_true, if_false, bC_in, bI_s, bS_s, bX_s, bY_s, sO, tC], N, B, hv⟩
  · exact ⟨-2, A, V, cu, by simp (disch := omega) only [ltI, leI, eqI, tI, tI1, ti_0, ti_1, ti_2, ti_3, ti_4, ti_5, ti_6, ti_7, ti_8, ti_9, ti_10, ti_11, ti_12, ti_14, ti_18, ti_30, ti_39, ti_40, ti_41, ti_45, ti_50, ti_59, ti_97, ti_99, ti_100, ti_122, ti_160, ti_243, ti_255, ti_399, ti_999, ti_1000, ti_1024, ti_99999, tm_1, tm_2, tm_3, tm_4, tm_5, tm_7, tm_11, tm_12, tm_13, tm_14, tm_100, if_pos, if_neg, if_true, if_false, bC_in, bI_s, bS_s, bX_s, bY_s, sO, tC], A, V, cu, by simp (disch := omega) only [ltI, leI, eqI, tI, tI1, ti_0, ti_1, ti_2, ti_3, ti_4, ti_5, ti_6, ti_7, ti_8, ti_9, ti_10, ti_11, ti_12, ti_14, ti_18, ti_30, ti_39, ti_40, ti_41, ti_45, ti_50, ti_59, ti_97, ti_99, ti_100, ti_122, ti_160, ti_243, ti_255, ti_399, ti_999, ti_1000, ti_1024, ti_99999, tm_1, tm_2, tm_3, tm_4, tm_5, tm_7, tm_11, tm_12, tm_13, tm_14, tm_100, if_pos, if_neg, if_true, if_false, bC_in, bI_s, bS_s, bX_s, bY_s, sO, tC], N, B, hv⟩
  obtain ⟨sz, g1, g2, g3, g4, g5, g6⟩ := sheet_ok hv hj
  rw [tC (show j < 2 ^ 20 by omega), g2]
  rcases g6 with g6 | ⟨t1, ht1, g6⟩
  · exact ⟨-11, A, V, cu, by simp (disch := omega) only [ltI, leI, eqI, tI, tI1, ti_0, ti_1, ti_2, ti_3, ti_4, ti_5, ti_6, ti_7, ti_8, ti_9, ti_10, ti_11, ti_12, ti_14, ti_18, ti_30, ti_39, ti_40, ti_41, ti_45, ti_50, ti_59, ti_97, ti_99, ti_100, ti_122, ti_160, ti_243, ti_255, ti_399, ti_999, ti_1000, ti_1024, ti_99999, tm_1, tm_2, tm_3, tm_4, tm_5, tm_7, tm_11, tm_12, tm_13, tm_14, tm_100, if_pos, if_neg, if_true, if_false, bC_in, bI_s, bS_s, bX_s, bY_s, sO, tC, g6], A, V, cu, by simp (disch := omega) only [ltI, leI, eqI, tI, tI1, ti_0, ti_1, ti_2, ti_3, ti_4, ti_5, ti_6, ti_7, ti_8, ti_9, ti_10, ti_11, ti_12, ti_14, ti_18, ti_30, ti_39, ti_40, ti_41, ti_45, ti_50, ti_59, ti_97, ti_99, ti_100, ti_122, ti_160, ti_243, ti_255, ti_399, ti_999, ti_1000, ti_1024, ti_99999, tm_1, tm_2, tm_3, tm_4, tm_5, tm_7, tm_11, tm_12, tm_13, tm_14, tm_100, if_pos, if_neg, if_true, if_false, bC_in, bI_s, bS_s, bX_s, bY_s, sO, tC, g6], N, B, hv⟩
  by_cases ht : t1 = so
  rotate_left
  · exact ⟨-13, A, V, cu, by simp (disch := omega) only [ltI, leI, eqI, tI, tI1, ti_0, ti_1, ti_2, ti_3, ti_4, ti_5, ti_6, ti_7, ti_8, ti_9, ti_10, ti_11, ti_12, ti_14, ti_18, ti_30, ti_39, ti_40, ti_41, ti_45, ti_50, ti_59, ti_97, ti_99, ti_100, ti_122, ti_160, ti_243, ti_255, ti_399, ti_999, ti_1000, ti_1024, ti_99999, tm_1, tm_2, tm_3, tm_4, tm_5, tm_7, tm_11, tm_12, tm_13, tm_14, tm_100, if_pos, if_neg, if_true, if_false, bC_in, bI_s, bS_s, bX_s, bY_s, sO, tC, g6], A, V, cu, by simp (disch := omega) only [ltI, leI, eqI, tI, tI1, ti_0, ti_1, ti_2, ti_3, ti_4, ti_5, ti_6, ti_7, ti_8, ti_9, ti_10, ti_11, ti_12, ti_14, ti_18, ti_30, ti_39, ti_40, ti_41, ti_45, ti_50, ti_59, ti_97, ti_99, ti_100, ti_122, ti_160, ti_243, ti_255, ti_399, ti_999, ti_1000, ti_1024, ti_99999, tm_1, tm_2, tm_3, tm_4, tm_5, tm_7, tm_11, tm_12, tm_13, tm_14, tm_100, if_pos, if_neg, if_true, if_false, bC_in, bI_s, bS_s, bX_s, bY_s, sO, tC, g6], N, B, hv⟩
  subst ht
  -- what is asked comes to the loops
  have gc : ∀ X Y : Option (Int32 × xS), (if nI j < 0 then X else (if (4 : Int32) ≤ nI j then X else (if nI t1 < 0 then X else (if (2 : Int32) < nI t1 then X else (if nI n0 < 0 then X else (if nI n0 ≤ (5 : Int32) then Y else X)))))) = Y := by
    intro X Y
    rw [if_neg (by simp (disch := omega) only [ltI, leI, eqI, tI, tI1, ti_0, ti_1, ti_2, ti_3, ti_4, ti_5, ti_6, ti_7, ti_8, ti_9, ti_10, ti_11, ti_12, ti_14, ti_18, ti_30, ti_39, ti_40, ti_41, ti_45, ti_50, ti_59, ti_97, ti_99, ti_100, ti_122, ti_160, ti_243, ti_255, ti_399, ti_999, ti_1000, ti_1024, ti_99999, tm_1, tm_2, tm_3, tm_4, tm_5, tm_7, tm_11, tm_12, tm_13, tm_14, tm_100, if_pos, if_neg, if_true, if_false, bC_in, bI_s, bS_s, bX_s, bY_s, sO, tC]; omega), if_neg (by simp (disch := omega) only [ltI, leI, eqI, tI, tI1, ti_0, ti_1, ti_2, ti_3, ti_4, ti_5, ti_6, ti_7, ti_8, ti_9, ti_10, ti_11, ti_12, ti_14, ti_18, ti_30, ti_39, ti_40, ti_41, ti_45, ti_50, ti_59, ti_97, ti_99, ti_100, ti_122, ti_160, ti_243, ti_255, ti_399, ti_999, ti_1000, ti_1024, ti_99999, tm_1, tm_2, tm_3, tm_4, tm_5, tm_7, tm_11, tm_12, tm_13, tm_14, tm_100, if_pos, if_neg, if_true, if_false, bC_in, bI_s, bS_s, bX_s, bY_s, sO, tC]; omega), if_neg (by simp (disch := omega) only [ltI, leI, eqI, tI, tI1, ti_0, ti_1, ti_2, ti_3, ti_4, ti_5, ti_6, ti_7, ti_8, ti_9, ti_10, ti_11, ti_12, ti_14, ti_18, ti_30, ti_39, ti_40, ti_41, ti_45, ti_50, ti_59, ti_97, ti_99, ti_100, ti_122, ti_160, ti_243, ti_255, ti_399, ti_999, ti_1000, ti_1024, ti_99999, tm_1, tm_2, tm_3, tm_4, tm_5, tm_7, tm_11, tm_12, tm_13, tm_14, tm_100, if_pos, if_neg, if_true, if_false, bC_in, bI_s, bS_s, bX_s, bY_s, sO, tC]; omega), if_neg (by simp (disch := omega) only [ltI, leI, eqI, tI, tI1, ti_0, ti_1, ti_2, ti_3, ti_4, ti_5, ti_6, ti_7, ti_8, ti_9, ti_10, ti_11, ti_12, ti_14, ti_18, ti_30, ti_39, ti_40, ti_41, ti_45, ti_50, ti_59, ti_97, ti_99, ti_100, ti_122, ti_160, ti_243, ti_255, ti_399, ti_999, ti_1000, ti_1024, ti_99999, tm_1, tm_2, tm_3, tm_4, tm_5, tm_7, tm_11, tm_12, tm_13, tm_14, tm_100, if_pos, if_neg, if_true, if_false, bC_in, bI_s, bS_s, bX_s, bY_s, sO, tC]; omega), if_neg (by simp (disch := omega) only [ltI, leI, eqI, tI, tI1, ti_0, ti_1, ti_2, ti_3, ti_4, ti_5, ti_6, ti_7, ti_8, ti_9, ti_10, ti_11, ti_12, ti_14, ti_18, ti_30, ti_39, ti_40, ti_41, ti_45, ti_50, ti_59, ti_97, ti_99, ti_100, ti_122, ti_160, ti_243, ti_255, ti_399, ti_999, ti_1000, ti_1024, ti_99999, tm_1, tm_2, tm_3, tm_4, tm_5, tm_7, tm_11, tm_12, tm_13, tm_14, tm_100, if_pos, if_neg, if_true, if_false, bC_in, bI_s, bS_s, bX_s, bY_s, sO, tC]; omega), if_pos (by simp (disch := omega) only [ltI, leI, eqI, tI, tI1, ti_0, ti_1, ti_2, ti_3, ti_4, ti_5, ti_6, ti_7, ti_8, ti_9, ti_10, ti_11, ti_12, ti_14, ti_18, ti_30, ti_39, ti_40, ti_41, ti_45, ti_50, ti_59, ti_97, ti_99, ti_100, ti_122, ti_160, ti_243, ti_255, ti_399, ti_999, ti_1000, ti_1024, ti_99999, tm_1, tm_2, tm_3, tm_4, tm_5, tm_7, tm_11, tm_12, tm_13, tm_14, tm_100, if_pos, if_neg, if_true, if_false, bC_in, bI_s, bS_s, bX_s, bY_s, sO, tC]; omega)]
  have gr : ∀ X Y : Option (Int32 × xS), (if nI j < (0 : Int32) then X else (if (3 : Int32) < nI j then X else (if nI t1 < (0 : Int32) then X else (if (2 : Int32) < nI t1 then X else (if nI n0 < (0 : Int32) then X else (if (5 : Int32) < nI n0 then X else Y)))))) = Y := by
    intro X Y
    rw [if_neg (by simp (disch := omega) only [ltI, leI, eqI, tI, tI1, ti_0, ti_1, ti_2, ti_3, ti_4, ti_5, ti_6, ti_7, ti_8, ti_9, ti_10, ti_11, ti_12, ti_14, ti_18, ti_30, ti_39, ti_40, ti_41, ti_45, ti_50, ti_59, ti_97, ti_99, ti_100, ti_122, ti_160, ti_243, ti_255, ti_399, ti_999, ti_1000, ti_1024, ti_99999, tm_1, tm_2, tm_3, tm_4, tm_5, tm_7, tm_11, tm_12, tm_13, tm_14, tm_100, if_pos, if_neg, if_true, if_false, bC_in, bI_s, bS_s, bX_s, bY_s, sO, tC]; omega), if_neg (by simp (disch := omega) only [ltI, leI, eqI, tI, tI1, ti_0, ti_1, ti_2, ti_3, ti_4, ti_5, ti_6, ti_7, ti_8, ti_9, ti_10, ti_11, ti_12, ti_14, ti_18, ti_30, ti_39, ti_40, ti_41, ti_45, ti_50, ti_59, ti_97, ti_99, ti_100, ti_122, ti_160, ti_243, ti_255, ti_399, ti_999, ti_1000, ti_1024, ti_99999, tm_1, tm_2, tm_3, tm_4, tm_5, tm_7, tm_11, tm_12, tm_13, tm_14, tm_100, if_pos, if_neg, if_true, if_false, bC_in, bI_s, bS_s, bX_s, bY_s, sO, tC]; omega), if_neg (by simp (disch := omega) only [ltI, leI, eqI, tI, tI1, ti_0, ti_1, ti_2, ti_3, ti_4, ti_5, ti_6, ti_7, ti_8, ti_9, ti_10, ti_11, ti_12, ti_14, ti_18, ti_30, ti_39, ti_40, ti_41, ti_45, ti_50, ti_59, ti_97, ti_99, ti_100, ti_122, ti_160, ti_243, ti_255, ti_399, ti_999, ti_1000, ti_1024, ti_99999, tm_1, tm_2, tm_3, tm_4, tm_5, tm_7, tm_11, tm_12, tm_13, tm_14, tm_100, if_pos, if_neg, if_true, if_false, bC_in, bI_s, bS_s, bX_s, bY_s, sO, tC]; omega), if_neg (by simp (disch := omega) only [ltI, leI, eqI, tI, tI1, ti_0, ti_1, ti_2, ti_3, ti_4, ti_5, ti_6, ti_7, ti_8, ti_9, ti_10, ti_11, ti_12, ti_14, ti_18, ti_30, ti_39, ti_40, ti_41, ti_45, ti_50, ti_59, ti_97, ti_99, ti_100, ti_122, ti_160, ti_243, ti_255, ti_399, ti_999, ti_1000, ti_1024, ti_99999, tm_1, tm_2, tm_3, tm_4, tm_5, tm_7, tm_11, tm_12, tm_13, tm_14, tm_100, if_pos, if_neg, if_true, if_false, bC_in, bI_s, bS_s, bX_s, bY_s, sO, tC]; omega), if_neg (by simp (disch := omega) only [ltI, leI, eqI, tI, tI1, ti_0, ti_1, ti_2, ti_3, ti_4, ti_5, ti_6, ti_7, ti_8, ti_9, ti_10, ti_11, ti_12, ti_14, ti_18, ti_30, ti_39, ti_40, ti_41, ti_45, ti_50, ti_59, ti_97, ti_99, ti_100, ti_122, ti_160, ti_243, ti_255, ti_399, ti_999, ti_1000, ti_1024, ti_99999, tm_1, tm_2, tm_3, tm_4, tm_5, tm_7, tm_11, tm_12, tm_13, tm_14, tm_100, if_pos, if_neg, if_true, if_false, bC_in, bI_s, bS_s, bX_s, bY_s, sO, tC]; omega), if_neg (by simp (disch := omega) only [ltI, leI, eqI, tI, tI1, ti_0, ti_1, ti_2, ti_3, ti_4, ti_5, ti_6, ti_7, ti_8, ti_9, ti_10, ti_11, ti_12, ti_14, ti_18, ti_30, ti_39, ti_40, ti_41, ti_45, ti_50, ti_59, ti_97, ti_99, ti_100, ti_122, ti_160, ti_243, ti_255, ti_399, ti_999, ti_1000, ti_1024, ti_99999, tm_1, tm_2, tm_3, tm_4, tm_5, tm_7, tm_11, tm_12, tm_13, tm_14, tm_100, if_pos, if_neg, if_true, if_false, bC_in, bI_s, bS_s, bX_s, bY_s, sO, tC]; omega)]
  have c1 : ¬ nI t1 = -1 := by simp (disch := omega) only [ltI, leI, eqI, tI, tI1, ti_0, ti_1, ti_2, ti_3, ti_4, ti_5, ti_6, ti_7, ti_8, ti_9, ti_10, ti_11, ti_12, ti_14, ti_18, ti_30, ti_39, ti_40, ti_41, ti_45, ti_50, ti_59, ti_97, ti_99, ti_100, ti_122, ti_160, ti_243, ti_255, ti_399, ti_999, ti_1000, ti_1024, ti_99999, tm_1, tm_2, tm_3, tm_4, tm_5, tm_7, tm_11, tm_12, tm_13, tm_14, tm_100, if_pos, if_neg, if_true, if_false, bC_in, bI_s, bS_s, bX_s, bY_s, sO, tC]; omega
  have c2 : (0 : Int32) ≤ nI t1 := by simp (disch := omega) only [ltI, leI, eqI, tI, tI1, ti_0, ti_1, ti_2, ti_3, ti_4, ti_5, ti_6, ti_7, ti_8, ti_9, ti_10, ti_11, ti_12, ti_14, ti_18, ti_30, ti_39, ti_40, ti_41, ti_45, ti_50, ti_59, ti_97, ti_99, ti_100, ti_122, ti_160, ti_243, ti_255, ti_399, ti_999, ti_1000, ti_1024, ti_99999, tm_1, tm_2, tm_3, tm_4, tm_5, tm_7, tm_11, tm_12, tm_13, tm_14, tm_100, if_pos, if_neg, if_true, if_false, bC_in, bI_s, bS_s, bX_s, bY_s, sO, tC]; omega
  by_cases hin : 0 ≤ c.toInt ∧ c.toInt + 2 < sz
  · obtain ⟨x, hx, rfl⟩ : ∃ x : Nat, x < 41 ∧ c = nI x := by rcases ix3 c 41 (by omega) with q | q | q <;> first | omega | exact q
    obtain ⟨A1, V1, w1, w2, w3, w4⟩ := c_pby (g := fun i => A 162 (40 * j + i)) hj g1 (show x ≤ 40 by omega) (n0 := n0) (by omega) cu n0 0 FU 0 (ppl0 N B) A V (by omega) (fu_gt (by omega)) (Nat.le_refl _) (pcl_0 hv) g3 g5
    have hr1 : prl (ppl0 N B) A1 V1 := by
      obtain ⟨y1, y2⟩ := prl_0 hv
      refine ⟨(w4 132 4 (by omega)).trans y1, fun p hp => ?_⟩
      rw [w3 136 (by omega), w3 137 (by omega), w3 138 (by omega)]
      exact y2 p hp
    obtain ⟨A2, V2, x1, x2, x3, x4⟩ := r_pby (g := fun i => A 162 (40 * j + i)) hj g1 (show x ≤ 40 by omega) (n0 := n0) (by omega) cu n0 0 FU 0 (ppl0 N B) A1 V1 (by omega) (fu_gt (by omega)) (Nat.le_refl _) hr1 p3 (by rw [w3 161 (by omega)]; exact g4) (fun y _ => by rw [w3 162 (by omega)])
    have hle := pbl_le (fun i => A 162 (40 * j + i)) sz x n0 0 0 (ppl0 N B) p3
    refine ⟨(pbl (fun i => A 162 (40 * j + i)) sz x n0 0 0 (ppl0 N B)).1, A1, V1, cu, ?_, A2, V2, cu, ?_, _, _, iv_people (q := (pbl (fun i => A 162 (40 * j + i)) sz x n0 0 0 (ppl0 N B)).2) hv hle.1 ?_ x2 (fun a h1 h2 => by rw [x3 a h2, w3 a h1]) (fun a j h1 h2 => by rw [x4 a j h2, w4 a j h1])⟩
    · rw [gc, bC_in ⟨hj, by decide⟩, g6, if_neg c1, if_pos rfl]
      exact w1
    · have e159 : A1 160 j = nI t1 := by rw [w3 160 (by omega)]; exact g6
      rw [gr, bC_in ⟨hj, by decide⟩, e159, if_pos c2, if_pos rfl]
      exact x1
    · obtain ⟨y1, y2, y3, y4, y5, y6⟩ := w2
      refine ⟨(x4 65 3 (by omega)).trans y1, y2, ?_, ?_, ?_, (x4 65 7 (by omega)).trans y6⟩
      · rw [x3 66 (by omega), x3 67 (by omega), x3 68 (by omega)]; exact y3
      · rw [x3 69 (by omega)]; exact y4
      · rw [x3 70 (by omega), x3 71 (by omega)]; exact y5
  · have hc0 : c + (3 : Int32) * 0 = c := by rw [Int32.mul_zero, Int32.add_zero]
    have hl0 : c.toInt64 + (3 : Int64) * (0 : Int32).toInt64 = c.toInt64 := by
      rw [show (3 : Int64) * (0 : Int32).toInt64 = 0 from rfl, Int64.add_zero]
    by_cases hz : n0 = 0
    · subst hz
      refine ⟨0, A, V, cu, ?_, A, V, cu, ?_, N, B, hv⟩
      · rw [gc, bC_in ⟨hj, by decide⟩, g6, if_neg c1, if_pos rfl]
        show fX8_peopleBy_L63 (122 + 2 * j) c (nI 0) _ (4999 + 1) 0 0 A V cu = _
        rw [fX8_peopleBy_L63, if_pos (by decide)]
      · rw [gr, bC_in ⟨hj, by decide⟩, g6, if_pos c2, if_pos rfl]
        show fX9_peopleBy_L60 (nI j) c (nI 0) _ (4999 + 1) 0 0 A V cu = _
        rw [fX9_peopleBy_L60, if_pos (by decide)]
    · refine ⟨-12, A, V, cu, ?_, A, V, cu, ?_, N, B, hv⟩
      · rw [gc, bC_in ⟨hj, by decide⟩, g6, if_neg c1, if_pos rfl]
        show fX8_peopleBy_L63 (122 + 2 * j) c (nI n0) _ (4999 + 1) 0 0 A V cu = _
        have hr : fX5_hasRange (122 + 2 * j) c 3 A V = some 0 := by
          unfold fX5_hasRange
          rw [g3, if_neg (by decide)]
          by_cases z0 : c.toInt < 0
          · rw [if_pos (by simp (disch := omega) only [ltI, leI, eqI, tI, tI1, ti_0, ti_1, ti_2, ti_3, ti_4, ti_5, ti_6, ti_7, ti_8, ti_9, ti_10, ti_11, ti_12, ti_14, ti_18, ti_30, ti_39, ti_40, ti_41, ti_45, ti_50, ti_59, ti_97, ti_99, ti_100, ti_122, ti_160, ti_243, ti_255, ti_399, ti_999, ti_1000, ti_1024, ti_99999, tm_1, tm_2, tm_3, tm_4, tm_5, tm_7, tm_11, tm_12, tm_13, tm_14, tm_100, if_pos, if_neg, if_true, if_false, bC_in, bI_s, bS_s, bX_s, bY_s, sO, tC]; exact z0)]
          · rw [if_neg (by simp (disch := omega) only [ltI, leI, eqI, tI, tI1, ti_0, ti_1, ti_2, ti_3, ti_4, ti_5, ti_6, ti_7, ti_8, ti_9, ti_10, ti_11, ti_12, ti_14, ti_18, ti_30, ti_39, ti_40, ti_41, ti_45, ti_50, ti_59, ti_97, ti_99, ti_100, ti_122, ti_160, ti_243, ti_255, ti_399, ti_999, ti_1000, ti_1024, ti_99999, tm_1, tm_2, tm_3, tm_4, tm_5, tm_7, tm_11, tm_12, tm_13, tm_14, tm_100, if_pos, if_neg, if_true, if_false, bC_in, bI_s, bS_s, bX_s, bY_s, sO, tC]; exact z0)]
            by_cases z1 : sz < 3
            · rw [if_pos (by simp (disch := omega) only [ltI, leI, eqI, tI, tI1, ti_0, ti_1, ti_2, ti_3, ti_4, ti_5, ti_6, ti_7, ti_8, ti_9, ti_10, ti_11, ti_12, ti_14, ti_18, ti_30, ti_39, ti_40, ti_41, ti_45, ti_50, ti_59, ti_97, ti_99, ti_100, ti_122, ti_160, ti_243, ti_255, ti_399, ti_999, ti_1000, ti_1024, ti_99999, tm_1, tm_2, tm_3, tm_4, tm_5, tm_7, tm_11, tm_12, tm_13, tm_14, tm_100, if_pos, if_neg, if_true, if_false, bC_in, bI_s, bS_s, bX_s, bY_s, sO, tC]; omega)]
            · have e3 : nI sz - 3 = nI (sz - 3) := by rw [show (3 : Int32) = nI 3 from rfl, pk_sub (by omega)]
              rw [if_neg (by simp (disch := omega) only [ltI, leI, eqI, tI, tI1, ti_0, ti_1, ti_2, ti_3, ti_4, ti_5, ti_6, ti_7, ti_8, ti_9, ti_10, ti_11, ti_12, ti_14, ti_18, ti_30, ti_39, ti_40, ti_41, ti_45, ti_50, ti_59, ti_97, ti_99, ti_100, ti_122, ti_160, ti_243, ti_255, ti_399, ti_999, ti_1000, ti_1024, ti_99999, tm_1, tm_2, tm_3, tm_4, tm_5, tm_7, tm_11, tm_12, tm_13, tm_14, tm_100, if_pos, if_neg, if_true, if_false, bC_in, bI_s, bS_s, bX_s, bY_s, sO, tC]; omega), e3, if_pos (by simp (disch := omega) only [ltI, leI, eqI, tI, tI1, ti_0, ti_1, ti_2, ti_3, ti_4, ti_5, ti_6, ti_7, ti_8, ti_9, ti_10, ti_11, ti_12, ti_14, ti_18, ti_30, ti_39, ti_40, ti_41, ti_45, ti_50, ti_59, ti_97, ti_99, ti_100, ti_122, ti_160, ti_243, ti_255, ti_399, ti_999, ti_1000, ti_1024, ti_99999, tm_1, tm_2, tm_3, tm_4, tm_5, tm_7, tm_11, tm_12, tm_13, tm_14, tm_100, if_pos, if_neg, if_true, if_false, bC_in, bI_s, bS_s, bX_s, bY_s, sO, tC]; omega)]
        rw [fX8_peopleBy_L63, if_neg (by simp (disch := omega) only [ltI, leI, eqI, tI, tI1, ti_0, ti_1, ti_2, ti_3, ti_4, ti_5, ti_6, ti_7, ti_8, ti_9, ti_10, ti_11, ti_12, ti_14, ti_18, ti_30, ti_39, ti_40, ti_41, ti_45, ti_50, ti_59, ti_97, ti_99, ti_100, ti_122, ti_160, ti_243, ti_255, ti_399, ti_999, ti_1000, ti_1024, ti_99999, tm_1, tm_2, tm_3, tm_4, tm_5, tm_7, tm_11, tm_12, tm_13, tm_14, tm_100, if_pos, if_neg, if_true, if_false, bC_in, bI_s, bS_s, bX_s, bY_s, sO, tC]; omega), hc0, hr, bI_s, if_pos rfl]
      · rw [gr, bC_in ⟨hj, by decide⟩, g6, if_pos c2, if_pos rfl]
        show fX9_peopleBy_L60 (nI j) c (nI n0) _ (4999 + 1) 0 0 A V cu = _
        rw [fX9_peopleBy_L60, if_neg (by simp (disch := omega) only [ltI, leI, eqI, tI, tI1, ti_0, ti_1, ti_2, ti_3, ti_4, ti_5, ti_6, ti_7, ti_8, ti_9, ti_10, ti_11, ti_12, ti_14, ti_18, ti_30, ti_39, ti_40, ti_41, ti_45, ti_50, ti_59, ti_97, ti_99, ti_100, ti_122, ti_160, ti_243, ti_255, ti_399, ti_999, ti_1000, ti_1024, ti_99999, tm_1, tm_2, tm_3, tm_4, tm_5, tm_7, tm_11, tm_12, tm_13, tm_14, tm_100, if_pos, if_neg, if_true, if_false, bC_in, bI_s, bS_s, bX_s, bY_s, sO, tC]; omega), hl0]
        by_cases z0 : c.toInt < 0
        · have : lg_cmp c.toInt64 0 < 0 := by
            rw [lg_cmp_lt, Int64.lt_iff_toInt_lt, Int32.toInt_toInt64]
            exact z0
          rw [if_pos this]
        · obtain ⟨x, hx, rfl⟩ := nI_of (x := c) (by rw [ltI, ti_0]; exact z0)
          have tx : (nI x).toInt = (x : Int) := nI_toInt hx
          have k0 : ¬ lg_cmp (nI x).toInt64 0 < 0 := by
            rw [lg_cmp_lt, nI_l hx]
            intro z
            exact absurd ((pk_lLT (a := x) (b := 0) (by omega) (by decide)).mp z) (by omega)
          have e2 : (nI x).toInt64 + 2 = lN (x + 2) := by rw [nI_l hx]; exact lN_add x 2
          have k2 : ¬ lg_cmp (lN (x + 2)) (nI sz).toInt64 < 0 := by
            rw [lg_cmp_lt, nI_l (by omega)]
            intro z
            have := (pk_lLT (a := x + 2) (b := sz) (by omega) (by omega)).mp z
            omega
          rw [if_neg k0, bC_in ⟨hj, by decide⟩, tC (by omega), g4, e2, if_neg k2]
end PB
