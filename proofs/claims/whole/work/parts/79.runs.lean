/-! TEXT: runs of letters, of figures, of blanks. -/
def run (q : Int32 → Bool) (t : Nat → Int32) (n : Nat) : Nat → Nat → Nat
  | 0, b => b
  | k + 1, b => if b < n ∧ q (t b) = true then run q t n k (b + 1) else b
def rn (q : Int32 → Bool) (t : Nat → Int32) (n b : Nat) : Nat := run q t n (n - b) b
theorem rn_e {q : Int32 → Bool} {t : Nat → Int32} {n b : Nat} (h : ¬ (b < n ∧ q (t b) = true)) : rn q t n b = b := by
  unfold rn
  cases n - b with
  | zero => rfl
  | succ k => rw [run, if_neg h]
theorem rn_s {q : Int32 → Bool} {t : Nat → Int32} {n b : Nat} (h : b < n) (hq : q (t b) = true) : rn q t n b = rn q t n (b + 1) := by
  unfold rn
  obtain ⟨k, hk⟩ : ∃ k, n - b = k + 1 := ⟨n - b - 1, by omega⟩
  rw [hk, run, if_pos ⟨h, hq⟩, show n - (b + 1) = k by omega]
theorem rn_p {q : Int32 → Bool} {t : Nat → Int32} {n : Nat} : ∀ k b, b + k = n → b ≤ rn q t n b ∧ rn q t n b ≤ n ∧ (rn q t n b < n → q (t (rn q t n b)) = false) ∧ ∀ j, b ≤ j → j < rn q t n b → q (t j) = true
  | 0, b, h => by
    rw [rn_e (by omega)]
    exact ⟨Nat.le_refl _, by omega, fun z => by omega, fun j h1 h2 => by omega⟩
  | k + 1, b, h => by
    cases hq : q (t b) with
    | true =>
      rw [rn_s (by omega) hq]
      obtain ⟨g1, g2, g3, g4⟩ := rn_p (q := q) (t := t) (n := n) k (b + 1) (by omega)
      refine ⟨by omega, g2, g3, fun j h1 h2 => ?_⟩
      by_cases z : j = b
      · rw [z]; exact hq
      · exact g4 j (by omega) h2
    | false =>
      rw [rn_e (fun z => by rw [hq] at z; cases z.2)]
      exact ⟨Nat.le_refl _, by omega, fun _ => hq, fun j h1 h2 => by omega⟩
def isBl (x : Int32) : Bool := decide (x = 32) || decide (x = 10)
def isLe (x : Int32) : Bool := !decide (x < 97) && !decide (122 < x)
def isDi (x : Int32) : Bool := !decide (x < 48) && !decide (57 < x)
def dv (t : Nat → Int32) (a : Nat) : Nat → Int32
  | 0 => 0
  | k + 1 => dv t a k * 10 + t (a + k) - 48
section RU
variable {A : xM} {cu : Value} {nn : Nat}
theorem c_bl (hn : nn ≤ 160) (ex : xM → xM → Value → Option xS) : ∀ k b n (V : xM), b + k = nn → k < n → V 95 1 = nI nn → V 95 7 = nI b → ∃ V2, fX4_next_L0 ex n A V cu = ex A V2 cu ∧ V2 95 7 = nI (rn isBl (A 96) nn b) ∧ ∀ a j, ¬ (a = 95 ∧ j = 7) → V2 a j = V a j := by
  intro k
  induction k with
  | zero =>
    intro b n V hb hn' h1 h7
    obtain ⟨n, rfl⟩ : ∃ m, n = m + 1 := ⟨n - 1, by omega⟩
    refine ⟨V, ?_, by rw [rn_e (by omega)]; exact h7, fun _ _ _ => rfl⟩
    rw [fX4_next_L0, h1, h7, if_pos (by simp (disch := omega) only [ltI, leI, eqI, tI, tI1, ti_0, ti_1, ti_2, ti_3, ti_4, ti_5, ti_6, ti_7, ti_8, ti_9, ti_10, ti_11, ti_12, ti_14, ti_18, ti_30, ti_39, ti_40, ti_41, ti_45, ti_50, ti_59, ti_97, ti_99, ti_100, ti_122, ti_160, ti_243, ti_255, ti_399, ti_999, ti_1000, ti_1024, ti_99999, tm_1, tm_2, tm_3, tm_4, tm_5, tm_7, tm_11, tm_12, tm_13, tm_14, tm_100, if_pos, if_neg, if_true, if_false, bC_in, bI_s, bS_s, bX_s, bY_s, sO, tC]; omega)]
  | succ k ih =>
    intro b n V hb hn' h1 h7
    obtain ⟨n, rfl⟩ : ∃ m, n = m + 1 := ⟨n - 1, by omega⟩
    rw [fX4_next_L0, h1, h7, if_neg (by simp (disch := omega) only [ltI, leI, eqI, tI, tI1, ti_0, ti_1, ti_2, ti_3, ti_4, ti_5, ti_6, ti_7, ti_8, ti_9, ti_10, ti_11, ti_12, ti_14, ti_18, ti_30, ti_39, ti_40, ti_41, ti_45, ti_50, ti_59, ti_97, ti_99, ti_100, ti_122, ti_160, ti_243, ti_255, ti_399, ti_999, ti_1000, ti_1024, ti_99999, tm_1, tm_2, tm_3, tm_4, tm_5, tm_7, tm_11, tm_12, tm_13, tm_14, tm_100, if_pos, if_neg, if_true, if_false, bC_in, bI_s, bS_s, bX_s, bY_s, sO, tC]; omega), bC_in ⟨by omega, by decide⟩, tC (by omega), nI_1]
    have go : isBl (A 96 b) = true → ∃ V2, fX4_next_L0 ex n A (up2 V 95 7 (nI (b + 1))) cu = ex A V2 cu ∧ V2 95 7 = nI (rn isBl (A 96) nn b) ∧ ∀ a j, ¬ (a = 95 ∧ j = 7) → V2 a j = V a j := by
      intro hq
      obtain ⟨V2, g1, g2, g3⟩ := ih (b + 1) n (up2 V 95 7 (nI (b + 1))) (by omega) (by omega) (by rw [up2_n (by omega)]; exact h1) (up2_s _ _ _ _)
      exact ⟨V2, g1, by rw [rn_s (by omega) hq]; exact g2, fun a j h => by rw [g3 a j h, up2_n h]⟩
    by_cases q1 : A 96 b = 32
    · rw [if_pos q1]; exact go (by unfold isBl; rw [decide_eq_true q1]; rfl)
    · rw [if_neg q1]
      by_cases q2 : A 96 b = 10
      · rw [if_pos q2]; exact go (by unfold isBl; rw [decide_eq_true q2, Bool.or_true])
      · rw [if_neg q2]
        exact ⟨V, rfl, by rw [rn_e (fun z => by have := z.2; unfold isBl at this; rw [decide_eq_false q1, decide_eq_false q2] at this; cases this)]; exact h7, fun _ _ _ => rfl⟩
theorem r_bl (hn : nn ≤ 160) (ex : xM → xM → Value → Option xS) : ∀ k b n (V : xM), b + k = nn → k < n → V 132 14 = nI nn → V 132 19 = nI b → ∃ V2, fX9_next_L0 ex n A V cu = ex A V2 cu ∧ V2 132 19 = nI (rn isBl (A 143) nn b) ∧ ∀ a j, ¬ (a = 132 ∧ j = 19) → V2 a j = V a j := by
  intro k
  induction k with
  | zero =>
    intro b n V hb hn' h1 h7
    obtain ⟨n, rfl⟩ : ∃ m, n = m + 1 := ⟨n - 1, by omega⟩
    refine ⟨V, ?_, by rw [rn_e (by omega)]; exact h7, fun _ _ _ => rfl⟩
    rw [fX9_next_L0, h1, h7, if_pos (by simp (disch := omega) only [ltI, leI, eqI, tI, tI1, ti_0, ti_1, ti_2, ti_3, ti_4, ti_5, ti_6, ti_7, ti_8, ti_9, ti_10, ti_11, ti_12, ti_14, ti_18, ti_30, ti_39, ti_40, ti_41, ti_45, ti_50, ti_59, ti_97, ti_99, ti_100, ti_122, ti_160, ti_243, ti_255, ti_399, ti_999, ti_1000, ti_1024, ti_99999, tm_1, tm_2, tm_3, tm_4, tm_5, tm_7, tm_11, tm_12, tm_13, tm_14, tm_100, if_pos, if_neg, if_true, if_false, bC_in, bI_s, bS_s, bX_s, bY_s, sO, tC]; omega)]
  | succ k ih =>
    intro b n V hb hn' h1 h7
    obtain ⟨n, rfl⟩ : ∃ m, n = m + 1 := ⟨n - 1, by omega⟩
    rw [fX9_next_L0, h1, h7, if_neg (by simp (disch := omega) only [ltI, leI, eqI, tI, tI1, ti_0, ti_1, ti_2, ti_3, ti_4, ti_5, ti_6, ti_7, ti_8, ti_9, ti_10, ti_11, ti_12, ti_14, ti_18, ti_30, ti_39, ti_40, ti_41, ti_45, ti_50, ti_59, ti_97, ti_99, ti_100, ti_122, ti_160, ti_243, ti_255, ti_399, ti_999, ti_1000, ti_1024, ti_99999, tm_1, tm_2, tm_3, tm_4, tm_5, tm_7, tm_11, tm_12, tm_13, tm_14, tm_100, if_pos, if_neg, if_true, if_false, bC_in, bI_s, bS_s, bX_s, bY_s, sO, tC]; omega), bC_in ⟨by omega, by decide⟩, tC (by omega), nI_1]
    have go : isBl (A 143 b) = true → ∃ V2, fX9_next_L0 ex n A (up2 V 132 19 (nI (b + 1))) cu = ex A V2 cu ∧ V2 132 19 = nI (rn isBl (A 143) nn b) ∧ ∀ a j, ¬ (a = 132 ∧ j = 19) → V2 a j = V a j := by
      intro hq
      obtain ⟨V2, g1, g2, g3⟩ := ih (b + 1) n (up2 V 132 19 (nI (b + 1))) (by omega) (by omega) (by rw [up2_n (by omega)]; exact h1) (up2_s _ _ _ _)
      exact ⟨V2, g1, by rw [rn_s (by omega) hq]; exact g2, fun a j h => by rw [g3 a j h, up2_n h]⟩
    by_cases q1 : A 143 b = 32
    · rw [if_pos q1]; exact go (by unfold isBl; rw [decide_eq_true q1]; rfl)
    · rw [if_neg q1]
      by_cases q2 : A 143 b = 10
      · rw [if_pos q2]; exact go (by unfold isBl; rw [decide_eq_true q2, Bool.or_true])
      · rw [if_neg q2]
        exact ⟨V, rfl, by rw [rn_e (fun z => by have := z.2; unfold isBl at this; rw [decide_eq_false q1, decide_eq_false q2] at this; cases this)]; exact h7, fun _ _ _ => rfl⟩
theorem c_le (hn : nn ≤ 160) (ex : xM → xM → Value → Option xS) : ∀ k b n (V : xM), b + k = nn → k < n → V 95 1 = nI nn → V 95 7 = nI b → ∃ V2, fX4_readWord_L0 ex n A V cu = ex A V2 cu ∧ V2 95 7 = nI (rn isLe (A 96) nn b) ∧ ∀ a j, ¬ (a = 95 ∧ j = 7) → V2 a j = V a j := by
  intro k
  induction k with
  | zero =>
    intro b n V hb hn' h1 h7
    obtain ⟨n, rfl⟩ : ∃ m, n = m + 1 := ⟨n - 1, by omega⟩
    refine ⟨V, ?_, by rw [rn_e (by omega)]; exact h7, fun _ _ _ => rfl⟩
    rw [fX4_readWord_L0, h1, h7, if_pos (by simp (disch := omega) only [ltI, leI, eqI, tI, tI1, ti_0, ti_1, ti_2, ti_3, ti_4, ti_5, ti_6, ti_7, ti_8, ti_9, ti_10, ti_11, ti_12, ti_14, ti_18, ti_30, ti_39, ti_40, ti_41, ti_45, ti_50, ti_59, ti_97, ti_99, ti_100, ti_122, ti_160, ti_243, ti_255, ti_399, ti_999, ti_1000, ti_1024, ti_99999, tm_1, tm_2, tm_3, tm_4, tm_5, tm_7, tm_11, tm_12, tm_13, tm_14, tm_100, if_pos, if_neg, if_true, if_false, bC_in, bI_s, bS_s, bX_s, bY_s, sO, tC]; omega)]
  | succ k ih =>
    intro b n V hb hn' h1 h7
    obtain ⟨n, rfl⟩ : ∃ m, n = m + 1 := ⟨n - 1, by omega⟩
    rw [fX4_readWord_L0, h1, h7, if_neg (by simp (disch := omega) only [ltI, leI, eqI, tI, tI1, ti_0, ti_1, ti_2, ti_3, ti_4, ti_5, ti_6, ti_7, ti_8, ti_9, ti_10, ti_11, ti_12, ti_14, ti_18, ti_30, ti_39, ti_40, ti_41, ti_45, ti_50, ti_59, ti_97, ti_99, ti_100, ti_122, ti_160, ti_243, ti_255, ti_399, ti_999, ti_1000, ti_1024, ti_99999, tm_1, tm_2, tm_3, tm_4, tm_5, tm_7, tm_11, tm_12, tm_13, tm_14, tm_100, if_pos, if_neg, if_true, if_false, bC_in, bI_s, bS_s, bX_s, bY_s, sO, tC]; omega), bC_in ⟨by omega, by decide⟩, tC (by omega), nI_1]
    have no : isLe (A 96 b) = false → ∃ V2, ex A V cu = ex A V2 cu ∧ V2 95 7 = nI (rn isLe (A 96) nn b) ∧ ∀ a j, ¬ (a = 95 ∧ j = 7) → V2 a j = V a j := fun hq => ⟨V, rfl, by rw [rn_e (fun z => by rw [hq] at z; cases z.2)]; exact h7, fun _ _ _ => rfl⟩
    by_cases q1 : A 96 b < 97
    · rw [if_pos q1]; exact no (by unfold isLe; rw [decide_eq_true q1]; rfl)
    · rw [if_neg q1]
      by_cases q2 : 122 < A 96 b
      · rw [if_pos q2]; exact no (by unfold isLe; rw [decide_eq_true q2]; exact Bool.and_false _)
      · rw [if_neg q2]
        have hq : isLe (A 96 b) = true := by unfold isLe; rw [decide_eq_false q1, decide_eq_false q2]; rfl
        obtain ⟨V2, g1, g2, g3⟩ := ih (b + 1) n (up2 V 95 7 (nI (b + 1))) (by omega) (by omega) (by rw [up2_n (by omega)]; exact h1) (up2_s _ _ _ _)
        exact ⟨V2, g1, by rw [rn_s (by omega) hq]; exact g2, fun a j h => by rw [g3 a j h, up2_n h]⟩
theorem r_le (hn : nn ≤ 160) (ex : xM → xM → Value → Option xS) : ∀ k b n (V : xM), b + k = nn → k < n → V 132 14 = nI nn → V 132 19 = nI b → ∃ V2, fX9_readWord_L0 ex n A V cu = ex A V2 cu ∧ V2 132 19 = nI (rn isLe (A 143) nn b) ∧ ∀ a j, ¬ (a = 132 ∧ j = 19) → V2 a j = V a j := by
  intro k
  induction k with
  | zero =>
    intro b n V hb hn' h1 h7
    obtain ⟨n, rfl⟩ : ∃ m, n = m + 1 := ⟨n - 1, by omega⟩
    refine ⟨V, ?_, by rw [rn_e (by omega)]; exact h7, fun _ _ _ => rfl⟩
    rw [fX9_readWord_L0, h1, h7, if_pos (by simp (disch := omega) only [ltI, leI, eqI, tI, tI1, ti_0, ti_1, ti_2, ti_3, ti_4, ti_5, ti_6, ti_7, ti_8, ti_9, ti_10, ti_11, ti_12, ti_14, ti_18, ti_30, ti_39, ti_40, ti_41, ti_45, ti_50, ti_59, ti_97, ti_99, ti_100, ti_122, ti_160, ti_243, ti_255, ti_399, ti_999, ti_1000, ti_1024, ti_99999, tm_1, tm_2, tm_3, tm_4, tm_5, tm_7, tm_11, tm_12, tm_13, tm_14, tm_100, if_pos, if_neg, if_true, if_false, bC_in, bI_s, bS_s, bX_s, bY_s, sO, tC]; omega)]
  | succ k ih =>
    intro b n V hb hn' h1 h7
    obtain ⟨n, rfl⟩ : ∃ m, n = m + 1 := ⟨n - 1, by omega⟩
    rw [fX9_readWord_L0, h1, h7, if_neg (by simp (disch := omega) only [ltI, leI, eqI, tI, tI1, ti_0, ti_1, ti_2, ti_3, ti_4, ti_5, ti_6, ti_7, ti_8, ti_9, ti_10, ti_11, ti_12, ti_14, ti_18, ti_30, ti_39, ti_40, ti_41, ti_45, ti_50, ti_59, ti_97, ti_99, ti_100, ti_122, ti_160, ti_243, ti_255, ti_399, ti_999, ti_1000, ti_1024, ti_99999, tm_1, tm_2, tm_3, tm_4, tm_5, tm_7, tm_11, tm_12, tm_13, tm_14, tm_100, if_pos, if_neg, if_true, if_false, bC_in, bI_s, bS_s, bX_s, bY_s, sO, tC]; omega), bC_in ⟨by omega, by decide⟩, tC (by omega), nI_1]
    have no : isLe (A 143 b) = false → ∃ V2, ex A V cu = ex A V2 cu ∧ V2 132 19 = nI (rn isLe (A 143) nn b) ∧ ∀ a j, ¬ (a = 132 ∧ j = 19) → V2 a j = V a j := fun hq => ⟨V, rfl, by rw [rn_e (fun z => by rw [hq] at z; cases z.2)]; exact h7, fun _ _ _ => rfl⟩
    by_cases q1 : A 143 b < 97
    · rw [if_pos q1]; exact no (by unfold isLe; rw [decide_eq_true q1]; rfl)
    · rw [if_neg q1]
      by_cases q2 : 122 < A 143 b
      · rw [if_pos q2]; exact no (by unfold isLe; rw [decide_eq_true q2]; exact Bool.and_false _)
      · rw [if_neg q2]
        have hq : isLe (A 143 b) = true := by unfold isLe; rw [decide_eq_false q1, decide_eq_false q2]; rfl
        obtain ⟨V2, g1, g2, g3⟩ := ih (b + 1) n (up2 V 132 19 (nI (b + 1))) (by omega) (by omega) (by rw [up2_n (by omega)]; exact h1) (up2_s _ _ _ _)
        exact ⟨V2, g1, by rw [rn_s (by omega) hq]; exact g2, fun a j h => by rw [g3 a j h, up2_n h]⟩
theorem c_di (hn : nn ≤ 160) {s : Nat} (ex : xM → xM → Value → Option xS) : ∀ k b n (V : xM), b + k = nn → s ≤ b → k < n → V 95 1 = nI nn → V 95 7 = nI b → V 95 8 = dv (A 96) s (b - s) → ∃ V2, fX4_readNumber_L5 ex n A V cu = ex A V2 cu ∧ V2 95 7 = nI (rn isDi (A 96) nn b) ∧ V2 95 8 = dv (A 96) s (rn isDi (A 96) nn b - s) ∧ ∀ a j, ¬ (a = 95 ∧ (j = 7 ∨ j = 8)) → V2 a j = V a j := by
  intro k
  induction k with
  | zero =>
    intro b n V hb hs hn' h1 h7 h8
    obtain ⟨n, rfl⟩ : ∃ m, n = m + 1 := ⟨n - 1, by omega⟩
    rw [rn_e (by omega)]
    refine ⟨V, ?_, h7, h8, fun _ _ _ => rfl⟩
    rw [fX4_readNumber_L5, h1, h7, if_pos (by simp (disch := omega) only [ltI, leI, eqI, tI, tI1, ti_0, ti_1, ti_2, ti_3, ti_4, ti_5, ti_6, ti_7, ti_8, ti_9, ti_10, ti_11, ti_12, ti_14, ti_18, ti_30, ti_39, ti_40, ti_41, ti_45, ti_50, ti_59, ti_97, ti_99, ti_100, ti_122, ti_160, ti_243, ti_255, ti_399, ti_999, ti_1000, ti_1024, ti_99999, tm_1, tm_2, tm_3, tm_4, tm_5, tm_7, tm_11, tm_12, tm_13, tm_14, tm_100, if_pos, if_neg, if_true, if_false, bC_in, bI_s, bS_s, bX_s, bY_s, sO, tC]; omega)]
  | succ k ih =>
    intro b n V hb hs hn' h1 h7 h8
    obtain ⟨n, rfl⟩ : ∃ m, n = m + 1 := ⟨n - 1, by omega⟩
    rw [fX4_readNumber_L5, up2_n (show ¬ (95 = 95 ∧ 7 = 8) by omega), h1, h7, if_neg (by simp (disch := omega) only [ltI, leI, eqI, tI, tI1, ti_0, ti_1, ti_2, ti_3, ti_4, ti_5, ti_6, ti_7, ti_8, ti_9, ti_10, ti_11, ti_12, ti_14, ti_18, ti_30, ti_39, ti_40, ti_41, ti_45, ti_50, ti_59, ti_97, ti_99, ti_100, ti_122, ti_160, ti_243, ti_255, ti_399, ti_999, ti_1000, ti_1024, ti_99999, tm_1, tm_2, tm_3, tm_4, tm_5, tm_7, tm_11, tm_12, tm_13, tm_14, tm_100, if_pos, if_neg, if_true, if_false, bC_in, bI_s, bS_s, bX_s, bY_s, sO, tC]; omega), bC_in ⟨by omega, by decide⟩, tC (by omega), nI_1, h8]
    have no : isDi (A 96 b) = false → ∃ V2, ex A V cu = ex A V2 cu ∧ V2 95 7 = nI (rn isDi (A 96) nn b) ∧ V2 95 8 = dv (A 96) s (rn isDi (A 96) nn b - s) ∧ ∀ a j, ¬ (a = 95 ∧ (j = 7 ∨ j = 8)) → V2 a j = V a j := fun hq => by
      rw [rn_e (fun z => by rw [hq] at z; cases z.2)]
      exact ⟨V, rfl, h7, h8, fun _ _ _ => rfl⟩
    by_cases q1 : A 96 b < 48
    · rw [if_pos q1]; exact no (by unfold isDi; rw [decide_eq_true q1]; rfl)
    · rw [if_neg q1]
      by_cases q2 : 57 < A 96 b
      · rw [if_pos q2]; exact no (by unfold isDi; rw [decide_eq_true q2]; exact Bool.and_false _)
      · rw [if_neg q2]
        have hq : isDi (A 96 b) = true := by unfold isDi; rw [decide_eq_false q1, decide_eq_false q2]; rfl
        have e8 : dv (A 96) s (b - s) * 10 + A 96 b - 48 = dv (A 96) s (b + 1 - s) := by
          rw [show b + 1 - s = (b - s) + 1 by omega, dv, show s + (b - s) = b by omega]
        rw [e8]
        obtain ⟨V2, g1, g2, g3, g4⟩ := ih (b + 1) n (up2 (up2 V 95 8 (dv (A 96) s (b + 1 - s))) 95 7 (nI (b + 1))) (by omega) (by omega) (by omega) (by rw [up2_n (by omega), up2_n (by omega)]; exact h1) (up2_s _ _ _ _) (by rw [up2_n (by omega), up2_s])
        rw [← rn_s (by omega) hq] at g2 g3
        exact ⟨V2, g1, g2, g3, fun a j h => by rw [g4 a j h, up2_n (by omega), up2_n (by omega)]⟩
theorem r_di (hn : nn ≤ 160) {s : Nat} (ex : xM → xM → Value → Option xS) : ∀ k b n (V : xM), b + k = nn → s ≤ b → k < n → V 132 14 = nI nn → V 132 19 = nI b → V 132 22 = nI s → V 132 21 = dv (A 143) s (min (b - s) 4) → ∃ V2, fX9_readNumber_L5 ex n A V cu = ex A V2 cu ∧ V2 132 19 = nI (rn isDi (A 143) nn b) ∧ V2 132 21 = dv (A 143) s (min (rn isDi (A 143) nn b - s) 4) ∧ ∀ a j, ¬ (a = 132 ∧ (j = 19 ∨ j = 21)) → V2 a j = V a j := by
  intro k
  induction k with
  | zero =>
    intro b n V hb hs hn' h1 h7 h6 h8
    obtain ⟨n, rfl⟩ : ∃ m, n = m + 1 := ⟨n - 1, by omega⟩
    rw [rn_e (by omega)]
    refine ⟨V, ?_, h7, h8, fun _ _ _ => rfl⟩
    rw [fX9_readNumber_L5, h1, h7, if_pos (by simp (disch := omega) only [ltI, leI, eqI, tI, tI1, ti_0, ti_1, ti_2, ti_3, ti_4, ti_5, ti_6, ti_7, ti_8, ti_9, ti_10, ti_11, ti_12, ti_14, ti_18, ti_30, ti_39, ti_40, ti_41, ti_45, ti_50, ti_59, ti_97, ti_99, ti_100, ti_122, ti_160, ti_243, ti_255, ti_399, ti_999, ti_1000, ti_1024, ti_99999, tm_1, tm_2, tm_3, tm_4, tm_5, tm_7, tm_11, tm_12, tm_13, tm_14, tm_100, if_pos, if_neg, if_true, if_false, bC_in, bI_s, bS_s, bX_s, bY_s, sO, tC]; omega)]
  | succ k ih =>
    intro b n V hb hs hn' h1 h7 h6 h8
    obtain ⟨n, rfl⟩ : ∃ m, n = m + 1 := ⟨n - 1, by omega⟩
    rw [fX9_readNumber_L5, up2_n (show ¬ (132 = 132 ∧ 19 = 21) by omega), up2_n (show ¬ (132 = 132 ∧ 19 = 21) by omega), h1, h7, h6, nI_sub hs, if_neg (by simp (disch := omega) only [ltI, leI, eqI, tI, tI1, ti_0, ti_1, ti_2, ti_3, ti_4, ti_5, ti_6, ti_7, ti_8, ti_9, ti_10, ti_11, ti_12, ti_14, ti_18, ti_30, ti_39, ti_40, ti_41, ti_45, ti_50, ti_59, ti_97, ti_99, ti_100, ti_122, ti_160, ti_243, ti_255, ti_399, ti_999, ti_1000, ti_1024, ti_99999, tm_1, tm_2, tm_3, tm_4, tm_5, tm_7, tm_11, tm_12, tm_13, tm_14, tm_100, if_pos, if_neg, if_true, if_false, bC_in, bI_s, bS_s, bX_s, bY_s, sO, tC]; omega), bC_in ⟨by omega, by decide⟩, tC (by omega), nI_1, h8]
    have no : isDi (A 143 b) = false → ∃ V2, ex A V cu = ex A V2 cu ∧ V2 132 19 = nI (rn isDi (A 143) nn b) ∧ V2 132 21 = dv (A 143) s (min (rn isDi (A 143) nn b - s) 4) ∧ ∀ a j, ¬ (a = 132 ∧ (j = 19 ∨ j = 21)) → V2 a j = V a j := fun hq => by
      rw [rn_e (fun z => by rw [hq] at z; cases z.2)]
      exact ⟨V, rfl, h7, h8, fun _ _ _ => rfl⟩
    by_cases q1 : A 143 b < 48
    · rw [if_pos q1]; exact no (by unfold isDi; rw [decide_eq_true q1]; rfl)
    · rw [if_neg q1]
      by_cases q2 : 57 < A 143 b
      · rw [if_pos q2]; exact no (by unfold isDi; rw [decide_eq_true q2]; exact Bool.and_false _)
      · rw [if_neg q2]
        have hq : isDi (A 143 b) = true := by unfold isDi; rw [decide_eq_false q1, decide_eq_false q2]; rfl
        have fin : ∀ x, x = dv (A 143) s (min (b + 1 - s) 4) → ∃ V2, fX9_readNumber_L5 ex n A (up2 (up2 V 132 21 x) 132 19 (nI (b + 1))) cu = ex A V2 cu ∧ V2 132 19 = nI (rn isDi (A 143) nn b) ∧ V2 132 21 = dv (A 143) s (min (rn isDi (A 143) nn b - s) 4) ∧ ∀ a j, ¬ (a = 132 ∧ (j = 19 ∨ j = 21)) → V2 a j = V a j := by
          intro x hx
          obtain ⟨V2, g1, g2, g3, g4⟩ := ih (b + 1) n (up2 (up2 V 132 21 x) 132 19 (nI (b + 1))) (by omega) (by omega) (by omega) (by rw [up2_n (by omega), up2_n (by omega)]; exact h1) (up2_s _ _ _ _) (by rw [up2_n (by omega), up2_n (by omega)]; exact h6) (by rw [up2_n (by omega), up2_s]; exact hx)
          rw [← rn_s (by omega) hq] at g2 g3
          exact ⟨V2, g1, g2, g3, fun a j h => by rw [g4 a j h, up2_n (by omega), up2_n (by omega)]⟩
        by_cases z : 4 ≤ b - s
        · rw [if_pos (by simp (disch := omega) only [ltI, leI, eqI, tI, tI1, ti_0, ti_1, ti_2, ti_3, ti_4, ti_5, ti_6, ti_7, ti_8, ti_9, ti_10, ti_11, ti_12, ti_14, ti_18, ti_30, ti_39, ti_40, ti_41, ti_45, ti_50, ti_59, ti_97, ti_99, ti_100, ti_122, ti_160, ti_243, ti_255, ti_399, ti_999, ti_1000, ti_1024, ti_99999, tm_1, tm_2, tm_3, tm_4, tm_5, tm_7, tm_11, tm_12, tm_13, tm_14, tm_100, if_pos, if_neg, if_true, if_false, bC_in, bI_s, bS_s, bX_s, bY_s, sO, tC]; omega)]
          exact fin _ (by rw [Nat.min_eq_right z, Nat.min_eq_right (by omega)])
        · rw [if_neg (by simp (disch := omega) only [ltI, leI, eqI, tI, tI1, ti_0, ti_1, ti_2, ti_3, ti_4, ti_5, ti_6, ti_7, ti_8, ti_9, ti_10, ti_11, ti_12, ti_14, ti_18, ti_30, ti_39, ti_40, ti_41, ti_45, ti_50, ti_59, ti_97, ti_99, ti_100, ti_122, ti_160, ti_243, ti_255, ti_399, ti_999, ti_1000, ti_1024, ti_99999, tm_1, tm_2, tm_3, tm_4, tm_5, tm_7, tm_11, tm_12, tm_13, tm_14, tm_100, if_pos, if_neg, if_true, if_false, bC_in, bI_s, bS_s, bX_s, bY_s, sO, tC]; omega)]
          refine fin _ ?_
          rw [Nat.min_eq_left (by omega), Nat.min_eq_left (by omega), show b + 1 - s = (b - s) + 1 by omega, dv, show s + (b - s) = b by omega, Int32.mul_comm]
end RU
