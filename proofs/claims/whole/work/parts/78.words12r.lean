/-! TEXT: words, the reference. -/
theorem ww_s {t : Nat → Int32} {a len : Nat} : ∀ k, k ≤ 12 → (ww t a len k = 12 ∧ ∀ v, 12 - k ≤ v → v < 12 → mt t a len v = false) ∨ (ww t a len k < 12 ∧ mt t a len (ww t a len k) = true)
  | 0, _ => Or.inl ⟨rfl, fun v h1 h2 => by omega⟩
  | k + 1, h => by
    rw [ww]
    cases q : mt t a len (11 - k) with
    | true => rw [if_pos rfl]; exact Or.inr ⟨by omega, q⟩
    | false =>
      rw [if_neg (by decide)]
      rcases ww_s (t := t) (a := a) (len := len) k (by omega) with ⟨h1, h2⟩ | h1
      · refine Or.inl ⟨h1, fun v g1 g2 => ?_⟩
        by_cases z : v = 11 - k
        · rw [z]; exact q
        · exact h2 v (by omega) g2
      · exact Or.inr h1
def off (w : Nat) : Nat := [0, 4, 8, 10, 14, 18, 25, 28, 33, 37, 39, 42, 45].getD w 0
theorem off_o : ∀ w, w < 13 → ([0, 4, 8, 10, 14, 18, 25, 28, 33, 37, 39, 42, 45] : List Int32).getD w 0 = nI (off w) := by decide
theorem off_l : ∀ w, w < 12 → off (w + 1) = off w + (wd w).length ∧ off (w + 1) ≤ 45 := by decide
theorem off_c : ∀ w, w < 12 → ∀ i, i < 7 → i < (wd w).length → ([107, 110, 111, 119, 119, 105, 108, 108, 98, 121, 115, 111, 110, 103, 114, 111, 111, 109, 101, 118, 101, 110, 105, 110, 103, 109, 97, 121, 108, 101, 97, 114, 110, 119, 97, 108, 108, 111, 114, 97, 110, 100, 110, 111, 116] : List Int32).getD (off w + i) 0 = (wd w).getD i 0 := by decide +kernel
section RW
variable {N : Nat → Nat} {B : Nat → Nat → Nat} {A V A1 V1 : xM} {tx : List xh_T} {cu : Value}
/-- the letters are as they are -/
def lets (A : xM) : Prop := (∀ w, w < 13 → A 147 w = nI (off w)) ∧ ∀ w, w < 12 → ∀ i, i < (wd w).length → A 146 (off w + i) = (wd w).getD i 0
theorem lets_ok (hv : iv N B A V tx cu) : lets A := by
  obtain ⟨h1, h2⟩ : iv_lets N B A V tx cu := hv.2.2.2.2.2.2.2.2.2.2.2.2
  refine ⟨fun w hw => (h2 w hw).trans (off_o w hw), fun w hw i hi => ?_⟩
  have := (wd_len w hw).1
  have o := off_l w hw
  exact (h1 _ (by omega)).trans (off_c w hw i (by omega) hi)
theorem r_sp {a e w : Nat} (hL : lets A) (hw : w < 12) (ha : a ≤ e) (he : e ≤ 160) (h6 : V 132 22 = nI a) (hl : e - a = (wd w).length) (ex : Int32 → Option xS) : ∀ k i n, i + k = (wd w).length → k < n → fX9_readWord_L76 (nI w) (nI (wd w).length) A V cu ex n 1 (nI i) = ex (nI (am (A 143) a w k i).toNat) := by
  have wl := (wd_len w hw).1
  have o := off_l w hw
  intro k
  induction k with
  | zero =>
    intro i n hi hn
    obtain ⟨n, rfl⟩ : ∃ m, n = m + 1 := ⟨n - 1, by omega⟩
    rw [fX9_readWord_L76, if_pos (by simp (disch := omega) only [ltI, leI, eqI, tI, tI1, ti_0, ti_1, ti_2, ti_3, ti_4, ti_5, ti_6, ti_7, ti_8, ti_9, ti_10, ti_11, ti_12, ti_14, ti_18, ti_30, ti_39, ti_40, ti_41, ti_45, ti_50, ti_59, ti_97, ti_99, ti_100, ti_122, ti_160, ti_243, ti_255, ti_399, ti_999, ti_1000, ti_1024, ti_99999, tm_1, tm_2, tm_3, tm_4, tm_5, tm_7, tm_11, tm_12, tm_13, tm_14, tm_100, if_pos, if_neg, if_true, if_false, bC_in, bI_s, bS_s, bX_s, bY_s, sO, tC]; omega)]
    rfl
  | succ k ih =>
    intro i n hi hn
    obtain ⟨n, rfl⟩ : ∃ m, n = m + 1 := ⟨n - 1, by omega⟩
    rw [fX9_readWord_L76, if_neg (by simp (disch := omega) only [ltI, leI, eqI, tI, tI1, ti_0, ti_1, ti_2, ti_3, ti_4, ti_5, ti_6, ti_7, ti_8, ti_9, ti_10, ti_11, ti_12, ti_14, ti_18, ti_30, ti_39, ti_40, ti_41, ti_45, ti_50, ti_59, ti_97, ti_99, ti_100, ti_122, ti_160, ti_243, ti_255, ti_399, ti_999, ti_1000, ti_1024, ti_99999, tm_1, tm_2, tm_3, tm_4, tm_5, tm_7, tm_11, tm_12, tm_13, tm_14, tm_100, if_pos, if_neg, if_true, if_false, bC_in, bI_s, bS_s, bX_s, bY_s, sO, tC]; omega), if_neg (by decide), h6, nI_add, bC_in ⟨by omega, by decide⟩, bC_in ⟨by omega, by decide⟩, tC (show w < 2 ^ 20 by omega), hL.1 w (by omega), nI_add, bC_in ⟨by omega, by decide⟩, tC (by omega), tC (by omega), hL.2 w hw i (by omega), sO, am]
    by_cases q : A 143 (a + i) = (wd w).getD i 0
    · rw [if_pos q, ih (i + 1) n (by omega) (by omega), beq_iff_eq.mpr q, Bool.true_and]
    · rw [if_neg q, beq_eq_false_iff_ne.mpr q, Bool.false_and]
      obtain ⟨n, rfl⟩ : ∃ m, n = m + 1 := ⟨n - 1, by omega⟩
      rw [fX9_readWord_L76]
      by_cases z : nI (wd w).length ≤ nI (i + 1)
      · rw [if_pos z]; rfl
      · rw [if_neg z, if_pos rfl]; rfl
theorem r_spells {a e w : Nat} (hL : lets A) (hw : w < 12) (ha : a ≤ e) (he : e ≤ 160) (h6 : V 132 22 = nI a) (h7 : V 132 19 = nI e) (ex : Int32 → Option xS) : (bC (xq_in (nI w + (1 : Int32)) 13) (bC (xq_in (nI w) 13) (if ((A 147 (nI w + (1 : Int32)).toNatClampNeg) - (A 147 (nI w).toNatClampNeg)) = ((V 132 19) - (V 132 22)) then (fX9_readWord_L76 (nI w) ((A 147 (nI w + (1 : Int32)).toNatClampNeg) - (A 147 (nI w).toNatClampNeg)) A V cu ex FU (1 : Int32) (0 : Int32)) else (fX9_readWord_L76 (nI w) ((A 147 (nI w + (1 : Int32)).toNatClampNeg) - (A 147 (nI w).toNatClampNeg)) A V cu ex FU (0 : Int32) (0 : Int32))))) = ex (nI (mt (A 143) a (e - a) w).toNat) := by
  have wl := (wd_len w hw).1
  have o := off_l w hw
  have el : nI (off (w + 1)) - nI (off w) = nI (wd w).length := by rw [nI_sub (by omega)]; exact congrArg nI (by omega)
  rw [nI_1, bC_in ⟨by omega, by decide⟩, bC_in ⟨by omega, by decide⟩, tC (show w + 1 < 2 ^ 20 by omega), tC (show w < 2 ^ 20 by omega), hL.1 (w + 1) (by omega), hL.1 w (by omega), el, h7, h6, nI_sub ha]
  unfold mt
  by_cases q : e - a = (wd w).length
  · have t : fX9_readWord_L76 (nI w) (nI (wd w).length) A V cu ex FU 1 0 = ex (nI (am (A 143) a w (wd w).length 0).toNat) := r_sp hL hw ha he h6 q ex (wd w).length 0 FU (by omega) (fu_gt (by omega))
    rw [if_pos (by rw [q]), t, beq_iff_eq.mpr q, Bool.true_and]
  · rw [if_neg (fun z => q ((nI_eq (by omega) (by omega)).mp z.symm)), beq_eq_false_iff_ne.mpr q, Bool.false_and, show FU = 4999 + 1 from rfl, fX9_readWord_L76]
    by_cases z : nI (wd w).length ≤ 0
    · rw [if_pos z]; rfl
    · rw [if_neg z, if_pos rfl]; rfl
/-- kind and worth of a word in the reference -/
def wk (v : Nat) : Nat := if v < 6 then 2 else 3
def wv (v : Nat) : Nat := if v < 6 then v else v - 6
theorem r_L32 {a e : Nat} (hL : lets A) (ha : a ≤ e) (he : e ≤ 160) (ex : xM → xM → Value → Option xS) : ∀ k i n (V : xM), i + k = 12 → k < n → V 132 22 = nI a → V 132 19 = nI e → ∃ V2, fX9_readWord_L32 ex n (nI i) A V cu = ex A V2 cu ∧ (∀ b j, ¬ (b = 132 ∧ (j = 20 ∨ j = 21)) → V2 b j = V b j) ∧ ((∀ v, i ≤ v → v < 12 → mt (A 143) a (e - a) v = false) → V2 132 20 = V 132 20 ∧ V2 132 21 = V 132 21) ∧ ∀ v, i ≤ v → v < 12 → mt (A 143) a (e - a) v = true → V2 132 20 = nI (wk v) ∧ V2 132 21 = nI (wv v) := by
  intro k
  induction k with
  | zero =>
    intro i n V hi hn h6 h7
    obtain ⟨n, rfl⟩ : ∃ m, n = m + 1 := ⟨n - 1, by omega⟩
    refine ⟨V, ?_, fun _ _ _ => rfl, fun _ => ⟨rfl, rfl⟩, fun v h1 h2 => by omega⟩
    rw [fX9_readWord_L32, if_pos (by simp (disch := omega) only [ltI, leI, eqI, tI, tI1, ti_0, ti_1, ti_2, ti_3, ti_4, ti_5, ti_6, ti_7, ti_8, ti_9, ti_10, ti_11, ti_12, ti_14, ti_18, ti_30, ti_39, ti_40, ti_41, ti_45, ti_50, ti_59, ti_97, ti_99, ti_100, ti_122, ti_160, ti_243, ti_255, ti_399, ti_999, ti_1000, ti_1024, ti_99999, tm_1, tm_2, tm_3, tm_4, tm_5, tm_7, tm_11, tm_12, tm_13, tm_14, tm_100, if_pos, if_neg, if_true, if_false, bC_in, bI_s, bS_s, bX_s, bY_s, sO, tC]; omega)]
  | succ k ih =>
    intro i n V hi hn h6 h7
    obtain ⟨n, rfl⟩ : ∃ m, n = m + 1 := ⟨n - 1, by omega⟩
    have t := r_spells (cu := cu) hL (show i < 12 by omega) ha he h6 h7 (fun (l3_15 : Int32) => if l3_15 = 0 then (fX9_readWord_L32 ex n (nI i + Int32.ofInt 1) A V cu) else (if (6 : Int32) ≤ nI i then (fX9_readWord_L32 ex n (nI i + Int32.ofInt 1) A (up2 (up2 V 132 20 (3 : Int32)) 132 21 (nI i - (6 : Int32))) cu) else (fX9_readWord_L32 ex n (nI i + Int32.ofInt 1) A (up2 (up2 V 132 20 (2 : Int32)) 132 21 (nI i)) cu)))
    rw [fX9_readWord_L32, if_neg (by simp (disch := omega) only [ltI, leI, eqI, tI, tI1, ti_0, ti_1, ti_2, ti_3, ti_4, ti_5, ti_6, ti_7, ti_8, ti_9, ti_10, ti_11, ti_12, ti_14, ti_18, ti_30, ti_39, ti_40, ti_41, ti_45, ti_50, ti_59, ti_97, ti_99, ti_100, ti_122, ti_160, ti_243, ti_255, ti_399, ti_999, ti_1000, ti_1024, ti_99999, tm_1, tm_2, tm_3, tm_4, tm_5, tm_7, tm_11, tm_12, tm_13, tm_14, tm_100, if_pos, if_neg, if_true, if_false, bC_in, bI_s, bS_s, bX_s, bY_s, sO, tC]; omega)]
    rw [show (∃ V2, _ = ex A V2 cu ∧ (∀ b j, ¬ (b = 132 ∧ (j = 20 ∨ j = 21)) → V2 b j = V b j) ∧ ((∀ v, i ≤ v → v < 12 → mt (A 143) a (e - a) v = false) → V2 132 20 = V 132 20 ∧ V2 132 21 = V 132 21) ∧ ∀ v, i ≤ v → v < 12 → mt (A 143) a (e - a) v = true → V2 132 20 = nI (wk v) ∧ V2 132 21 = nI (wv v)) = _ from by rw [t]]
    cases q : mt (A 143) a (e - a) i with
    | false =>
      rw [nbf, if_pos rfl, sO]
      obtain ⟨V2, g1, g2, g3, g4⟩ := ih (i + 1) n V (by omega) (by omega) h6 h7
      refine ⟨V2, g1, g2, fun h => g3 (fun v h1 h2 => h v (by omega) h2), fun v h1 h2 h3 => ?_⟩
      by_cases z : v = i
      · rw [z, q] at h3; cases h3
      · exact g4 v (by omega) h2 h3
    | true =>
      rw [nbt, if_neg (by decide), sO]
      have only : ∀ v, i + 1 ≤ v → v < 12 → mt (A 143) a (e - a) v = false := fun v h1 h2 => by
        cases z : mt (A 143) a (e - a) v with
        | false => rfl
        | true => have := mt_u (by omega) h2 q z; omega
      have fin : ∀ x y : Int32, x = nI (wk i) → y = nI (wv i) → ∃ V2, fX9_readWord_L32 ex n (nI (i + 1)) A (up2 (up2 V 132 20 x) 132 21 y) cu = ex A V2 cu ∧ (∀ b j, ¬ (b = 132 ∧ (j = 20 ∨ j = 21)) → V2 b j = V b j) ∧ ((∀ v, i ≤ v → v < 12 → mt (A 143) a (e - a) v = false) → V2 132 20 = V 132 20 ∧ V2 132 21 = V 132 21) ∧ ∀ v, i ≤ v → v < 12 → mt (A 143) a (e - a) v = true → V2 132 20 = nI (wk v) ∧ V2 132 21 = nI (wv v) := by
        intro x y hx hy
        obtain ⟨V2, g1, g2, g3, g4⟩ := ih (i + 1) n (up2 (up2 V 132 20 x) 132 21 y) (by omega) (by omega) (by rw [up2_n (by omega), up2_n (by omega)]; exact h6) (by rw [up2_n (by omega), up2_n (by omega)]; exact h7)
        obtain ⟨k1, k2⟩ := g3 only
        refine ⟨V2, g1, fun b j h => by rw [g2 b j h, up2_n (by omega), up2_n (by omega)], fun h => ?_, fun v h1 h2 h3 => ?_⟩
        · rw [h i (Nat.le_refl _) (by omega)] at q; cases q
        · have : v = i := (mt_u (by omega) h2 q h3).symm
          rw [this, k1, k2, up2_n (by omega), up2_s, up2_s]
          exact ⟨hx, hy⟩
      by_cases z : 6 ≤ i
      · rw [if_pos (by simp (disch := omega) only [ltI, leI, eqI, tI, tI1, ti_0, ti_1, ti_2, ti_3, ti_4, ti_5, ti_6, ti_7, ti_8, ti_9, ti_10, ti_11, ti_12, ti_14, ti_18, ti_30, ti_39, ti_40, ti_41, ti_45, ti_50, ti_59, ti_97, ti_99, ti_100, ti_122, ti_160, ti_243, ti_255, ti_399, ti_999, ti_1000, ti_1024, ti_99999, tm_1, tm_2, tm_3, tm_4, tm_5, tm_7, tm_11, tm_12, tm_13, tm_14, tm_100, if_pos, if_neg, if_true, if_false, bC_in, bI_s, bS_s, bX_s, bY_s, sO, tC]; omega)]
        exact fin _ _ (by unfold wk; rw [if_neg (by omega)]; rfl) (by unfold wv; rw [if_neg (by omega), show (6 : Int32) = nI 6 from rfl, nI_sub z])
      · rw [if_neg (by simp (disch := omega) only [ltI, leI, eqI, tI, tI1, ti_0, ti_1, ti_2, ti_3, ti_4, ti_5, ti_6, ti_7, ti_8, ti_9, ti_10, ti_11, ti_12, ti_14, ti_18, ti_30, ti_39, ti_40, ti_41, ti_45, ti_50, ti_59, ti_97, ti_99, ti_100, ti_122, ti_160, ti_243, ti_255, ti_399, ti_999, ti_1000, ti_1024, ti_99999, tm_1, tm_2, tm_3, tm_4, tm_5, tm_7, tm_11, tm_12, tm_13, tm_14, tm_100, if_pos, if_neg, if_true, if_false, bC_in, bI_s, bS_s, bX_s, bY_s, sO, tC]; omega)]
        exact fin _ _ (by unfold wk; rw [if_pos (by omega)]; rfl) (by unfold wv; rw [if_pos (by omega)])
end RW
