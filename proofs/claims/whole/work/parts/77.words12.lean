/-! TEXT: words. -/
def wd : Nat → List Int32
  | 0 => [107, 110, 111, 119]
  | 1 => [119, 105, 108, 108]
  | 2 => [98, 121]
  | 3 => [115, 111, 110, 103]
  | 4 => [114, 111, 111, 109]
  | 5 => [101, 118, 101, 110, 105, 110, 103]
  | 6 => [109, 97, 121]
  | 7 => [108, 101, 97, 114, 110]
  | 8 => [119, 97, 108, 108]
  | 9 => [111, 114]
  | 10 => [97, 110, 100]
  | 11 => [110, 111, 116]
  | _ => []
theorem wd_inj : ∀ w, w < 12 → ∀ v, v < 12 → wd w = wd v → w = v := by decide
theorem wd_len : ∀ w, w < 12 → (wd w).length ≤ 7 ∧ 2 ≤ (wd w).length := by decide
theorem wd_s : ∀ w, w < 12 → slen (w + 4) = nI (wd w).length ∧ xq_len.getD (w + 4 - 3) 0 = (wd w).length := by decide +kernel
theorem wd_c : ∀ w, w < 12 → ∀ i, i < 7 → i < (wd w).length → schr (w + 4) i = (wd w).getD i 0 := by decide +kernel
/-- the letters from i on -/
def am (t : Nat → Int32) (a w : Nat) : Nat → Nat → Bool
  | 0, _ => true
  | k + 1, i => (t (a + i) == (wd w).getD i 0) && am t a w k (i + 1)
theorem am_t {t : Nat → Int32} {a w : Nat} : ∀ k i, am t a w k i = true ↔ ∀ j, i ≤ j → j < i + k → t (a + j) = (wd w).getD j 0
  | 0, i => ⟨fun _ j h1 h2 => by omega, fun _ => rfl⟩
  | k + 1, i => by
    rw [am, Bool.and_eq_true, beq_iff_eq, am_t k (i + 1)]
    constructor
    · rintro ⟨h1, h2⟩ j g1 g2
      by_cases q : j = i
      · rw [q]; exact h1
      · exact h2 j (by omega) (by omega)
    · intro h
      exact ⟨h i (by omega) (by omega), fun j g1 g2 => h j (by omega) (by omega)⟩
/-- whether what lies there is that word -/
def mt (t : Nat → Int32) (a len w : Nat) : Bool := len == (wd w).length && am t a w (wd w).length 0
theorem mt_u {t : Nat → Int32} {a len w v : Nat} (hw : w < 12) (hv : v < 12) (h1 : mt t a len w = true) (h2 : mt t a len v = true) : w = v := by
  unfold mt at h1 h2
  rw [Bool.and_eq_true, beq_iff_eq, am_t] at h1 h2
  refine wd_inj w hw v hv (List.ext_getElem (h1.1.symm.trans h2.1) (fun i g1 g2 => ?_))
  have e1 := h1.2 i (Nat.zero_le _) (by omega)
  have e2 := h2.2 i (Nat.zero_le _) (by omega)
  rw [e1] at e2
  rw [List.getD_eq_getElem?_getD, List.getD_eq_getElem?_getD, List.getElem?_eq_getElem g1, List.getElem?_eq_getElem g2] at e2
  exact e2
/-- which word, 12 for none -/
def ww (t : Nat → Int32) (a len : Nat) : Nat → Nat
  | 0 => 12
  | w + 1 => if mt t a len (11 - w) = true then 11 - w else ww t a len w
theorem c_sp {A V : xM} {a e w : Nat} (hw : w < 12) (ha : a ≤ e) (he : e ≤ 160) (h6 : V 95 6 = nI a) (hl : e - a = (wd w).length) : ∀ k i n, i + k = (wd w).length → k < n → fX4_spells_L20 (w + 4) A V (some 1) n (nI i) = some (nI (am (A 96) a w k i).toNat) := by
  obtain ⟨s1, s2⟩ := wd_s w hw
  have wl := (wd_len w hw).1
  intro k
  induction k with
  | zero =>
    intro i n hi hn
    obtain ⟨n, rfl⟩ : ∃ m, n = m + 1 := ⟨n - 1, by omega⟩
    rw [fX4_spells_L20, s1, if_pos (by simp (disch := omega) only [ltI, leI, eqI, tI, tI1, ti_0, ti_1, ti_2, ti_3, ti_4, ti_5, ti_6, ti_7, ti_8, ti_9, ti_10, ti_11, ti_12, ti_14, ti_18, ti_30, ti_39, ti_40, ti_41, ti_45, ti_50, ti_59, ti_97, ti_99, ti_100, ti_122, ti_160, ti_243, ti_255, ti_399, ti_999, ti_1000, ti_1024, ti_99999, tm_1, tm_2, tm_3, tm_4, tm_5, tm_7, tm_11, tm_12, tm_13, tm_14, tm_100, if_pos, if_neg, if_true, if_false, bC_in, bI_s, bS_s, bX_s, bY_s, sO, tC]; omega)]
    rfl
  | succ k ih =>
    intro i n hi hn
    obtain ⟨n, rfl⟩ : ∃ m, n = m + 1 := ⟨n - 1, by omega⟩
    have hc := wd_c w hw i (by omega) (by omega)
    rw [fX4_spells_L20, s1, s2, h6, nI_add, if_neg (by simp (disch := omega) only [ltI, leI, eqI, tI, tI1, ti_0, ti_1, ti_2, ti_3, ti_4, ti_5, ti_6, ti_7, ti_8, ti_9, ti_10, ti_11, ti_12, ti_14, ti_18, ti_30, ti_39, ti_40, ti_41, ti_45, ti_50, ti_59, ti_97, ti_99, ti_100, ti_122, ti_160, ti_243, ti_255, ti_399, ti_999, ti_1000, ti_1024, ti_99999, tm_1, tm_2, tm_3, tm_4, tm_5, tm_7, tm_11, tm_12, tm_13, tm_14, tm_100, if_pos, if_neg, if_true, if_false, bC_in, bI_s, bS_s, bX_s, bY_s, sO, tC]; omega), bC_in ⟨by omega, by decide⟩, bC_in ⟨by omega, by omega⟩, tC (by omega), tC (by omega), hc, sO, am]
    by_cases q : A 96 (a + i) = (wd w).getD i 0
    · rw [if_pos q, ih (i + 1) n (by omega) (by omega), beq_iff_eq.mpr q, Bool.true_and]
    · rw [if_neg q, beq_eq_false_iff_ne.mpr q, Bool.false_and]
      rfl
theorem nI_sub {a b : Nat} (h : a ≤ b) : nI b - nI a = nI (b - a) := by
  obtain ⟨c, rfl⟩ : ∃ c, b = a + c := ⟨b - a, by omega⟩
  rw [show a + c - a = c by omega, ← nI_add, Int32.add_comm, Int32.add_sub_cancel]
theorem c_spells {A V : xM} {a e w : Nat} (hw : w < 12) (ha : a ≤ e) (he : e ≤ 160) (h6 : V 95 6 = nI a) (h7 : V 95 7 = nI e) : fX4_spells (w + 4) A V = some (nI (mt (A 96) a (e - a) w).toNat) := by
  obtain ⟨s1, s2⟩ := wd_s w hw
  have wl := (wd_len w hw).1
  unfold fX4_spells mt
  rw [s1, h6, h7, nI_sub ha]
  by_cases q : e - a = (wd w).length
  · have t : fX4_spells_L20 (w + 4) A V (some 1) FU 0 = some (nI (am (A 96) a w (wd w).length 0).toNat) := c_sp (A := A) hw ha he h6 q (wd w).length 0 FU (by omega) (fu_gt (by omega))
    rw [if_pos (by rw [q]), t, beq_iff_eq.mpr q, Bool.true_and]
  · rw [if_neg (fun z => q ((nI_eq (by omega) (by omega)).mp z)), beq_eq_false_iff_ne.mpr q, Bool.false_and]
    rfl
/-- the class's number of a word -/
def wtk (w : Nat) : Nat := if w = 12 then 0 else w + 3
theorem c_word {A V : xM} {a e : Nat} (ha : a ≤ e) (he : e ≤ 160) (h6 : V 95 6 = nI a) (h7 : V 95 7 = nI e) : fX4_wordToken A V = some (nI (wtk (ww (A 96) a (e - a) 12))) := by
  have sp : ∀ w, w < 12 → fX4_spells (w + 4) A V = some (nI (mt (A 96) a (e - a) w).toNat) := fun w hw => c_spells hw ha he h6 h7
  have s0 := sp 0 (by decide)
  have s1 := sp 1 (by decide)
  have s2 := sp 2 (by decide)
  have s3 := sp 3 (by decide)
  have s4 := sp 4 (by decide)
  have s5 := sp 5 (by decide)
  have s6 := sp 6 (by decide)
  have s7 := sp 7 (by decide)
  have s8 := sp 8 (by decide)
  have s9 := sp 9 (by decide)
  have s10 := sp 10 (by decide)
  have s11 := sp 11 (by decide)
  simp only [Nat.reduceAdd] at s0 s1 s2 s3 s4 s5 s6 s7 s8 s9 s10 s11
  unfold fX4_wordToken
  rw [s0, bI_s]
  cases q0 : mt (A 96) a (e - a) 0 with
  | true => rw [nbt, if_neg (by decide)]; simp only [ww, Nat.reduceSub, q0, if_true]; rfl
  | false =>
  rw [nbf, if_pos rfl, s1, bI_s]
  cases q1 : mt (A 96) a (e - a) 1 with
  | true => rw [nbt, if_neg (by decide)]; simp only [ww, Nat.reduceSub, q0, q1, if_true, if_false, Bool.false_eq_true]; rfl
  | false =>
  rw [nbf, if_pos rfl, s2, bI_s]
  cases q2 : mt (A 96) a (e - a) 2 with
  | true => rw [nbt, if_neg (by decide)]; simp only [ww, Nat.reduceSub, q0, q1, q2, if_true, if_false, Bool.false_eq_true]; rfl
  | false =>
  rw [nbf, if_pos rfl, s3, bI_s]
  cases q3 : mt (A 96) a (e - a) 3 with
  | true => rw [nbt, if_neg (by decide)]; simp only [ww, Nat.reduceSub, q0, q1, q2, q3, if_true, if_false, Bool.false_eq_true]; rfl
  | false =>
  rw [nbf, if_pos rfl, s4, bI_s]
  cases q4 : mt (A 96) a (e - a) 4 with
  | true => rw [nbt, if_neg (by decide)]; simp only [ww, Nat.reduceSub, q0, q1, q2, q3, q4, if_true, if_false, Bool.false_eq_true]; rfl
  | false =>
  rw [nbf, if_pos rfl, s5, bI_s]
  cases q5 : mt (A 96) a (e - a) 5 with
  | true => rw [nbt, if_neg (by decide)]; simp only [ww, Nat.reduceSub, q0, q1, q2, q3, q4, q5, if_true, if_false, Bool.false_eq_true]; rfl
  | false =>
  rw [nbf, if_pos rfl, s6, bI_s]
  cases q6 : mt (A 96) a (e - a) 6 with
  | true => rw [nbt, if_neg (by decide)]; simp only [ww, Nat.reduceSub, q0, q1, q2, q3, q4, q5, q6, if_true, if_false, Bool.false_eq_true]; rfl
  | false =>
  rw [nbf, if_pos rfl, s7, bI_s]
  cases q7 : mt (A 96) a (e - a) 7 with
  | true => rw [nbt, if_neg (by decide)]; simp only [ww, Nat.reduceSub, q0, q1, q2, q3, q4, q5, q6, q7, if_true, if_false, Bool.false_eq_true]; rfl
  | false =>
  rw [nbf, if_pos rfl, s8, bI_s]
  cases q8 : mt (A 96) a (e - a) 8 with
  | true => rw [nbt, if_neg (by decide)]; simp only [ww, Nat.reduceSub, q0, q1, q2, q3, q4, q5, q6, q7, q8, if_true, if_false, Bool.false_eq_true]; rfl
  | false =>
  rw [nbf, if_pos rfl, s9, bI_s]
  cases q9 : mt (A 96) a (e - a) 9 with
  | true => rw [nbt, if_neg (by decide)]; simp only [ww, Nat.reduceSub, q0, q1, q2, q3, q4, q5, q6, q7, q8, q9, if_true, if_false, Bool.false_eq_true]; rfl
  | false =>
  rw [nbf, if_pos rfl, s10, bI_s]
  cases q10 : mt (A 96) a (e - a) 10 with
  | true => rw [nbt, if_neg (by decide)]; simp only [ww, Nat.reduceSub, q0, q1, q2, q3, q4, q5, q6, q7, q8, q9, q10, if_true, if_false, Bool.false_eq_true]; rfl
  | false =>
  rw [nbf, if_pos rfl, s11, bI_s]
  cases q11 : mt (A 96) a (e - a) 11 with
  | true => rw [nbt, if_neg (by decide)]; simp only [ww, Nat.reduceSub, q0, q1, q2, q3, q4, q5, q6, q7, q8, q9, q10, q11, if_true, if_false, Bool.false_eq_true]; rfl
  | false =>
  rw [nbf, if_pos rfl]
  simp only [ww, Nat.reduceSub, q0, q1, q2, q3, q4, q5, q6, q7, q8, q9, q10, q11, if_true, if_false, Bool.false_eq_true]
  rfl
