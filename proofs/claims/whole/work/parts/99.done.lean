/-! TEXT: what is read can be done. -/
def pvl (B : Nat) (l : List Int32) : Prop := ∀ f a h k2, (∀ i, i < l.length → f (a + i) = l.getD i 0) → h + B ≤ 40 → pfd f a (l.length + k2) h = pfd f (a + l.length) k2 (h + 1)
theorem gd_l {l m : List Int32} {i : Nat} (h : i < l.length) : (l ++ m).getD i 0 = l.getD i 0 := by
  rw [List.getD_eq_getElem?_getD, List.getD_eq_getElem?_getD, List.getElem?_append_left h]
theorem gd_r {l m : List Int32} {i : Nat} : (l ++ m).getD (l.length + i) 0 = m.getD i 0 := by
  rw [List.getD_eq_getElem?_getD, List.getD_eq_getElem?_getD, List.getElem?_append_right (by omega), Nat.add_sub_cancel_left]
theorem pv_mono {B B' : Nat} {l : List Int32} (hB : B ≤ B') (h : pvl B l) : pvl B' l := fun f a hh k2 g1 g2 => h f a hh k2 g1 (by omega)
theorem pv_val {B : Nat} {x : Int32} (hB : 1 ≤ B) (hx : 0 ≤ x ∨ (-8 ≤ x ∧ x ≤ -3)) : pvl B [x] := by
  intro f a h k2 g1 g2
  have e : f a = x := g1 0 Nat.zero_lt_one
  rw [List.length_singleton, Nat.add_comm 1 k2, pfd, e, if_pos hx, if_pos (by omega)]
def bn (x : Int32) : Prop := x = -12 ∨ x = -13 ∨ x = -60 ∨ x = -61 ∨ x = -43 ∨ x = -45 ∨ x = -42
theorem bn_no {x : Int32} (h : bn x) : ¬ (0 ≤ x ∨ (-8 ≤ x ∧ x ≤ -3)) ∧ ¬ (x = -14 ∨ x = -15) := by
  rcases h with h | h | h | h | h | h | h <;> subst h <;> decide
theorem pv_un {B : Nat} {l : List Int32} {x : Int32} (h : pvl B l) (hx : x = -14 ∨ x = -15) : pvl B (l ++ [x]) := by
  intro f a hh k2 g1 g2
  rw [List.length_append, List.length_singleton] at g1 ⊢
  rw [Nat.add_assoc, h f a hh (1 + k2) (fun i hi => by rw [g1 i (by omega), gd_l hi]) g2, Nat.add_comm 1 k2]
  have e : f (a + l.length) = x := by
    rw [g1 l.length (by omega)]
    exact gd_r (l := l) (m := [x]) (i := 0)
  have hn : ¬ (0 ≤ x ∨ (-8 ≤ x ∧ x ≤ -3)) := by rcases hx with h | h <;> subst h <;> decide
  rw [pfd, e, if_neg hn, if_pos hx, if_pos (by omega), Nat.add_assoc]
theorem pv_bin {B B1 B2 : Nat} {l m : List Int32} {x : Int32} (h1 : pvl B1 l) (h2 : pvl B2 m) (hx : bn x) (hB1 : B1 ≤ B) (hB2 : B2 + 1 ≤ B) : pvl B (l ++ m ++ [x]) := by
  intro f a hh k2 g1 g2
  rw [List.length_append, List.length_append, List.length_singleton] at g1 ⊢
  have a1 : ∀ i, i < l.length → f (a + i) = l.getD i 0 := fun i hi => by rw [g1 i (by omega), List.append_assoc, gd_l hi]
  have a2 : ∀ i, i < m.length → f (a + l.length + i) = m.getD i 0 := fun i hi => by rw [Nat.add_assoc, g1 (l.length + i) (by omega), List.append_assoc, gd_r, gd_l hi]
  have e : f (a + l.length + m.length) = x := by
    rw [Nat.add_assoc, g1 (l.length + m.length) (by omega)]
    have := gd_r (l := l ++ m) (m := [x]) (i := 0)
    rw [List.length_append] at this
    exact this
  obtain ⟨n1, n2⟩ := bn_no hx
  rw [show l.length + m.length + 1 + k2 = l.length + (m.length + (k2 + 1)) by omega, h1 f a hh (m.length + (k2 + 1)) a1 (by omega), h2 f (a + l.length) (hh + 1) (k2 + 1) a2 (by omega), pfd, e, if_neg n1, if_neg n2, if_pos (show x = -12 ∨ x = -13 ∨ x = -60 ∨ x = -61 ∨ x = -43 ∨ x = -45 ∨ x = -42 from hx), if_pos (by omega)]
  rw [show a + (l.length + m.length + 1) = a + l.length + m.length + 1 by omega, show hh + 1 + 1 - 1 = hh + 1 by omega]
theorem pB_t {r : pR} {f : Nat → List Int32 → pR} {k' : Nat} {l : List Int32} (h : pB r f = some (k', true, l)) : ∃ k1 l1, r = some (k1, true, l1) ∧ f k1 l1 = some (k', true, l) := by
  match r, h with
  | some (k1, true, l1), h => exact ⟨k1, l1, rfl, h⟩
  | some (k1, false, l1), h => obtain ⟨-, z, -⟩ := oke h; cases z
section PV
variable {c v : Nat → Int32}
theorem pL_pv {rc : Nat → pR} {op : Int32 → Bool} {B : Nat} (hr : ∀ k k' l, rc k = some (k', true, l) → pvl B l) (hop : ∀ x, op x = true → bn (-x)) : ∀ m k l k' l', pvl (B + 1) l → pL c rc op m k l = some (k', true, l') → pvl (B + 1) l'
  | 0, k, l, k', l', h, e => by
    rw [pL] at e
    obtain ⟨-, -, rfl⟩ := oke e
    exact h
  | m + 1, k, l, k', l', h, e => by
    rw [pL] at e
    by_cases q : op (c k) = true
    · rw [if_pos q] at e
      obtain ⟨k1, l1, e1, e2⟩ := pB_t e
      exact pL_pv hr hop m k1 _ k' l' (pv_bin h (hr _ _ _ e1) (hop _ q) (Nat.le_refl _) (Nat.le_refl _)) e2
    · rw [if_neg q] at e
      obtain ⟨-, -, rfl⟩ := oke e
      exact h
theorem lev_pv {rc : Nat → pR} {op : Int32 → Bool} {B k k' : Nat} {l : List Int32} (hr : ∀ k k' l, rc k = some (k', true, l) → pvl B l) (hop : ∀ x, op x = true → bn (-x)) (e : pB (rc k) (fun k' l => pL c rc op 160 k' l) = some (k', true, l)) : pvl (B + 1) l := by
  obtain ⟨k1, l1, e1, e2⟩ := pB_t e
  exact pL_pv hr hop 160 k1 l1 k' l (pv_mono (by omega) (hr _ _ _ e1)) e2
theorem bn_or : ∀ x : Int32, decide (x = 12) = true → bn (-x) := fun x h => by have h : x = 12 := of_decide_eq_true h; subst h; exact Or.inl rfl
theorem bn_and : ∀ x : Int32, decide (x = 13) = true → bn (-x) := fun x h => by have h : x = 13 := of_decide_eq_true h; subst h; exact Or.inr (Or.inl rfl)
theorem bn_tim : ∀ x : Int32, decide (x = 42) = true → bn (-x) := fun x h => by have h : x = 42 := of_decide_eq_true h; subst h; exact Or.inr (Or.inr (Or.inr (Or.inr (Or.inr (Or.inr rfl)))))
theorem bn_sum : ∀ x : Int32, isSum x = true → bn (-x) := fun x h => by
  unfold isSum at h
  simp only [Bool.or_eq_true, decide_eq_true_eq] at h
  rcases h with h | h <;> subst h
  · exact Or.inr (Or.inr (Or.inr (Or.inr (Or.inl rfl))))
  · exact Or.inr (Or.inr (Or.inr (Or.inr (Or.inr (Or.inl rfl)))))
theorem bn_cmp : ∀ x : Int32, isCmp x = true → bn (-x) := fun x h => by
  unfold isCmp at h
  simp only [Bool.or_eq_true, decide_eq_true_eq] at h
  rcases h with h | h <;> subst h
  · exact Or.inr (Or.inr (Or.inl rfl))
  · exact Or.inr (Or.inr (Or.inr (Or.inl rfl)))
theorem pP_pv (hv : ∀ k, c k = 2 → 0 ≤ v k) (hm : ∀ k, 3 ≤ c k ∧ c k ≤ 8 → -8 ≤ -(c k) ∧ -(c k) ≤ -3) : ∀ n j o k k' l, 31 ≤ j → j ≤ 36 → o ≤ 5 → pP c v n j o k = some (k', true, l) → pvl (5 * (5 - o) + (37 - j)) l := by
  intro n
  induction n with
  | zero => intro j o k k' l h1 h2 h3 e; rw [pP] at e; cases e
  | succ n ih =>
    intro j o k k' l h1 h2 h3 e
    rw [pP] at e
    by_cases j1 : j = 31
    · rw [if_pos j1] at e
      exact pv_mono (by omega) (lev_pv (fun k k' l => ih 32 o k k' l (by omega) (by omega) h3) bn_or e)
    rw [if_neg j1] at e
    by_cases j2 : j = 32
    · rw [if_pos j2] at e
      exact pv_mono (by omega) (lev_pv (fun k k' l => ih 33 o k k' l (by omega) (by omega) h3) bn_and e)
    rw [if_neg j2] at e
    by_cases j3 : j = 33
    · rw [if_pos j3] at e
      by_cases q : c k = 14
      · rw [if_pos q] at e
        by_cases q2 : o < 5
        · rw [if_pos q2] at e
          obtain ⟨k1, l1, e1, e2⟩ := pB_t e
          obtain ⟨-, -, rfl⟩ := oke e2
          exact pv_un (pv_mono (by omega) (ih 33 (o + 1) (k + 1) k1 l1 (by omega) (by omega) (by omega) e1)) (Or.inl rfl)
        · rw [if_neg q2] at e
          obtain ⟨-, z, -⟩ := oke e
          cases z
      · rw [if_neg q] at e
        obtain ⟨k1, l1, e1, e2⟩ := pB_t e
        have p1 := ih 34 o k k1 l1 (by omega) (by omega) h3 e1
        by_cases q2 : isCmp (c k1) = true
        · rw [if_pos q2] at e2
          obtain ⟨k2, l2, e3, e4⟩ := pB_t e2
          obtain ⟨-, -, rfl⟩ := oke e4
          exact pv_bin p1 (ih 34 o (k1 + 1) k2 l2 (by omega) (by omega) h3 e3) (bn_cmp _ q2) (by omega) (by omega)
        · rw [if_neg q2] at e2
          obtain ⟨-, -, rfl⟩ := oke e2
          exact pv_mono (by omega) p1
    rw [if_neg j3] at e
    by_cases j4 : j = 34
    · rw [if_pos j4] at e
      exact pv_mono (by omega) (lev_pv (fun k k' l => ih 35 o k k' l (by omega) (by omega) h3) bn_sum e)
    rw [if_neg j4] at e
    by_cases j5 : j = 35
    · rw [if_pos j5] at e
      exact pv_mono (by omega) (lev_pv (fun k k' l => ih 36 o k k' l (by omega) (by omega) h3) bn_tim e)
    rw [if_neg j5, if_pos (by omega)] at e
    by_cases q1 : c k = 2
    · rw [if_pos q1] at e
      obtain ⟨-, -, rfl⟩ := oke e
      exact pv_val (by omega) (Or.inl (hv k q1))
    rw [if_neg q1] at e
    by_cases q2 : 3 ≤ c k ∧ c k ≤ 8
    · rw [if_pos q2] at e
      obtain ⟨-, -, rfl⟩ := oke e
      exact pv_val (by omega) (Or.inr (hm k q2))
    rw [if_neg q2] at e
    by_cases q3 : c k = 45 ∧ o < 5
    · rw [if_pos q3] at e
      obtain ⟨k1, l1, e1, e2⟩ := pB_t e
      obtain ⟨-, -, rfl⟩ := oke e2
      exact pv_un (pv_mono (by omega) (ih 36 (o + 1) (k + 1) k1 l1 (by omega) (by omega) (by omega) e1)) (Or.inr rfl)
    rw [if_neg q3] at e
    by_cases q4 : c k = 40 ∧ o < 5
    · rw [if_pos q4] at e
      obtain ⟨k1, l1, e1, e2⟩ := pB_t e
      have p1 := ih 31 (o + 1) (k + 1) k1 l1 (by omega) (by omega) (by omega) e1
      by_cases q5 : c k1 = 41
      · rw [if_pos q5] at e2
        obtain ⟨-, -, rfl⟩ := oke e2
        exact pv_mono (by omega) p1
      · rw [if_neg q5] at e2
        obtain ⟨-, z, -⟩ := oke e2
        cases z
    rw [if_neg q4] at e
    obtain ⟨-, z, -⟩ := oke e
    cases z
end PV
/-- a part that is read is one that can be done -/
theorem pQ_pfd {t : Nat → Int32} {n p k k' : Nat} {l : List Int32} (e : pQ (cC t n) (tV t n) p k = some (k', true, l)) {f : Nat → Int32} {a : Nat} (hf : ∀ i, i < l.length → f (a + i) = l.getD i 0) : pfd f a l.length 0 = some 1 := by
  unfold pQ at e
  by_cases q : cC t n k = nI (9 + p)
  · rw [if_pos q] at e
    obtain ⟨k1, l1, e1, e2⟩ := pB_t e
    obtain ⟨-, -, rfl⟩ := oke e2
    unfold pE at e1
    obtain ⟨k2, l2, e3, e4⟩ := pB_t e1
    have hv : ∀ k, cC t n k = 2 → 0 ≤ tV t n k := fun k h => by
      obtain ⟨m, hm, e⟩ := tV_num (cC_2 h)
      rw [e]
      simp (disch := omega) only [ltI, leI, eqI, tI, tI1, ti_0, ti_1, ti_2, ti_3, ti_4, ti_5, ti_6, ti_7, ti_8, ti_9, ti_10, ti_11, ti_12, ti_14, ti_18, ti_30, ti_39, ti_40, ti_41, ti_45, ti_50, ti_59, ti_97, ti_99, ti_100, ti_122, ti_160, ti_243, ti_255, ti_399, ti_999, ti_1000, ti_1024, ti_99999, tm_1, tm_2, tm_3, tm_4, tm_5, tm_7, tm_11, tm_12, tm_13, tm_14, tm_100, if_pos, if_neg, if_true, if_false, bC_in, bI_s, bS_s, bX_s, bY_s, sO, tC]
      omega
    have hm : ∀ k, 3 ≤ cC t n k ∧ cC t n k ≤ 8 → -8 ≤ -(cC t n k) ∧ -(cC t n k) ≤ -3 := fun k h => by
      obtain ⟨-, w, hw, -, e⟩ := tok_n h
      rw [e]
      have : ∀ w, w < 6 → -8 ≤ -(nI (w + 3)) ∧ -(nI (w + 3)) ≤ -3 := by decide
      exact this w hw
    have hp := pP_pv hv hm 45 31 0 (k + 1) k2 l2 (by omega) (by omega) (by omega) e3
    have hl : l2 = l1 := by
      by_cases z : cC t n k2 = 59
      · rw [if_pos z] at e4
        exact (oke e4).2.2
      · rw [if_neg z] at e4
        have := (oke e4).2.1
        cases this
    subst hl
    have := hp f a 0 0 hf (by omega)
    rw [Nat.add_zero] at this
    rw [this, pfd]
  · rw [if_neg q] at e
    obtain ⟨-, z, -⟩ := oke e
    cases z
