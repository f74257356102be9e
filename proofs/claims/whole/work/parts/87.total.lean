/-! TEXT: the descent ends, takes tokens, and gives at most a step a token. -/
def pO (k : Nat) (r : pR) : Prop := ∃ k' ok l, r = some (k', ok, l) ∧ k ≤ k' ∧ k' ≤ 160 ∧ (ok = true → k + l.length ≤ k' ∧ k < k')
section PO
variable {c v : Nat → Int32}
theorem lt160 (hc : ∀ k, 160 ≤ k → c k = 1) {k : Nat} (h : c k ≠ 1) : k < 160 := Nat.lt_of_not_le (fun z => h (hc k z))
theorem pL_ok (hc : ∀ k, 160 ≤ k → c k = 1) {rc : Nat → pR} {op : Int32 → Bool} (h1 : op 1 = false) (hr : ∀ k, k ≤ 160 → pO k (rc k)) {k0 : Nat} : ∀ m k l, k ≤ 160 → k0 + l.length ≤ k → k0 < k → pO k0 (pL c rc op m k l)
  | 0, k, l, hk, hl, hk0 => ⟨k, true, l, rfl, by omega, hk, fun _ => ⟨hl, hk0⟩⟩
  | m + 1, k, l, hk, hl, hk0 => by
    rw [pL]
    by_cases q : op (c k) = true
    · rw [if_pos q]
      have hk1 : k < 160 := lt160 hc (fun z => by rw [z, h1] at q; cases q)
      obtain ⟨k', ok, l', e, g1, g2, g3⟩ := hr (k + 1) (by omega)
      rw [e]
      cases ok with
      | false => exact ⟨k', false, l', rfl, by omega, g2, fun z => by cases z⟩
      | true =>
        obtain ⟨g4, g5⟩ := g3 rfl
        exact pL_ok hc h1 hr m k' (l ++ l' ++ [-(c k)]) g2 (by simp only [List.length_append, List.length_singleton]; omega) (by omega)
    · rw [if_neg q]
      exact ⟨k, true, l, rfl, by omega, hk, fun _ => ⟨hl, hk0⟩⟩
theorem pB_ok {k : Nat} {r : pR} {f : Nat → List Int32 → pR} (h : pO k r) (hf : ∀ k' l, k' ≤ 160 → k + l.length ≤ k' → k < k' → pO k (f k' l)) : pO k (pB r f) := by
  obtain ⟨k', ok, l, e, g1, g2, g3⟩ := h
  rw [e]
  cases ok with
  | false => exact ⟨k', false, l, rfl, g1, g2, fun z => by cases z⟩
  | true => exact hf k' l g2 (g3 rfl).1 (g3 rfl).2
theorem pB_ok1 {k : Nat} {r : pR} {f : Nat → List Int32 → pR} (h : pO (k + 1) r) (hf : ∀ k' l, k' ≤ 160 → k + 1 + l.length ≤ k' → k + 1 < k' → pO k (f k' l)) : pO k (pB r f) := by
  obtain ⟨k', ok, l, e, g1, g2, g3⟩ := h
  rw [e]
  cases ok with
  | false => exact ⟨k', false, l, rfl, by omega, g2, fun z => by cases z⟩
  | true => exact hf k' l g2 (g3 rfl).1 (g3 rfl).2
theorem pO_f {k k' : Nat} {l : List Int32} (h : k ≤ k') (h2 : k' ≤ 160) : pO k (some (k', false, l)) := ⟨k', false, l, rfl, h, h2, fun z => by cases z⟩
theorem pO_t {k k' : Nat} {l : List Int32} (h : k < k') (h2 : k' ≤ 160) (h3 : k + l.length ≤ k') : pO k (some (k', true, l)) := ⟨k', true, l, rfl, by omega, h2, fun _ => ⟨h3, h⟩⟩
theorem pP_ok (hc : ∀ k, 160 ≤ k → c k = 1) : ∀ n j o k, 31 ≤ j → j ≤ 36 → o ≤ 5 → 6 * (5 - o) + (37 - j) ≤ n → k ≤ 160 → pO k (pP c v n j o k)
  | 0, j, o, k, h1, h2, h3, h4, hk => by omega
  | n + 1, j, o, k, h1, h2, h3, h4, hk => by
    have ih := fun j o k => pP_ok hc n j o k
    rw [pP]
    by_cases j1 : j = 31
    · rw [if_pos j1]
      exact pB_ok (ih 32 o k (by omega) (by omega) h3 (by omega) hk) (fun k' l g1 g2 g3 => pL_ok hc rfl (fun k hk => ih 32 o k (by omega) (by omega) h3 (by omega) hk) 160 k' l g1 g2 g3)
    rw [if_neg j1]
    by_cases j2 : j = 32
    · rw [if_pos j2]
      exact pB_ok (ih 33 o k (by omega) (by omega) h3 (by omega) hk) (fun k' l g1 g2 g3 => pL_ok hc rfl (fun k hk => ih 33 o k (by omega) (by omega) h3 (by omega) hk) 160 k' l g1 g2 g3)
    rw [if_neg j2]
    by_cases j3 : j = 33
    · rw [if_pos j3]
      by_cases q : c k = 14
      · rw [if_pos q]
        have hk1 : k < 160 := lt160 hc (by rw [q]; decide)
        by_cases q2 : o < 5
        · rw [if_pos q2]
          exact pB_ok1 (ih 33 (o + 1) (k + 1) (by omega) (by omega) (by omega) (by omega) (by omega)) (fun k' l g1 g2 g3 => pO_t (by omega) g1 (by simp only [List.length_append, List.length_singleton]; omega))
        · rw [if_neg q2]
          exact pO_f (Nat.le_refl _) hk
      · rw [if_neg q]
        refine pB_ok (ih 34 o k (by omega) (by omega) h3 (by omega) hk) (fun k' l g1 g2 g3 => ?_)
        by_cases q2 : isCmp (c k') = true
        · rw [if_pos q2]
          have hk1 : k' < 160 := lt160 hc (fun z => by rw [z] at q2; cases q2)
          obtain ⟨k2, ok, l2, e, y1, y2, y3⟩ := ih 34 o (k' + 1) (by omega) (by omega) h3 (by omega) (by omega)
          rw [e]
          cases ok with
          | false => exact pO_f (by omega) y2
          | true =>
            obtain ⟨y4, y5⟩ := y3 rfl
            exact pO_t (by omega) y2 (by simp only [List.length_append, List.length_singleton]; omega)
        · rw [if_neg q2]
          exact pO_t g3 g1 g2
    rw [if_neg j3]
    by_cases j4 : j = 34
    · rw [if_pos j4]
      exact pB_ok (ih 35 o k (by omega) (by omega) h3 (by omega) hk) (fun k' l g1 g2 g3 => pL_ok hc rfl (fun k hk => ih 35 o k (by omega) (by omega) h3 (by omega) hk) 160 k' l g1 g2 g3)
    rw [if_neg j4]
    by_cases j5 : j = 35
    · rw [if_pos j5]
      exact pB_ok (ih 36 o k (by omega) (by omega) h3 (by omega) hk) (fun k' l g1 g2 g3 => pL_ok hc rfl (fun k hk => ih 36 o k (by omega) (by omega) h3 (by omega) hk) 160 k' l g1 g2 g3)
    rw [if_neg j5, if_pos (by omega)]
    by_cases q1 : c k = 2
    · rw [if_pos q1]
      have hk1 : k < 160 := lt160 hc (by rw [q1]; decide)
      exact pO_t (by omega) (by omega) (by simp only [List.length_singleton]; omega)
    rw [if_neg q1]
    by_cases q2 : 3 ≤ c k ∧ c k ≤ 8
    · rw [if_pos q2]
      have hk1 : k < 160 := lt160 hc (fun z => by rw [z] at q2; exact absurd q2.1 (by decide))
      exact pO_t (by omega) (by omega) (by simp only [List.length_singleton]; omega)
    rw [if_neg q2]
    by_cases q3 : c k = 45 ∧ o < 5
    · rw [if_pos q3]
      have hk1 : k < 160 := lt160 hc (by rw [q3.1]; decide)
      exact pB_ok1 (ih 36 (o + 1) (k + 1) (by omega) (by omega) (by omega) (by omega) (by omega)) (fun k' l g1 g2 g3 => pO_t (by omega) g1 (by simp only [List.length_append, List.length_singleton]; omega))
    rw [if_neg q3]
    by_cases q4 : c k = 40 ∧ o < 5
    · rw [if_pos q4]
      have hk1 : k < 160 := lt160 hc (by rw [q4.1]; decide)
      refine pB_ok1 (ih 31 (o + 1) (k + 1) (by omega) (by omega) (by omega) (by omega) (by omega)) (fun k' l g1 g2 g3 => ?_)
      by_cases q5 : c k' = 41
      · rw [if_pos q5]
        have hk2 : k' < 160 := lt160 hc (by rw [q5]; decide)
        exact pO_t (by omega) (by omega) (by omega)
      · rw [if_neg q5]
        exact pO_f (by omega) g1
    rw [if_neg q4]
    exact pO_f (Nat.le_refl _) hk
end PO
