/-! TEXT: a text as a whole: three parts, then the end. -/
def tF (c v : Nat → Int32) (k : Nat) : Prop := (∃ l, pQ c v 0 0 = some (k, false, l)) ∨ (∃ k1 m1 l, pQ c v 0 0 = some (k1, true, m1) ∧ pQ c v 1 k1 = some (k, false, l)) ∨ (∃ k1 m1 k2 m2 l, pQ c v 0 0 = some (k1, true, m1) ∧ pQ c v 1 k1 = some (k2, true, m2) ∧ pQ c v 2 k2 = some (k, false, l)) ∨ (∃ k1 m1 k2 m2 m3, pQ c v 0 0 = some (k1, true, m1) ∧ pQ c v 1 k1 = some (k2, true, m2) ∧ pQ c v 2 k2 = some (k, true, m3) ∧ c k ≠ 1)
def tG (c v : Nat → Int32) (l1 l2 l3 : List Int32) : Prop := ∃ k1 k2 k3, pQ c v 0 0 = some (k1, true, l1) ∧ pQ c v 1 k1 = some (k2, true, l2) ∧ pQ c v 2 k2 = some (k3, true, l3) ∧ c k3 = 1
theorem t_ex {c v : Nat → Int32} (hc : ∀ k, 160 ≤ k → c k = 1) : (∃ k, tF c v k) ∨ ∃ l1 l2 l3, tG c v l1 l2 l3 := by
  obtain ⟨k1, o1, l1, e1, -, g1, -⟩ := pQ_ok (v := v) hc (p := 0) (k := 0) (by omega) (by omega)
  cases o1 with
  | false => exact Or.inl ⟨k1, Or.inl ⟨l1, e1⟩⟩
  | true =>
    obtain ⟨k2, o2, l2, e2, -, g2, -⟩ := pQ_ok (v := v) hc (p := 1) (by omega) g1
    cases o2 with
    | false => exact Or.inl ⟨k2, Or.inr (Or.inl ⟨k1, l1, l2, e1, e2⟩)⟩
    | true =>
      obtain ⟨k3, o3, l3, e3, -, g3, -⟩ := pQ_ok (v := v) hc (p := 2) (by omega) g2
      cases o3 with
      | false => exact Or.inl ⟨k3, Or.inr (Or.inr (Or.inl ⟨k1, l1, k2, l2, l3, e1, e2, e3⟩))⟩
      | true =>
        by_cases q : c k3 = 1
        · exact Or.inr ⟨l1, l2, l3, k1, k2, k3, e1, e2, e3, q⟩
        · exact Or.inl ⟨k3, Or.inr (Or.inr (Or.inr ⟨k1, l1, k2, l2, l3, e1, e2, e3, q⟩))⟩
theorem pQ_b {c v : Nat → Int32} (hc : ∀ k, 160 ≤ k → c k = 1) {p k k' : Nat} {ok : Bool} {l : List Int32} (hp : p < 3) (hk : k ≤ 160) (e : pQ c v p k = some (k', ok, l)) : k' ≤ 160 ∧ (ok = true → k + l.length ≤ k') := by
  obtain ⟨k1, o1, l1, e1, -, g1, g2⟩ := pQ_ok (v := v) hc hp hk
  rw [e] at e1
  obtain ⟨rfl, rfl, rfl⟩ := oke e1
  exact ⟨g1, fun z => (g2 z).1⟩
/-- what the class reads -/
def fX4_read (A V : xM) (cu : Value) : Option (Int32 × Int32 × xS) := bS (fX4_next A (up2 (up2 (up2 V 95 2 (-1 : Int32)) 95 4 (0 : Int32)) 95 7 (0 : Int32)) cu) (fun A0 V0 c0 => bS (fX4_readPart (fRd 45) 9 A0 V0 c0) (fun A1 V1 c1 => bS (fX4_readPart (fRd 45) 10 A1 V1 c1) (fun A2 V2 c2 => bS (fX4_readPart (fRd 45) 11 A2 V2 c2) (fun A3 V3 c3 => if V3 95 5 = 1 then some (V1 95 4, V2 95 4, A3, V3, c3) else bS (fX4_fail A3 V3 c3) (fun A4 V4 c4 => some (V1 95 4, V2 95 4, A4, V4, c4))))))
section CR
variable {n : Nat} {cu : Value} {T : Nat → Int32} {A V : xM}
theorem c_first (hn : n ≤ 160) (hT : A 96 = T) (h1 : V 95 1 = nI n) : ∃ V0, fX4_next A (up2 (up2 (up2 V 95 2 (-1 : Int32)) 95 4 (0 : Int32)) 95 7 (0 : Int32)) cu = some (A, V0, cu) ∧ cAt n A V0 0 [] ∧ ∀ a j, a ≠ 95 → V0 a j = V a j := by
  obtain ⟨V2, x1, x2, x3, x4, x5, x6, x7⟩ := c_next (A := A) (V := up2 (up2 (up2 V 95 2 (-1 : Int32)) 95 4 (0 : Int32)) 95 7 (0 : Int32)) (cu := cu) (b := 0) hn (Nat.zero_le _) (by rw [up2_n (by omega), up2_n (by omega), up2_n (by omega)]; exact h1) (by rw [up2_s]; rfl)
  refine ⟨V2, x1, ⟨by rw [x7 _ _ (by omega), up2_n (by omega), up2_n (by omega), up2_n (by omega)]; exact h1, x4, x2, x3, x5, ?_, by rw [x7 _ _ (by omega), up2_n (by omega), up2_s]; rfl, fun i hi => absurd hi (Nat.not_lt_zero _)⟩, fun a j h => by rw [x7 a j (by omega), up2_n (by omega), up2_n (by omega), up2_n (by omega)]⟩
  rw [x6, up2_n (show ¬ (95 = 95 ∧ 2 = 7) by omega), up2_n (show ¬ (95 = 95 ∧ 2 = 4) by omega), up2_s]
  by_cases q : tkK (A 96) n 0 = 6
  · rw [if_pos ⟨q, rfl⟩, if_pos (show tK (A 96) n 0 = 6 from q)]
    rfl
  · rw [if_neg (fun z => q z.1), if_neg (show ¬ tK (A 96) n 0 = 6 from q)]
/-- behind the parts, failed -/
theorem c_lastf {f : Nat} (hf : f ≤ 160) (h : cFl n V f) (x y : Int32) : ∃ V2, (if V 95 5 = 1 then some (x, y, A, V, cu) else bS (fX4_fail A V cu) (fun A4 V4 c4 => some (x, y, A4, V4, c4))) = some (x, y, A, V2, cu) ∧ V2 95 2 = nI f ∧ ∀ a j, a ≠ 95 → V2 a j = V a j := by
  rw [h.2.1, if_neg (by decide)]
  obtain ⟨V2, x1, x2, x3⟩ := fl_fail (A := A) (cu := cu) hf h
  rw [x1, bS_s]
  exact ⟨V2, rfl, x2.2.2.1, x3⟩
theorem c_readF (hn : n ≤ 160) (hT : A 96 = T) (h1 : V 95 1 = nI n) {k : Nat} (h : tF (cC T n) (tV T n) k) : ∃ x y A2 V2, fX4_read A V cu = some (x, y, A2, V2, cu) ∧ V2 95 2 = nI (tS T n k) ∧ (∀ b, b ≠ 97 → A2 b = A b) ∧ ∀ a j, a ≠ 95 → V2 a j = V a j := by
  have hc := cC_end (t := T) hn
  have hf : tS T n k ≤ 160 := Nat.le_trans tS_le hn
  unfold fX4_read
  obtain ⟨V0, a1, a2, a3⟩ := c_first (cu := cu) hn hT h1
  rw [a1, bS_s]
  rcases h with ⟨l, e1⟩ | ⟨k1, m1, l, e1, e2⟩ | ⟨k1, m1, k2, m2, l, e1, e2, e3⟩ | ⟨k1, m1, k2, m2, m3, e1, e2, e3, e4⟩
  · obtain ⟨A1, V1, b1, b2, b3, b4, b5⟩ := c_part (cu := cu) (p := 0) (k := 0) (out := []) hn (by omega) hT (by omega) (Nat.le_refl _) a2 e1
    have b1 : fX4_readPart (fRd 45) 9 A V0 cu = some (A1, V1, cu) := b1
    have b3 := b3 rfl
    rw [hT] at b3
    obtain ⟨V2, c1, c2, c3⟩ := fl_part (A := A1) (cu := cu) (p := 1) hf (by omega) b3
    have c1 : fX4_readPart (fRd 45) 10 A1 V1 cu = some (A1, V2, cu) := c1
    obtain ⟨V3, d1, d2, d3⟩ := fl_part (A := A1) (cu := cu) (p := 2) hf (by omega) c2
    have d1 : fX4_readPart (fRd 45) 11 A1 V2 cu = some (A1, V3, cu) := d1
    obtain ⟨V4, f1, f2, f3⟩ := c_lastf (A := A1) (cu := cu) hf d2 (V1 95 4) (V2 95 4)
    rw [b1, bS_s, c1, bS_s, d1, bS_s, f1]
    exact ⟨_, _, A1, V4, rfl, f2, b4, fun a j h => by rw [f3 a j h, d3 a j h, c3 a j h, b5 a j h, a3 a j h]⟩
  · obtain ⟨A1, V1, b1, b2, b3, b4, b5⟩ := c_part (cu := cu) (p := 0) (k := 0) (out := []) hn (by omega) hT (by omega) (Nat.le_refl _) a2 e1
    have b1 : fX4_readPart (fRd 45) 9 A V0 cu = some (A1, V1, cu) := b1
    have T1 : A1 96 = T := by rw [b4 96 (by decide), hT]
    have g1 := pQ_b (p := 0) (k := 0) hc (by omega) (by omega) e1
    have gl := g1.2 rfl
    obtain ⟨A2, V2, c1, c2, c3, c4, c5⟩ := c_part (cu := cu) (p := 1) hn (by omega) T1 g1.1 (by rw [List.nil_append]; omega) (b2 rfl) e2
    have c1 : fX4_readPart (fRd 45) 10 A1 V1 cu = some (A2, V2, cu) := c1
    have c3 := c3 rfl
    rw [T1] at c3
    obtain ⟨V3, d1, d2, d3⟩ := fl_part (A := A2) (cu := cu) (p := 2) hf (by omega) c3
    have d1 : fX4_readPart (fRd 45) 11 A2 V2 cu = some (A2, V3, cu) := d1
    obtain ⟨V4, f1, f2, f3⟩ := c_lastf (A := A2) (cu := cu) hf d2 (V1 95 4) (V2 95 4)
    rw [b1, bS_s, c1, bS_s, d1, bS_s, f1]
    exact ⟨_, _, A2, V4, rfl, f2, fun b hb => by rw [c4 b hb, b4 b hb], fun a j h => by rw [f3 a j h, d3 a j h, c5 a j h, b5 a j h, a3 a j h]⟩
  · obtain ⟨A1, V1, b1, b2, b3, b4, b5⟩ := c_part (cu := cu) (p := 0) (k := 0) (out := []) hn (by omega) hT (by omega) (Nat.le_refl _) a2 e1
    have b1 : fX4_readPart (fRd 45) 9 A V0 cu = some (A1, V1, cu) := b1
    have T1 : A1 96 = T := by rw [b4 96 (by decide), hT]
    have g1 := pQ_b (p := 0) (k := 0) hc (by omega) (by omega) e1
    have gl := g1.2 rfl
    obtain ⟨A2, V2, c1, c2, c3, c4, c5⟩ := c_part (cu := cu) (p := 1) hn (by omega) T1 g1.1 (by rw [List.nil_append]; omega) (b2 rfl) e2
    have c1 : fX4_readPart (fRd 45) 10 A1 V1 cu = some (A2, V2, cu) := c1
    have T2 : A2 96 = T := by rw [c4 96 (by decide), T1]
    have g2 := pQ_b (p := 1) hc (by omega) g1.1 e2
    have gl2 := g2.2 rfl
    obtain ⟨A3, V3, d1, d2, d3, d4, d5⟩ := c_part (cu := cu) (p := 2) hn (by omega) T2 g2.1 (by simp only [List.nil_append, List.length_append]; omega) (c2 rfl) e3
    have d1 : fX4_readPart (fRd 45) 11 A2 V2 cu = some (A3, V3, cu) := d1
    have d3 := d3 rfl
    rw [T2] at d3
    obtain ⟨V4, f1, f2, f3⟩ := c_lastf (A := A3) (cu := cu) hf d3 (V1 95 4) (V2 95 4)
    rw [b1, bS_s, c1, bS_s, d1, bS_s, f1]
    exact ⟨_, _, A3, V4, rfl, f2, fun b hb => by rw [d4 b hb, c4 b hb, b4 b hb], fun a j h => by rw [f3 a j h, d5 a j h, c5 a j h, b5 a j h, a3 a j h]⟩
  · obtain ⟨A1, V1, b1, b2, b3, b4, b5⟩ := c_part (cu := cu) (p := 0) (k := 0) (out := []) hn (by omega) hT (by omega) (Nat.le_refl _) a2 e1
    have b1 : fX4_readPart (fRd 45) 9 A V0 cu = some (A1, V1, cu) := b1
    have T1 : A1 96 = T := by rw [b4 96 (by decide), hT]
    have g1 := pQ_b (p := 0) (k := 0) hc (by omega) (by omega) e1
    have gl := g1.2 rfl
    obtain ⟨A2, V2, c1, c2, c3, c4, c5⟩ := c_part (cu := cu) (p := 1) hn (by omega) T1 g1.1 (by rw [List.nil_append]; omega) (b2 rfl) e2
    have c1 : fX4_readPart (fRd 45) 10 A1 V1 cu = some (A2, V2, cu) := c1
    have T2 : A2 96 = T := by rw [c4 96 (by decide), T1]
    have g2 := pQ_b (p := 1) hc (by omega) g1.1 e2
    have gl2 := g2.2 rfl
    obtain ⟨A3, V3, d1, d2, d3, d4, d5⟩ := c_part (cu := cu) (p := 2) hn (by omega) T2 g2.1 (by simp only [List.nil_append, List.length_append]; omega) (c2 rfl) e3
    have d1 : fX4_readPart (fRd 45) 11 A2 V2 cu = some (A3, V3, cu) := d1
    have T3 : A3 96 = T := by rw [d4 96 (by decide), T2]
    have g3 := pQ_b (p := 2) hc (by omega) g2.1 e3
    have gl3 := g3.2 rfl
    have d2 := d2 rfl
    obtain ⟨V4, f1, f2, f3⟩ := at_fail (cu := cu) hn d2 (by simp only [List.nil_append, List.length_append]; omega)
    rw [T3] at f2
    rw [b1, bS_s, c1, bS_s, d1, bS_s, if_neg (by rw [d2.2.2.1, T3]; exact e4), f1, bS_s]
    exact ⟨_, _, A3, V4, rfl, f2.2.2.1, fun b hb => by rw [d4 b hb, c4 b hb, b4 b hb], fun a j h => by rw [f3 a j h, d5 a j h, c5 a j h, b5 a j h, a3 a j h]⟩
theorem c_readG (hn : n ≤ 160) (hT : A 96 = T) (h1 : V 95 1 = nI n) {l1 l2 l3 : List Int32} (h : tG (cC T n) (tV T n) l1 l2 l3) : ∃ A2 V2, fX4_read A V cu = some (nI l1.length, nI (l1.length + l2.length), A2, V2, cu) ∧ V2 95 2 = -1 ∧ V2 95 4 = nI (l1 ++ l2 ++ l3).length ∧ (l1 ++ l2 ++ l3).length ≤ 160 ∧ (∀ i, i < (l1 ++ l2 ++ l3).length → A2 97 i = (l1 ++ l2 ++ l3).getD i 0) ∧ (∀ b, b ≠ 97 → A2 b = A b) ∧ ∀ a j, a ≠ 95 → V2 a j = V a j := by
  have hc := cC_end (t := T) hn
  unfold fX4_read
  obtain ⟨V0, a1, a2, a3⟩ := c_first (cu := cu) hn hT h1
  rw [a1, bS_s]
  obtain ⟨k1, k2, k3, e1, e2, e3, e4⟩ := h
  obtain ⟨A1, V1, b1, b2, b3, b4, b5⟩ := c_part (cu := cu) (p := 0) (k := 0) (out := []) hn (by omega) hT (by omega) (Nat.le_refl _) a2 e1
  have b1 : fX4_readPart (fRd 45) 9 A V0 cu = some (A1, V1, cu) := b1
  have T1 : A1 96 = T := by rw [b4 96 (by decide), hT]
  have g1 := pQ_b (p := 0) (k := 0) hc (by omega) (by omega) e1
  have gl := g1.2 rfl
  have b2 := b2 rfl
  obtain ⟨A2, V2, c1, c2, c3, c4, c5⟩ := c_part (cu := cu) (p := 1) hn (by omega) T1 g1.1 (by rw [List.nil_append]; omega) b2 e2
  have c1 : fX4_readPart (fRd 45) 10 A1 V1 cu = some (A2, V2, cu) := c1
  have T2 : A2 96 = T := by rw [c4 96 (by decide), T1]
  have g2 := pQ_b (p := 1) hc (by omega) g1.1 e2
  have gl2 := g2.2 rfl
  have c2 := c2 rfl
  obtain ⟨A3, V3, d1, d2, d3, d4, d5⟩ := c_part (cu := cu) (p := 2) hn (by omega) T2 g2.1 (by simp only [List.nil_append, List.length_append]; omega) c2 e3
  have d1 : fX4_readPart (fRd 45) 11 A2 V2 cu = some (A3, V3, cu) := d1
  have T3 : A3 96 = T := by rw [d4 96 (by decide), T2]
  have g3 := pQ_b (p := 2) hc (by omega) g2.1 e3
  have gl3 := g3.2 rfl
  have d2 := d2 rfl
  obtain ⟨p1, p7, p5, p6, p8, p2, p4, po⟩ := d2
  rw [T3] at p5 p2
  have hk6 : tK T n k3 ≠ 6 := fun z => by have := cC_6 z; rw [e4] at this; exact absurd this (by decide)
  rw [b1, bS_s, c1, bS_s, d1, bS_s, if_pos (by rw [p5]; exact e4)]
  rw [List.nil_append] at p4 po
  refine ⟨A3, V3, ?_, by rw [p2, if_neg hk6], p4, by simp only [List.length_append]; omega, po, fun b hb => by rw [d4 b hb, c4 b hb, b4 b hb], fun a j h => by rw [d5 a j h, c5 a j h, b5 a j h, a3 a j h]⟩
  have q1 : V1 95 4 = nI l1.length := by have := b2.2.2.2.2.2.2.1; rw [List.nil_append] at this; exact this
  have q2 : V2 95 4 = nI (l1.length + l2.length) := by have := c2.2.2.2.2.2.2.1; rw [List.nil_append, List.length_append] at this; exact this
  rw [q1, q2]
end CR
