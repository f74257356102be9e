/-! TEXT: a part of a text: its key, an E, ';'. -/
def pQ (c v : Nat → Int32) (p k : Nat) : pR := if c k = nI (9 + p) then pB (pE c v (k + 1)) (fun k' l => some (k' + 1, true, l)) else some (k, false, [])
section PQ
variable {c v : Nat → Int32}
theorem pE_59 {k k' : Nat} {l : List Int32} (hc : ∀ k, 160 ≤ k → c k = 1) (hk : k ≤ 160) (e : pE c v k = some (k', true, l)) : c k' = 59 ∧ pP c v 45 31 0 k = some (k', true, l) := by
  unfold pE at e
  obtain ⟨k1, ok1, l1, e1, g1, g2, g3⟩ := pP_ok (v := v) hc 45 31 0 k (by omega) (by omega) (by omega) (by omega) hk
  rw [e1] at e ⊢
  cases ok1 with
  | false => obtain ⟨-, z, -⟩ := oke e; cases z
  | true =>
    have e : (if c k1 = 59 then some (k1, true, l1) else some (k1, false, l1)) = some (k', true, l) := e
    by_cases q : c k1 = 59
    · rw [if_pos q] at e
      obtain ⟨rfl, -, rfl⟩ := oke e
      exact ⟨q, rfl⟩
    · rw [if_neg q] at e
      obtain ⟨-, z, -⟩ := oke e
      cases z
theorem pQ_ok (hc : ∀ k, 160 ≤ k → c k = 1) {p k : Nat} (hp : p < 3) (hk : k ≤ 160) : pO k (pQ c v p k) := by
  unfold pQ
  by_cases q : c k = nI (9 + p)
  · rw [if_pos q]
    have hk1 : k < 160 := lt160 hc (by rw [q]; have : ∀ p, p < 3 → nI (9 + p) ≠ 1 := by decide
                                       exact this p hp)
    obtain ⟨k', ok, l, e, g1, g2, g3⟩ := pE_ok (v := v) hc (k := k + 1) (by omega)
    rw [e]
    cases ok with
    | false => exact pO_f (by omega) g2
    | true =>
      obtain ⟨g4, g5⟩ := g3 rfl
      have hk2 : k' < 160 := lt160 hc (by rw [(pE_59 hc (by omega) e).1]; decide)
      exact pO_t (by omega) (by omega) (by omega)
  · rw [if_neg q]
    exact pO_f (Nat.le_refl _) hk
end PQ
section CP
variable {n : Nat} {cu : Value} {T : Nat → Int32}
theorem c_part (hn : n ≤ 160) {p k k' : Nat} {A V : xM} {out l : List Int32} {ok : Bool} (hp : p < 3) (hT : A 96 = T) (hk : k ≤ 160) (hl : out.length ≤ k) (h : cAt n A V k out) (e : pQ (cC T n) (tV T n) p k = some (k', ok, l)) : cRes n A V cu out k' ok l (fX4_readPart (fRd 45) (nI (9 + p)) A V cu) := by
  have hc := cC_end (t := T) hn
  have hp0 : ∀ p, p < 3 → nI (9 + p) ≠ 0 ∧ nI (9 + p) ≠ 1 := by decide
  unfold fX4_readPart
  obtain ⟨V1, x1, x2, x3, x4⟩ := at_expect (cu := cu) hn (x := nI (9 + p)) (hp0 p hp).1 h (by omega)
  rw [x1, bS_s]
  rw [hT] at x2 x3
  unfold pQ at e
  by_cases q : cC T n k = nI (9 + p)
  · rw [if_pos q] at e
    have hk1 : k < 160 := lt160 hc (by rw [q]; exact (hp0 p hp).2)
    have h1 := x2 q
    obtain ⟨k1, ok1, l1, e1, g1, g2, g3⟩ := pP_ok (v := tV T n) hc 45 31 0 (k + 1) (by omega) (by omega) (by omega) (by omega) (by omega)
    obtain ⟨A3, V3, y1, y2, y3, y4, y5⟩ := c_rd (cu := cu) hn 45 31 0 (k + 1) A V1 out k1 ok1 l1 (by omega) (by omega) (by omega) (by omega) hT (by omega) (by omega) h1 e1
    have y1 : fRd 45 31 0 A V1 cu = some (A3, V3, cu) := y1
    rw [y1, bS_s]
    have T3 : A3 96 = T := by rw [y4 96 (by decide), hT]
    unfold pE at e
    rw [e1] at e
    cases ok1 with
    | false =>
      obtain ⟨rfl, rfl, rfl⟩ := oke e
      obtain ⟨V4, z1, z2, z3⟩ := fl_expect (A := A3) (cu := cu) (x := 59) (Nat.le_trans tS_le hn) (by decide) (y3 rfl)
      rw [z1, bS_s]
      exact ⟨A3, V4, rfl, fun z => (by cases z), fun _ => z2, y4, fun a j h => by rw [z3 a j h, y5 a j h, x4 a j h]⟩
    | true =>
      obtain ⟨g4, g5⟩ := g3 rfl
      have e : pB (if cC T n k1 = 59 then some (k1, true, l1) else some (k1, false, l1)) (fun k' l => some (k' + 1, true, l)) = some (k', ok, l) := e
      obtain ⟨V4, z1, z2, z3, z4⟩ := at_expect (cu := cu) hn (x := 59) (by decide) (y2 rfl) (by simp only [List.length_append]; omega)
      rw [z1, bS_s]
      rw [T3] at z2 z3
      by_cases q5 : cC T n k1 = 59
      · rw [if_pos q5] at e
        obtain ⟨rfl, rfl, rfl⟩ := oke e
        exact ⟨A3, V4, rfl, fun _ => z2 q5, fun z => (by cases z), y4, fun a j h => by rw [z4 a j h, y5 a j h, x4 a j h]⟩
      · rw [if_neg q5] at e
        obtain ⟨rfl, rfl, rfl⟩ := oke e
        exact ⟨A3, V4, rfl, fun z => (by cases z), fun _ => by rw [hT]; exact z3 q5, y4, fun a j h => by rw [z4 a j h, y5 a j h, x4 a j h]⟩
  · rw [if_neg q] at e
    obtain ⟨rfl, rfl, rfl⟩ := oke e
    have h1 := x3 q
    have hf : tS T n k ≤ 160 := Nat.le_trans tS_le hn
    obtain ⟨V2, y1, y2, y3⟩ := fl_rd (A := A) (cu := cu) hf h1
    rw [y1, bS_s]
    obtain ⟨V4, z1, z2, z3⟩ := fl_expect (A := A) (cu := cu) (x := 59) hf (by decide) y2
    rw [z1, bS_s]
    exact ⟨A, V4, rfl, fun z => (by cases z), fun _ => by rw [hT]; exact z2, fun _ _ => rfl, fun a j h => by rw [z3 a j h, y3 a j h, x4 a j h]⟩
theorem fl_part {f p : Nat} (hf : f ≤ 160) (hp : p < 3) {A V : xM} (h : cFl n V f) : ∃ V2, fX4_readPart (fRd 45) (nI (9 + p)) A V cu = some (A, V2, cu) ∧ cFl n V2 f ∧ ∀ a j, a ≠ 95 → V2 a j = V a j := by
  have hp0 : ∀ p, p < 3 → nI (9 + p) ≠ 0 := by decide
  unfold fX4_readPart
  obtain ⟨V1, x1, x2, x3⟩ := fl_expect (A := A) (cu := cu) (x := nI (9 + p)) hf (hp0 p hp) h
  rw [x1, bS_s]
  obtain ⟨V2, y1, y2, y3⟩ := fl_rd (A := A) (cu := cu) hf x2
  rw [y1, bS_s]
  obtain ⟨V4, z1, z2, z3⟩ := fl_expect (A := A) (cu := cu) (x := 59) hf (by decide) y2
  rw [z1, bS_s]
  exact ⟨V4, rfl, z2, fun a j h => by rw [z3 a j h, y3 a j h, x3 a j h]⟩
end CP
/-! TEXT: the reference's parts. -/
def rFr2 (row : Nat) (A V A2 V2 : xM) : Prop := (∀ b, b ≠ 144 → b ≠ 145 → b ≠ 148 → b ≠ 149 → A2 b = A b) ∧ (∀ i, i < 160 * row ∨ 160 * row + 160 ≤ i → A2 144 i = A 144 i) ∧ (∀ i, i ≠ row → A2 145 i = A 145 i) ∧ ∀ a j, ¬ (a = 132 ∧ (j = 19 ∨ j = 20 ∨ j = 21 ∨ j = 22 ∨ j = 26 ∨ j = 27 ∨ j = 28 ∨ j = 30 ∨ j = 31)) → V2 a j = V a j
theorem rFr_2 {row : Nat} {A V A2 V2 : xM} (h : rFr row A V A2 V2) : rFr2 row A V A2 V2 := ⟨fun b h1 _ h3 h4 => h.1 b h1 h3 h4, h.2.1, fun i _ => by rw [h.1 145 (by decide) (by decide) (by decide)], h.2.2⟩
theorem lets_f2 {row : Nat} {A V A2 V2 : xM} (h : lets A) (hf : rFr2 row A V A2 V2) : lets A2 := by
  unfold lets
  rw [hf.1 146 (by decide) (by decide) (by decide) (by decide), hf.1 147 (by decide) (by decide) (by decide) (by decide)]
  exact h
section RP
variable {cu : Value} {nn row : Nat} {T : Nat → Int32}
theorem r_E (hn : nn ≤ 160) (hrow : row < 18) {A V : xM} {k k' : Nat} {ok : Bool} {l : List Int32} (hT : A 143 = T) (hL : lets A) (hk : k ≤ 160) (h : rTk nn A V k) (e : pE (cC T nn) (tV T nn) k = some (k', ok, l)) : ∃ A2 V2, fX9_readE (nI row) A V cu = some (nI ok.toNat, A2, V2, cu) ∧ rTk nn A2 V2 k' ∧ rFr2 row A V A2 V2 ∧ (ok = true → A2 145 row = nI l.length ∧ ∀ j, j < l.length → A2 144 (160 * row + j) = tr (l.getD j 0)) := by
  have hc := cC_end (t := T) hn
  obtain ⟨l', em, el⟩ := m_pE hc hk e (G := 161) (by omega)
  unfold fX9_readE
  rw [show (160 : Int32) * nI row = nI (160 * row) by rw [show (160 : Int32) = nI 160 from rfl, pk_mul], nar0]
  obtain ⟨A0, hA0⟩ : ∃ A0, A0 = aw A 149 (0 : Int32) (nI false.toNat) := ⟨_, rfl⟩
  obtain ⟨V0, hV0⟩ : ∃ V0, V0 = up2 (up2 (up2 (up2 (up2 V 132 30 (nI (160 * row))) 132 31 (0 : Int32)) 132 26 (0 : Int32)) 132 27 (0 : Int32)) 132 28 (0 : Int32) := ⟨_, rfl⟩
  rw [← hA0, ← hV0]
  have f0 : rFr row A V A0 V0 := by
    rw [hA0, hV0]
    exact ⟨fun b h1 h2 h3 => aw_n h3, fun i _ => by rw [aw_n (by decide)], fun a j h => by rw [up2_n (by omega), up2_n (by omega), up2_n (by omega), up2_n (by omega), up2_n (by omega)]⟩
  have t0 : rTf A V A0 V0 := by
    rw [hA0, hV0]
    refine ⟨aw_n (by decide), ?_, ?_, ?_, ?_, ?_⟩
    all_goals rw [up2_n (by omega), up2_n (by omega), up2_n (by omega), up2_n (by omega), up2_n (by omega)]
  have s0 : rSt row A0 V0 [] [false] [] := by
    rw [hA0, hV0]
    refine ⟨by rw [up2_n (by omega), up2_n (by omega), up2_s]; rfl, by rw [up2_n (by omega), up2_s]; rfl, by rw [up2_s]; rfl, by rw [up2_n (by omega), up2_n (by omega), up2_n (by omega), up2_n (by omega), up2_s], by rw [up2_n (by omega), up2_n (by omega), up2_n (by omega), up2_s]; rfl, trivial, ⟨by rw [aw_s]; exact pk_us, trivial⟩, fun j hj => absurd hj (Nat.not_lt_zero _), fun x hx => (by cases hx)⟩
  obtain ⟨A2, V2, g1, g2, g3, g4⟩ := r_loop (cu := cu) (T := T) (l1 := nI row) (ex := fun (A195 V196 : xM) (c197 : Value) => bS (fX9_doAll (1 : Int32) A195 V196 c197) (fun A199 V200 c201 => bC (xq_in (nI row) 18) (some ((1 : Int32), (aw A199 145 (nI row) (V200 132 31)), V200, c201)))) hn hrow 161 FU true true 1 1 [] false [] [] k A0 V0 k' ok l' (by unfold FU; omega) rfl rfl (by rw [t0.1, hT]) (lets_f hL f0) (rTk_f h t0) s0 (Nat.zero_le _) hk (by decide) rfl em
  cases ok with
  | false => exact ⟨A2, V2, g3 rfl, g2, rFr_2 (rFr_t f0 g1), fun z => (by cases z)⟩
  | true =>
    have el := el rfl
    subst el
    obtain ⟨x1, W, C, out, x2, x3, x4⟩ := g4 rfl
    rw [x1]
    dsimp only
    unfold fX9_doAll
    obtain ⟨A3, V3, y1, y2, y3, y4⟩ := r_doAll (cu := cu) hrow (r := 1) (by omega) (fun (A30 V31 : xM) (c32 : Value) => some (A30, V31, c32)) W out FU A2 V2 x4 (fu_gt (by omega)) x2
    have y1 : fX9_doAll_L0 1 (fun (A30 V31 : xM) (c32 : Value) => some (A30, V31, c32)) FU A2 V2 cu = some (A3, V3, cu) := y1
    rw [x3] at y2
    rw [y1, bS_s, bC_in ⟨hrow, by decide⟩, y2.2.2.2.2.1]
    have fr := rFr_t f0 (rFr_t g1 y3)
    refine ⟨_, _, rfl, rTk_f (rTk_f g2 y4) ⟨aw_n (by decide), rfl, rfl, rfl, rfl, rfl⟩, ⟨fun b h1 h2 h3 h4 => by rw [aw_n h2]; exact fr.1 b h1 h3 h4, fun i hi => by rw [aw_n (by decide)]; exact fr.2.1 i hi, fun i hi => by rw [aw_s, tC (by omega), pk_un hi, fr.1 145 (by decide) (by decide) (by decide)], fr.2.2⟩, fun _ => ⟨by rw [aw_s, tC (by omega)]; exact pk_us, fun j hj => by rw [aw_n (by decide)]; exact y2.2.2.2.2.2.2.2.1 j hj⟩⟩
end RP
