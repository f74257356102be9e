/-! TEXT: the reference reads a text. -/
def rPs (nn : Nat) (A V : xM) (k : Nat) : Prop := V 132 14 = nI nn ∧ V 132 19 = nI (ps (A 143) nn k)
def rFr3 (t : Nat) (A V A2 V2 : xM) : Prop := (∀ b, b ≠ 144 → b ≠ 145 → b ≠ 148 → b ≠ 149 → A2 b = A b) ∧ (∀ i, i < 480 * t → A2 144 i = A 144 i) ∧ (∀ i, i < 3 * t → A2 145 i = A 145 i) ∧ ∀ a j, ¬ (a = 132 ∧ (j = 19 ∨ j = 20 ∨ j = 21 ∨ j = 22 ∨ j = 26 ∨ j = 27 ∨ j = 28 ∨ j = 30 ∨ j = 31)) → V2 a j = V a j
theorem rFr3_t {t : Nat} {A V A1 V1 A2 V2 : xM} (h : rFr3 t A V A1 V1) (h2 : rFr3 t A1 V1 A2 V2) : rFr3 t A V A2 V2 := ⟨fun b g1 g2 g3 g4 => (h2.1 b g1 g2 g3 g4).trans (h.1 b g1 g2 g3 g4), fun i g => (h2.2.1 i g).trans (h.2.1 i g), fun i g => (h2.2.2.1 i g).trans (h.2.2.1 i g), fun a j g => (h2.2.2.2 a j g).trans (h.2.2.2 a j g)⟩
theorem rFr_3 {t p : Nat} {A V A2 V2 : xM} (h : rFr2 (3 * t + p) A V A2 V2) : rFr3 t A V A2 V2 := ⟨h.1, fun i hi => h.2.1 i (Or.inl (by omega)), fun i hi => h.2.2.1 i (by omega), h.2.2.2⟩
abbrev rEx : xM → xM → Value → Option (Int32 × xS) := fun (A33 V34 : xM) (c35 : Value) => some ((V34 132 22), A33, V34, c35)
section RA
variable {cu : Value} {nn t : Nat} {T : Nat → Int32}
theorem r_nx0 {A V : xM} {k : Nat} (hL : lets A) (hn : nn ≤ 160) (h : rPs nn A V k) : ∃ V2, fX9_next A V cu = some (A, V2, cu) ∧ rTk nn A V2 k ∧ ∀ a j, ¬ (a = 132 ∧ (j = 19 ∨ j = 20 ∨ j = 21 ∨ j = 22)) → V2 a j = V a j := by
  obtain ⟨V2, x1, x2, x3, x4, x5, x6⟩ := r_next (cu := cu) hL hn (ps_le (t := A 143) k) h.1 h.2
  exact ⟨V2, x1, ⟨by rw [x6 _ _ (by omega)]; exact h.1, x2, x3, x4, x5⟩, x6⟩
theorem rTk_ps {A V : xM} {k : Nat} (h : rTk nn A V k) : rPs nn A V (k + 1) := ⟨h.1, h.2.2.2.1⟩
theorem r_pt (hn : nn ≤ 160) {p : Nat} (hp : p < 3) (ht : t < 6) {A V : xM} {k k' n : Nat} {ok : Bool} {l : List Int32} {ex : xM → xM → Value → Option (Int32 × xS)} (hT : A 143 = T) (hL : lets A) (hk : k ≤ 160) (h : rPs nn A V k) (e : pQ (cC T nn) (tV T nn) p k = some (k', ok, l)) : ∃ A2 V2, rFr2 (3 * t + p) A V A2 V2 ∧ (ok = true → fX9_readAll_L7 (nI t) ex rEx rEx (n + 1) (nI p) A V cu = fX9_readAll_L7 (nI t) ex rEx rEx n (nI (p + 1)) A2 V2 cu ∧ rPs nn A2 V2 k' ∧ A2 145 (3 * t + p) = nI l.length ∧ ∀ j, j < l.length → A2 144 (160 * (3 * t + p) + j) = tr (l.getD j 0)) ∧ (ok = false → fX9_readAll_L7 (nI t) ex rEx rEx (n + 1) (nI p) A V cu = some (nI (tS T nn k'), A2, V2, cu)) := by
  have hc := cC_end (t := T) hn
  obtain ⟨V1, x1, x2, x3⟩ := r_nx0 (cu := cu) hL hn h
  have f1 : rFr2 (3 * t + p) A V A V1 := ⟨fun _ _ _ _ _ => rfl, fun _ _ => rfl, fun _ _ => rfl, fun a j g => x3 a j (by omega)⟩
  rw [fX9_readAll_L7, if_neg (by simp (disch := omega) only [ltI, leI, eqI, tI, tI1, ti_0, ti_1, ti_2, ti_3, ti_4, ti_5, ti_6, ti_7, ti_8, ti_9, ti_10, ti_11, ti_12, ti_14, ti_18, ti_30, ti_39, ti_40, ti_41, ti_45, ti_50, ti_59, ti_97, ti_99, ti_100, ti_122, ti_160, ti_243, ti_255, ti_399, ti_999, ti_1000, ti_1024, ti_99999, tm_1, tm_2, tm_3, tm_4, tm_5, tm_7, tm_11, tm_12, tm_13, tm_14, tm_100, if_pos, if_neg, if_true, if_false, bC_in, bI_s, bS_s, bX_s, bY_s, sO, tC]; omega), x1, bS_s]
  unfold pQ at e
  by_cases q : cC T nn k = nI (9 + p)
  · rw [if_pos q] at e
    have hp0 : ∀ p, p < 3 → nI (9 + p) ≠ 1 := by decide
    have hk1 : k < 160 := lt160 hc (by rw [q]; exact hp0 p hp)
    obtain ⟨h20, h21⟩ := rt_k (u := p) x2 (by omega) (by rw [hT, q, Nat.add_comm])
    rw [if_pos h20, if_pos h21]
    obtain ⟨V2, y1, y2, y3⟩ := r_nx0 (cu := cu) hL hn (rTk_ps x2)
    rw [y1, bS_s, show (3 : Int32) * nI t + nI p = nI (3 * t + p) by rw [show (3 : Int32) = nI 3 from rfl, pk_mul, nI_add]]
    have f2 : rFr2 (3 * t + p) A V A V2 := ⟨fun _ _ _ _ _ => rfl, fun _ _ => rfl, fun _ _ => rfl, fun a j g => by rw [y3 a j (by omega), x3 a j (by omega)]⟩
    obtain ⟨k1, ok1, l1, e1, g1, g2, g3⟩ := pE_ok (v := tV T nn) hc (k := k + 1) (by omega)
    obtain ⟨A3, V3, z1, z2, z3, z4⟩ := r_E (cu := cu) hn (show 3 * t + p < 18 by omega) hT hL (by omega) y2 e1
    rw [z1, bX_s]
    have f3 : rFr2 (3 * t + p) A V A3 V3 := ⟨z3.1, z3.2.1, z3.2.2.1, fun a j g => by rw [z3.2.2.2 a j g, f2.2.2.2 a j g]⟩
    have T3 : A3 143 = T := by rw [z3.1 143 (by decide) (by decide) (by decide) (by decide), hT]
    rw [e1] at e
    cases ok1 with
    | false =>
      obtain ⟨rfl, rfl, rfl⟩ := oke e
      rw [if_pos (show nI false.toNat = 0 from rfl)]
      refine ⟨A3, V3, f3, fun z => (by cases z), fun _ => ?_⟩
      show some (V3 132 22, A3, V3, cu) = _
      rw [z2.2.2.1, T3]
    | true =>
      obtain ⟨rfl, rfl, rfl⟩ := oke e
      rw [if_neg (show ¬ nI true.toNat = 0 by decide), sO]
      exact ⟨A3, V3, f3, fun _ => ⟨rfl, rTk_ps z2, z4 rfl⟩, fun z => (by cases z)⟩
  · rw [if_neg q] at e
    obtain ⟨rfl, rfl, rfl⟩ := oke e
    refine ⟨A, V1, f1, fun z => (by cases z), fun _ => ?_⟩
    have fin : rEx A V1 cu = some (nI (tS T nn k), A, V1, cu) := by
      show some (V1 132 22, A, V1, cu) = _
      rw [x2.2.2.1, hT]
    by_cases q3 : V1 132 20 = 3
    · obtain ⟨w, hw, e1, e2⟩ := rt_3 x2 q3
      rw [if_pos q3, if_neg (fun z => ?_)]
      · exact fin
      · have := (nI_eq (by omega) (by omega)).mp (e1.symm.trans z)
        rw [hT, this] at e2
        exact q (by rw [e2, Nat.add_comm])
    · rw [if_neg q3]
      exact fin
theorem r_allF (hn : nn ≤ 160) (ht : t < 6) {A V : xM} {k : Nat} (hT : A 143 = T) (hL : lets A) (h1 : V 132 14 = nI nn) (h : tF (cC T nn) (tV T nn) k) : ∃ A2 V2, fX9_readAll (nI t) A V cu = some (nI (tS T nn k), A2, V2, cu) ∧ rFr3 t A V A2 V2 := by
  have hc := cC_end (t := T) hn
  unfold fX9_readAll
  have h0 : rPs nn A (up2 V 132 19 (0 : Int32)) 0 := ⟨by rw [up2_n (by omega)]; exact h1, by rw [up2_s]; rfl⟩
  have f0 : rFr3 t A V A (up2 V 132 19 (0 : Int32)) := ⟨fun _ _ _ _ _ => rfl, fun _ _ => rfl, fun _ _ => rfl, fun a j g => up2_n (by omega)⟩
  have e0 : (0 : Int32) = nI 0 := rfl
  rw [show FU = 4999 + 1 from rfl, e0]
  rcases h with ⟨l, e1⟩ | ⟨k1, m1, l, e1, e2⟩ | ⟨k1, m1, k2, m2, l, e1, e2, e3⟩ | ⟨k1, m1, k2, m2, m3, e1, e2, e3, e4⟩
  · obtain ⟨A1, V1, a1, a2, a3⟩ := r_pt (cu := cu) (n := 4999) (ex := fun (A22 V23 : xM) (c24 : Value) => bS (fX9_next A22 V23 c24) (fun A26 V27 c28 => if (V27 132 20) = (5 : Int32) then (some ((-1 : Int32), A26, V27, c28)) else (some ((V27 132 22), A26, V27, c28)))) hn (p := 0) (by omega) ht hT hL (by omega) h0 e1
    exact ⟨A1, V1, a3 rfl, rFr3_t f0 (rFr_3 a1)⟩
  · obtain ⟨A1, V1, a1, a2, a3⟩ := r_pt (cu := cu) (n := 4999) (ex := fun (A22 V23 : xM) (c24 : Value) => bS (fX9_next A22 V23 c24) (fun A26 V27 c28 => if (V27 132 20) = (5 : Int32) then (some ((-1 : Int32), A26, V27, c28)) else (some ((V27 132 22), A26, V27, c28)))) hn (p := 0) (by omega) ht hT hL (by omega) h0 e1
    obtain ⟨a4, a5, -⟩ := a2 rfl
    have g1 := pQ_b (p := 0) (k := 0) hc (by omega) (by omega) e1
    have T1 : A1 143 = T := by rw [a1.1 143 (by decide) (by decide) (by decide) (by decide), hT]
    obtain ⟨A2, V2, b1, b2, b3⟩ := r_pt (cu := cu) (n := 4998) (ex := fun (A22 V23 : xM) (c24 : Value) => bS (fX9_next A22 V23 c24) (fun A26 V27 c28 => if (V27 132 20) = (5 : Int32) then (some ((-1 : Int32), A26, V27, c28)) else (some ((V27 132 22), A26, V27, c28)))) hn (p := 1) (by omega) ht T1 (lets_f2 hL a1) g1.1 a5 e2
    exact ⟨A2, V2, a4.trans (b3 rfl), rFr3_t f0 (rFr3_t (rFr_3 a1) (rFr_3 b1))⟩
  · obtain ⟨A1, V1, a1, a2, a3⟩ := r_pt (cu := cu) (n := 4999) (ex := fun (A22 V23 : xM) (c24 : Value) => bS (fX9_next A22 V23 c24) (fun A26 V27 c28 => if (V27 132 20) = (5 : Int32) then (some ((-1 : Int32), A26, V27, c28)) else (some ((V27 132 22), A26, V27, c28)))) hn (p := 0) (by omega) ht hT hL (by omega) h0 e1
    obtain ⟨a4, a5, -⟩ := a2 rfl
    have g1 := pQ_b (p := 0) (k := 0) hc (by omega) (by omega) e1
    have T1 : A1 143 = T := by rw [a1.1 143 (by decide) (by decide) (by decide) (by decide), hT]
    obtain ⟨A2, V2, b1, b2, b3⟩ := r_pt (cu := cu) (n := 4998) (ex := fun (A22 V23 : xM) (c24 : Value) => bS (fX9_next A22 V23 c24) (fun A26 V27 c28 => if (V27 132 20) = (5 : Int32) then (some ((-1 : Int32), A26, V27, c28)) else (some ((V27 132 22), A26, V27, c28)))) hn (p := 1) (by omega) ht T1 (lets_f2 hL a1) g1.1 a5 e2
    obtain ⟨b4, b5, -⟩ := b2 rfl
    have g2 := pQ_b (p := 1) hc (by omega) g1.1 e2
    have T2 : A2 143 = T := by rw [b1.1 143 (by decide) (by decide) (by decide) (by decide), T1]
    obtain ⟨A3, V3, c1, c2, c3⟩ := r_pt (cu := cu) (n := 4997) (ex := fun (A22 V23 : xM) (c24 : Value) => bS (fX9_next A22 V23 c24) (fun A26 V27 c28 => if (V27 132 20) = (5 : Int32) then (some ((-1 : Int32), A26, V27, c28)) else (some ((V27 132 22), A26, V27, c28)))) hn (p := 2) (by omega) ht T2 (lets_f2 (lets_f2 hL a1) b1) g2.1 b5 e3
    exact ⟨A3, V3, a4.trans (b4.trans (c3 rfl)), rFr3_t f0 (rFr3_t (rFr_3 a1) (rFr3_t (rFr_3 b1) (rFr_3 c1)))⟩
  · obtain ⟨A1, V1, a1, a2, a3⟩ := r_pt (cu := cu) (n := 4999) (ex := fun (A22 V23 : xM) (c24 : Value) => bS (fX9_next A22 V23 c24) (fun A26 V27 c28 => if (V27 132 20) = (5 : Int32) then (some ((-1 : Int32), A26, V27, c28)) else (some ((V27 132 22), A26, V27, c28)))) hn (p := 0) (by omega) ht hT hL (by omega) h0 e1
    obtain ⟨a4, a5, -⟩ := a2 rfl
    have g1 := pQ_b (p := 0) (k := 0) hc (by omega) (by omega) e1
    have T1 : A1 143 = T := by rw [a1.1 143 (by decide) (by decide) (by decide) (by decide), hT]
    obtain ⟨A2, V2, b1, b2, b3⟩ := r_pt (cu := cu) (n := 4998) (ex := fun (A22 V23 : xM) (c24 : Value) => bS (fX9_next A22 V23 c24) (fun A26 V27 c28 => if (V27 132 20) = (5 : Int32) then (some ((-1 : Int32), A26, V27, c28)) else (some ((V27 132 22), A26, V27, c28)))) hn (p := 1) (by omega) ht T1 (lets_f2 hL a1) g1.1 a5 e2
    obtain ⟨b4, b5, -⟩ := b2 rfl
    have g2 := pQ_b (p := 1) hc (by omega) g1.1 e2
    have T2 : A2 143 = T := by rw [b1.1 143 (by decide) (by decide) (by decide) (by decide), T1]
    obtain ⟨A3, V3, c1, c2, c3⟩ := r_pt (cu := cu) (n := 4997) (ex := fun (A22 V23 : xM) (c24 : Value) => bS (fX9_next A22 V23 c24) (fun A26 V27 c28 => if (V27 132 20) = (5 : Int32) then (some ((-1 : Int32), A26, V27, c28)) else (some ((V27 132 22), A26, V27, c28)))) hn (p := 2) (by omega) ht T2 (lets_f2 (lets_f2 hL a1) b1) g2.1 b5 e3
    obtain ⟨c4, c5, -⟩ := c2 rfl
    have T3 : A3 143 = T := by rw [c1.1 143 (by decide) (by decide) (by decide) (by decide), T2]
    have L3 := lets_f2 (lets_f2 (lets_f2 hL a1) b1) c1
    obtain ⟨V4, d1, d2, d3⟩ := r_nx0 (cu := cu) L3 hn c5
    refine ⟨A3, V4, a4.trans (b4.trans (c4.trans ?_)), rFr3_t f0 (rFr3_t (rFr_3 a1) (rFr3_t (rFr_3 b1) (rFr3_t (rFr_3 c1) ⟨fun _ _ _ _ _ => rfl, fun _ _ => rfl, fun _ _ => rfl, fun a j g => d3 a j (by omega)⟩)))⟩
    rw [show (4997 : Nat) = 4996 + 1 from rfl, fX9_readAll_L7, if_pos (show (3 : Int32) ≤ nI (2 + 1) by decide), d1, bS_s, if_neg (fun z => ?_), d2.2.2.1, T3]
    rw [d2.2.1, T3] at z
    have h6 := tK_le (t := T) (n := nn) (k := k)
    have := (nI_eq (b := 5) (by omega) (by omega)).mp z
    exact e4 (by unfold cC; rw [this]; rfl)
theorem r_allG (hn : nn ≤ 160) (ht : t < 6) {A V : xM} {l1 l2 l3 : List Int32} (hT : A 143 = T) (hL : lets A) (h1 : V 132 14 = nI nn) (h : tG (cC T nn) (tV T nn) l1 l2 l3) : ∃ A2 V2, fX9_readAll (nI t) A V cu = some (-1, A2, V2, cu) ∧ rFr3 t A V A2 V2 ∧ (A2 145 (3 * t) = nI l1.length ∧ ∀ j, j < l1.length → A2 144 (160 * (3 * t) + j) = tr (l1.getD j 0)) ∧ (A2 145 (3 * t + 1) = nI l2.length ∧ ∀ j, j < l2.length → A2 144 (160 * (3 * t + 1) + j) = tr (l2.getD j 0)) ∧ (A2 145 (3 * t + 2) = nI l3.length ∧ ∀ j, j < l3.length → A2 144 (160 * (3 * t + 2) + j) = tr (l3.getD j 0)) := by
  have hc := cC_end (t := T) hn
  unfold fX9_readAll
  have h0 : rPs nn A (up2 V 132 19 (0 : Int32)) 0 := ⟨by rw [up2_n (by omega)]; exact h1, by rw [up2_s]; rfl⟩
  have f0 : rFr3 t A V A (up2 V 132 19 (0 : Int32)) := ⟨fun _ _ _ _ _ => rfl, fun _ _ => rfl, fun _ _ => rfl, fun a j g => up2_n (by omega)⟩
  have e0 : (0 : Int32) = nI 0 := rfl
  rw [show FU = 4999 + 1 from rfl, e0]
  obtain ⟨k1, k2, k3, e1, e2, e3, e4⟩ := h
  obtain ⟨A1, V1, a1, a2, a3⟩ := r_pt (cu := cu) (n := 4999) (ex := fun (A22 V23 : xM) (c24 : Value) => bS (fX9_next A22 V23 c24) (fun A26 V27 c28 => if (V27 132 20) = (5 : Int32) then (some ((-1 : Int32), A26, V27, c28)) else (some ((V27 132 22), A26, V27, c28)))) hn (p := 0) (by omega) ht hT hL (by omega) h0 e1
  obtain ⟨a4, a5, a6, a7⟩ := a2 rfl
  have g1 := pQ_b (p := 0) (k := 0) hc (by omega) (by omega) e1
  have gl1 := g1.2 rfl
  have T1 : A1 143 = T := by rw [a1.1 143 (by decide) (by decide) (by decide) (by decide), hT]
  obtain ⟨A2, V2, b1, b2, b3⟩ := r_pt (cu := cu) (n := 4998) (ex := fun (A22 V23 : xM) (c24 : Value) => bS (fX9_next A22 V23 c24) (fun A26 V27 c28 => if (V27 132 20) = (5 : Int32) then (some ((-1 : Int32), A26, V27, c28)) else (some ((V27 132 22), A26, V27, c28)))) hn (p := 1) (by omega) ht T1 (lets_f2 hL a1) g1.1 a5 e2
  obtain ⟨b4, b5, b6, b7⟩ := b2 rfl
  have g2 := pQ_b (p := 1) hc (by omega) g1.1 e2
  have gl2 := g2.2 rfl
  have T2 : A2 143 = T := by rw [b1.1 143 (by decide) (by decide) (by decide) (by decide), T1]
  obtain ⟨A3, V3, c1, c2, c3⟩ := r_pt (cu := cu) (n := 4997) (ex := fun (A22 V23 : xM) (c24 : Value) => bS (fX9_next A22 V23 c24) (fun A26 V27 c28 => if (V27 132 20) = (5 : Int32) then (some ((-1 : Int32), A26, V27, c28)) else (some ((V27 132 22), A26, V27, c28)))) hn (p := 2) (by omega) ht T2 (lets_f2 (lets_f2 hL a1) b1) g2.1 b5 e3
  obtain ⟨c4, c5, c6, c7⟩ := c2 rfl
  have T3 : A3 143 = T := by rw [c1.1 143 (by decide) (by decide) (by decide) (by decide), T2]
  have L3 := lets_f2 (lets_f2 (lets_f2 hL a1) b1) c1
  obtain ⟨V4, d1, d2, d3⟩ := r_nx0 (cu := cu) L3 hn c5
  have h5 : V4 132 20 = 5 := by
    rw [d2.2.1, T3]
    rcases tok_c T nn k3 with ⟨-, q⟩ | ⟨-, w, hw, -, q⟩ | ⟨-, w, hw, -, q⟩ | ⟨-, q, q2⟩ | ⟨q, -⟩ | ⟨-, q⟩
    · rw [q] at e4; exact absurd e4 (by decide)
    · have h1 : ∀ w, w < 6 → nI (w + 3) ≠ 1 := by decide
      exact absurd (q.symm.trans e4) (h1 w hw)
    · have h1 : ∀ w, w < 6 → nI (w + 9) ≠ 1 := by decide
      exact absurd (q.symm.trans e4) (h1 w hw)
    · exact absurd (q.symm.trans e4) (sg_no _ q2).2.2.2.1
    · rw [q]; rfl
    · rw [q] at e4; exact absurd e4 (by decide)
  refine ⟨A3, V4, a4.trans (b4.trans (c4.trans ?_)), rFr3_t f0 (rFr3_t (rFr_3 a1) (rFr3_t (rFr_3 b1) (rFr3_t (rFr_3 c1) ⟨fun _ _ _ _ _ => rfl, fun _ _ => rfl, fun _ _ => rfl, fun a j g => d3 a j (by omega)⟩))), ⟨?_, fun j hj => ?_⟩, ⟨?_, fun j hj => ?_⟩, c6, c7⟩
  · rw [show (4997 : Nat) = 4996 + 1 from rfl, fX9_readAll_L7, if_pos (show (3 : Int32) ≤ nI (2 + 1) by decide), d1, bS_s, if_pos h5]
  · rw [c1.2.2.1 _ (by omega), b1.2.2.1 _ (by omega)]
    exact a6
  · rw [c1.2.1 _ (Or.inl (by omega)), b1.2.1 _ (Or.inl (by omega))]
    exact a7 j hj
  · rw [c1.2.2.1 _ (by omega)]
    exact b6
  · rw [c1.2.1 _ (Or.inl (by omega))]
    exact b7 j hj
end RA
