/-! PLANS: what both come to, and the calls. -/
noncomputable def pans (dl : Nat → Nat → Option Nat) (M a0 : Nat) (dn : Nat → Prop) : Int32 × Int32 := @dite (Int32 × Int32) (∃ q : Nat × Nat, isBest dl M a0 dn q.1 q.2) (Classical.propDecidable _) (fun h => (nI h.choose.1, olb h.choose.1 h.choose.2)) (fun _ => (-1, -1))
theorem pans_b {dl dl' : Nat → Nat → Option Nat} {M a0 a0' : Nat} {dn dn' : Nat → Prop} (hw : ∀ w, (∃ n, wrun dl M a0 w = some n ∧ dn n) ↔ ∃ n, wrun dl' M a0' w = some n ∧ dn' n) {D L : Nat} (h : isBest dl M a0 dn D L) : pans dl' M a0' dn' = (nI D, olb D L) := by
  have he : ∃ q : Nat × Nat, isBest dl' M a0' dn' q.1 q.2 := by
    obtain ⟨⟨w, n, a1, a2, a3, a4⟩, a5⟩ := h
    obtain ⟨m, e1, e2⟩ := (hw w).mp ⟨n, a1, a2⟩
    refine ⟨(D, L), ⟨w, m, e1, e2, a3, a4⟩, fun u m' f1 f2 => ?_⟩
    obtain ⟨n', g1, g2⟩ := (hw u).mpr ⟨m', f1, f2⟩
    exact a5 u n' g1 g2
  unfold pans
  rw [dif_pos he]
  have hc := he.choose_spec
  obtain ⟨q1, q2⟩ := best_eq hw h hc
  rw [← q1]
  refine Prod.ext rfl ?_
  show olb D _ = olb D L
  unfold olb
  by_cases z : D = 0
  · rw [if_pos z, if_pos z]
  · rw [if_neg z, if_neg z, q2 (by omega)]
theorem pans_n {dl dl' : Nat → Nat → Option Nat} {M a0 a0' : Nat} {dn dn' : Nat → Prop} (hw : ∀ w, (∃ n, wrun dl M a0 w = some n ∧ dn n) ↔ ∃ n, wrun dl' M a0' w = some n ∧ dn' n) (h : noBest dl M a0 dn) : pans dl' M a0' dn' = (-1, -1) := by
  unfold pans
  rw [dif_neg]
  rintro ⟨q, hq⟩
  exact best_no hw h hq
theorem mk5_p {f : Nat → Bool} {n : Nat} (hn : n ≤ 5) (h : inP n f) : mk5 f < 2 ^ n := by
  have hf : ∀ p, p < 5 → n ≤ p → (f p).toNat = 0 := fun p hp q => by rw [inP_f h hp q]; rfl
  have h0 := Bool.toNat_le (f 0)
  have h1 := Bool.toNat_le (f 1)
  have h2 := Bool.toNat_le (f 2)
  have h3 := Bool.toNat_le (f 3)
  have h4 := Bool.toNat_le (f 4)
  have g0 := hf 0 (by omega)
  have g1 := hf 1 (by omega)
  have g2 := hf 2 (by omega)
  have g3 := hf 3 (by omega)
  have g4 := hf 4 (by omega)
  unfold mk5
  rcases (show n = 0 ∨ n = 1 ∨ n = 2 ∨ n = 3 ∨ n = 4 ∨ n = 5 by omega) with q | q | q | q | q | q <;> rw [q] at g0 g1 g2 g3 g4 ⊢ <;> omega
section PO
variable {N : Nat → Nat} {B : Nat → Nat → Nat} {A V A1 V1 : xM} {tx : List xh_T} {cu : Value}
noncomputable def pA (N : Nat → Nat) (B : Nat → Nat → Nat) (tx : List xh_T) (f0 : Nat → Int32) (nd : Nat → Int32) (s r wa no aw' : Nat) : Int32 × Int32 := pans (dlC N B tx f0 (nd s) s r aw' no) (2 ^ N 1) (sC B s) (wnt wa)
theorem c_plan (hv : iv N B A V tx cu) {s r aw' wa no : Nat} (hs : s < N 0) (hr : r < 4) (haw : aw' < 32) (hwa : wa < 2 ^ N 1) (hno : no < 2 ^ N 1) (hp : cpre N B tx A V s r A1 V1) : ∃ A2 V2, fX3_seek tx (nI wa) (nI no) (nI aw') A1 V1 (.ref (tref (N 3))) = some ((pA N B tx (A 131) (A 135) s r wa no aw').1, A2, V2, .ref (tref (N 3))) ∧ cpre N B tx A V s r A2 V2 ∧ V2 84 0 = (pA N B tx (A 131) (A 135) s r wa no aw').1 ∧ V2 84 1 = (pA N B tx (A 131) (A 135) s r wa no aw').2 := by
  have h32 := p2_32 _ hv.1.2.1.2.2
  obtain ⟨A2, V2, w1, w2, w3⟩ := c_seek hv hs hr haw (wa := wa) (no := no) (by omega) (by omega) hp
  have e : V2 84 0 = (pA N B tx (A 131) (A 135) s r wa no aw').1 ∧ V2 84 1 = (pA N B tx (A 131) (A 135) s r wa no aw').2 := by
    unfold pA
    rcases w3 with ⟨g1, g2, g3⟩ | ⟨D, L, -, g1, g2, g3⟩
    · rw [pans_n (fun _ => Iff.rfl) g3]; exact ⟨g1, g2⟩
    · rw [pans_b (fun _ => Iff.rfl) g3]; exact ⟨g1, g2⟩
  rw [e.1] at w1
  exact ⟨A2, V2, w1, w2, e⟩
theorem r_planP (hv : iv N B A V tx cu) (ha : agr A V A1 V1) (c1 : Value) {s r aw' wa no : Nat} (hs : s < N 0) (hr : r < 4) (haw : aw' < 32) (hwa : wa < 2 ^ N 1) (hno : no < 2 ^ N 1) : ∃ A2 V2 c2, fX9_plan (nI s) (nI r) (nI wa) (nI no) (nI aw') A1 V1 c1 = some (A2, V2, c2) ∧ agr A V A2 V2 ∧ V2 132 41 = (pA N B tx (A 131) (A 135) s r wa no aw').1 ∧ V2 132 42 = (pA N B tx (A 131) (A 135) s r wa no aw').2 := by
  have h32 := p2_32 _ hv.1.2.1.2.2
  obtain ⟨A2, V2, c2, w1, w2, w3⟩ := r_plan hv ha c1 hs hr haw (wa := wa) (no := no) (by omega) (by omega)
  have hw := w_eq (tx := tx) (r := r) (aw' := aw') hv hs hwa hno
  refine ⟨A2, V2, c2, w1, w2, ?_⟩
  unfold pA
  rcases w3 with ⟨g1, g2, g3⟩ | ⟨D, L, -, g1, g2, g3⟩
  · rw [pans_n hw g3]; exact ⟨g1, g2⟩
  · rw [pans_b hw g3]; exact ⟨g1, g2⟩
def pbad (x : Int32) (n : Nat) : Prop := ¬ (x &&& (((1 : Int32) <<< (nI n &&& 31) - 1) ^^^ (-1))) = 0
theorem ask1 {s r wa no : Nat} (h0 : N 0 ≤ 6) (h5 : N 1 ≤ 5) (e2 : V1 132 2 = nI (N 0)) (e4 : V1 132 4 = nI (N 1)) (hs : s < N 0) (hr : r < 4) (hwa : wa < 2 ^ N 1) (hno : no < 2 ^ N 1) : fX9_isAsked (nI s) (nI r) (nI wa) (nI no) A1 V1 = some 1 := by
  have h32 := p2_32 _ h5
  have hsp := sh_p (N 1) (by omega)
  have e1 : nI (N 0) - 1 = nI (N 0 - 1) := by
    obtain ⟨k, hk⟩ : ∃ k, N 0 = k + 1 := ⟨N 0 - 1, by omega⟩
    rw [hk]
    exact nI_pred k
  unfold fX9_isAsked
  rw [e2, e4, hsp, e1]
  generalize 2 ^ N 1 = M at *
  rw [if_neg (by simp (disch := omega) only [ltI, leI, eqI, tI, tI1, ti_0, ti_1, ti_2, ti_3, ti_4, ti_5, ti_6, ti_7, ti_8, ti_9, ti_10, ti_11, ti_12, ti_14, ti_18, ti_30, ti_39, ti_40, ti_41, ti_45, ti_50, ti_59, ti_97, ti_99, ti_100, ti_122, ti_160, ti_243, ti_255, ti_399, ti_999, ti_1000, ti_1024, ti_99999, tm_1, tm_2, tm_3, tm_4, tm_5, tm_7, tm_11, tm_12, tm_13, tm_14, tm_100, if_pos, if_neg, if_true, if_false, bC_in, bI_s, bS_s, bX_s, bY_s, sO, tC]; omega), if_neg (by simp (disch := omega) only [ltI, leI, eqI, tI, tI1, ti_0, ti_1, ti_2, ti_3, ti_4, ti_5, ti_6, ti_7, ti_8, ti_9, ti_10, ti_11, ti_12, ti_14, ti_18, ti_30, ti_39, ti_40, ti_41, ti_45, ti_50, ti_59, ti_97, ti_99, ti_100, ti_122, ti_160, ti_243, ti_255, ti_399, ti_999, ti_1000, ti_1024, ti_99999, tm_1, tm_2, tm_3, tm_4, tm_5, tm_7, tm_11, tm_12, tm_13, tm_14, tm_100, if_pos, if_neg, if_true, if_false, bC_in, bI_s, bS_s, bX_s, bY_s, sO, tC]; omega), if_neg (by simp (disch := omega) only [ltI, leI, eqI, tI, tI1, ti_0, ti_1, ti_2, ti_3, ti_4, ti_5, ti_6, ti_7, ti_8, ti_9, ti_10, ti_11, ti_12, ti_14, ti_18, ti_30, ti_39, ti_40, ti_41, ti_45, ti_50, ti_59, ti_97, ti_99, ti_100, ti_122, ti_160, ti_243, ti_255, ti_399, ti_999, ti_1000, ti_1024, ti_99999, tm_1, tm_2, tm_3, tm_4, tm_5, tm_7, tm_11, tm_12, tm_13, tm_14, tm_100, if_pos, if_neg, if_true, if_false, bC_in, bI_s, bS_s, bX_s, bY_s, sO, tC]; omega), if_neg (by simp (disch := omega) only [ltI, leI, eqI, tI, tI1, ti_0, ti_1, ti_2, ti_3, ti_4, ti_5, ti_6, ti_7, ti_8, ti_9, ti_10, ti_11, ti_12, ti_14, ti_18, ti_30, ti_39, ti_40, ti_41, ti_45, ti_50, ti_59, ti_97, ti_99, ti_100, ti_122, ti_160, ti_243, ti_255, ti_399, ti_999, ti_1000, ti_1024, ti_99999, tm_1, tm_2, tm_3, tm_4, tm_5, tm_7, tm_11, tm_12, tm_13, tm_14, tm_100, if_pos, if_neg, if_true, if_false, bC_in, bI_s, bS_s, bX_s, bY_s, sO, tC]; omega), if_neg (by simp (disch := omega) only [ltI, leI, eqI, tI, tI1, ti_0, ti_1, ti_2, ti_3, ti_4, ti_5, ti_6, ti_7, ti_8, ti_9, ti_10, ti_11, ti_12, ti_14, ti_18, ti_30, ti_39, ti_40, ti_41, ti_45, ti_50, ti_59, ti_97, ti_99, ti_100, ti_122, ti_160, ti_243, ti_255, ti_399, ti_999, ti_1000, ti_1024, ti_99999, tm_1, tm_2, tm_3, tm_4, tm_5, tm_7, tm_11, tm_12, tm_13, tm_14, tm_100, if_pos, if_neg, if_true, if_false, bC_in, bI_s, bS_s, bX_s, bY_s, sO, tC]; omega), if_neg (by simp (disch := omega) only [ltI, leI, eqI, tI, tI1, ti_0, ti_1, ti_2, ti_3, ti_4, ti_5, ti_6, ti_7, ti_8, ti_9, ti_10, ti_11, ti_12, ti_14, ti_18, ti_30, ti_39, ti_40, ti_41, ti_45, ti_50, ti_59, ti_97, ti_99, ti_100, ti_122, ti_160, ti_243, ti_255, ti_399, ti_999, ti_1000, ti_1024, ti_99999, tm_1, tm_2, tm_3, tm_4, tm_5, tm_7, tm_11, tm_12, tm_13, tm_14, tm_100, if_pos, if_neg, if_true, if_false, bC_in, bI_s, bS_s, bX_s, bY_s, sO, tC]; omega), if_neg (by simp (disch := omega) only [ltI, leI, eqI, tI, tI1, ti_0, ti_1, ti_2, ti_3, ti_4, ti_5, ti_6, ti_7, ti_8, ti_9, ti_10, ti_11, ti_12, ti_14, ti_18, ti_30, ti_39, ti_40, ti_41, ti_45, ti_50, ti_59, ti_97, ti_99, ti_100, ti_122, ti_160, ti_243, ti_255, ti_399, ti_999, ti_1000, ti_1024, ti_99999, tm_1, tm_2, tm_3, tm_4, tm_5, tm_7, tm_11, tm_12, tm_13, tm_14, tm_100, if_pos, if_neg, if_true, if_false, bC_in, bI_s, bS_s, bX_s, bY_s, sO, tC]; omega), if_neg (by simp (disch := omega) only [ltI, leI, eqI, tI, tI1, ti_0, ti_1, ti_2, ti_3, ti_4, ti_5, ti_6, ti_7, ti_8, ti_9, ti_10, ti_11, ti_12, ti_14, ti_18, ti_30, ti_39, ti_40, ti_41, ti_45, ti_50, ti_59, ti_97, ti_99, ti_100, ti_122, ti_160, ti_243, ti_255, ti_399, ti_999, ti_1000, ti_1024, ti_99999, tm_1, tm_2, tm_3, tm_4, tm_5, tm_7, tm_11, tm_12, tm_13, tm_14, tm_100, if_pos, if_neg, if_true, if_false, bC_in, bI_s, bS_s, bX_s, bY_s, sO, tC]; omega)]
theorem ask0 (h0 : N 0 ≤ 6) (h5 : N 1 ≤ 5) (e2 : V1 132 2 = nI (N 0)) (e4 : V1 132 4 = nI (N 1)) {a b c e : Int32} (h : ¬ (∃ s r wa no, s < N 0 ∧ r < 4 ∧ wa < 2 ^ N 1 ∧ no < 2 ^ N 1 ∧ a = nI s ∧ b = nI r ∧ c = nI wa ∧ e = nI no)) : fX9_isAsked a b c e A1 V1 = some 0 := by
  have h32 := p2_32 _ h5
  have hsp := sh_p (N 1) (by omega)
  unfold fX9_isAsked
  rw [e2, e4, hsp]
  by_cases a1 : a < 0
  · rw [if_pos a1]
  rw [if_neg a1]
  by_cases a2 : nI (N 0) - 1 < a
  · rw [if_pos a2]
  rw [if_neg a2]
  by_cases b1 : b < 0
  · rw [if_pos b1]
  rw [if_neg b1]
  by_cases b2 : 3 < b
  · rw [if_pos b2]
  rw [if_neg b2]
  by_cases c1 : c < 0
  · rw [if_pos c1]
  rw [if_neg c1]
  by_cases c2 : nI (2 ^ N 1) ≤ c
  · rw [if_pos c2]
  rw [if_neg c2]
  by_cases d1 : e < 0
  · rw [if_pos d1]
  rw [if_neg d1]
  by_cases d2 : nI (2 ^ N 1) ≤ e
  · rw [if_pos d2]
  exfalso
  have nn : ∀ (x : Int32) (n : Nat), n < 2 ^ 20 → ¬ x < 0 → x.toInt < (n : Int) → ∃ j, j < n ∧ x = nI j := by
    intro x n hn hx hlt
    have hx : ¬ x.toInt < 0 := by rw [ltI] at hx; exact hx
    rcases ix3 x n hn with q | q | q
    · omega
    · omega
    · exact q
  have ka : a.toInt < (N 0 : Int) := by
    by_cases z : N 0 = 0
    · rw [ltI] at a1
      have a1 : ¬ a.toInt < 0 := a1
      rw [z, ltI, show (nI 0 - 1).toInt = -1 from by decide] at a2
      omega
    · obtain ⟨k, hk⟩ : ∃ k, N 0 = k + 1 := ⟨N 0 - 1, by omega⟩
      rw [hk, show nI (k + 1) - 1 = nI k from nI_pred k, ltI, tI (by omega)] at a2
      omega
  have kb : b.toInt < ((4 : Nat) : Int) := by
    rw [ltI, ti_3] at b2
    omega
  have kc : c.toInt < ((2 ^ N 1 : Nat) : Int) := by
    generalize 2 ^ N 1 = M at *
    rw [leI, tI (by omega)] at c2
    omega
  have kd : e.toInt < ((2 ^ N 1 : Nat) : Int) := by
    generalize 2 ^ N 1 = M at *
    rw [leI, tI (by omega)] at d2
    omega
  obtain ⟨s, s1, s2⟩ := nn a _ (by omega) a1 ka
  obtain ⟨r, r1, r2⟩ := nn b _ (by omega) b1 kb
  obtain ⟨wa, w1, w2⟩ := nn c _ (by omega) c1 kc
  obtain ⟨no, n1, n2⟩ := nn e _ (by omega) d1 kd
  exact h ⟨s, r, wa, no, s1, r1, w1, n1, s2, r2, w2, n2⟩
end PO
