/-! PLANS: the four calls. -/
section PQ
variable {N : Nat → Nat} {B : Nat → Nat → Nat} {A V A1 V1 : xM} {tx : List xh_T} {cu : Value}
def good (N : Nat → Nat) (a b c e : Int32) : Prop := ∃ s r wa no, s < N 0 ∧ r < 4 ∧ wa < 2 ^ N 1 ∧ no < 2 ^ N 1 ∧ a = nI s ∧ b = nI r ∧ c = nI wa ∧ e = nI no
theorem cg0 (h0 : N 0 ≤ 6) (h5 : N 1 ≤ 5) {a b c e : Int32} (h : ¬ good N a b c e) (X Y : Option (Int32 × xS)) : (if a < 0 then X else (if nI (N 0) ≤ a then X else (if (6 : Int32) ≤ a then X else (if b < 0 then X else (if (4 : Int32) ≤ b then X else (if (c &&& ((((1 : Int32) <<< (nI (N 1) &&& 31)) - (1 : Int32)) ^^^ (-1 : Int32))) = 0 then (if (e &&& ((((1 : Int32) <<< (nI (N 1) &&& 31)) - (1 : Int32)) ^^^ (-1 : Int32))) = 0 then Y else X) else X)))))) = X := by
  rcases ix3 a (N 0) (by omega) with q | q | ⟨s, hs, rfl⟩
  · rw [if_pos (by rw [ltI]; exact q)]
  · by_cases a1 : a < 0
    · rw [if_pos a1]
    · rw [if_neg a1, if_pos (by rw [leI, tI (by omega)]; exact q)]
  rw [if_neg (by simp (disch := omega) only [ltI, leI, eqI, tI, tI1, ti_0, ti_1, ti_2, ti_3, ti_4, ti_5, ti_6, ti_7, ti_8, ti_9, ti_10, ti_11, ti_12, ti_14, ti_18, ti_30, ti_39, ti_40, ti_41, ti_45, ti_50, ti_59, ti_97, ti_99, ti_100, ti_122, ti_160, ti_243, ti_255, ti_399, ti_999, ti_1000, ti_1024, ti_99999, tm_1, tm_2, tm_3, tm_4, tm_5, tm_7, tm_11, tm_12, tm_13, tm_14, tm_100, if_pos, if_neg, if_true, if_false, bC_in, bI_s, bS_s, bX_s, bY_s, sO, tC]; omega), if_neg (by simp (disch := omega) only [ltI, leI, eqI, tI, tI1, ti_0, ti_1, ti_2, ti_3, ti_4, ti_5, ti_6, ti_7, ti_8, ti_9, ti_10, ti_11, ti_12, ti_14, ti_18, ti_30, ti_39, ti_40, ti_41, ti_45, ti_50, ti_59, ti_97, ti_99, ti_100, ti_122, ti_160, ti_243, ti_255, ti_399, ti_999, ti_1000, ti_1024, ti_99999, tm_1, tm_2, tm_3, tm_4, tm_5, tm_7, tm_11, tm_12, tm_13, tm_14, tm_100, if_pos, if_neg, if_true, if_false, bC_in, bI_s, bS_s, bX_s, bY_s, sO, tC]; omega), if_neg (by simp (disch := omega) only [ltI, leI, eqI, tI, tI1, ti_0, ti_1, ti_2, ti_3, ti_4, ti_5, ti_6, ti_7, ti_8, ti_9, ti_10, ti_11, ti_12, ti_14, ti_18, ti_30, ti_39, ti_40, ti_41, ti_45, ti_50, ti_59, ti_97, ti_99, ti_100, ti_122, ti_160, ti_243, ti_255, ti_399, ti_999, ti_1000, ti_1024, ti_99999, tm_1, tm_2, tm_3, tm_4, tm_5, tm_7, tm_11, tm_12, tm_13, tm_14, tm_100, if_pos, if_neg, if_true, if_false, bC_in, bI_s, bS_s, bX_s, bY_s, sO, tC]; omega)]
  rcases ix3 b 4 (by omega) with q | q | ⟨r, hr, rfl⟩
  · rw [if_pos (by rw [ltI]; exact q)]
  · by_cases a1 : b < 0
    · rw [if_pos a1]
    · rw [if_neg a1, if_pos (by rw [leI, ti_4]; exact q)]
  rw [if_neg (by simp (disch := omega) only [ltI, leI, eqI, tI, tI1, ti_0, ti_1, ti_2, ti_3, ti_4, ti_5, ti_6, ti_7, ti_8, ti_9, ti_10, ti_11, ti_12, ti_14, ti_18, ti_30, ti_39, ti_40, ti_41, ti_45, ti_50, ti_59, ti_97, ti_99, ti_100, ti_122, ti_160, ti_243, ti_255, ti_399, ti_999, ti_1000, ti_1024, ti_99999, tm_1, tm_2, tm_3, tm_4, tm_5, tm_7, tm_11, tm_12, tm_13, tm_14, tm_100, if_pos, if_neg, if_true, if_false, bC_in, bI_s, bS_s, bX_s, bY_s, sO, tC]; omega), if_neg (by simp (disch := omega) only [ltI, leI, eqI, tI, tI1, ti_0, ti_1, ti_2, ti_3, ti_4, ti_5, ti_6, ti_7, ti_8, ti_9, ti_10, ti_11, ti_12, ti_14, ti_18, ti_30, ti_39, ti_40, ti_41, ti_45, ti_50, ti_59, ti_97, ti_99, ti_100, ti_122, ti_160, ti_243, ti_255, ti_399, ti_999, ti_1000, ti_1024, ti_99999, tm_1, tm_2, tm_3, tm_4, tm_5, tm_7, tm_11, tm_12, tm_13, tm_14, tm_100, if_pos, if_neg, if_true, if_false, bC_in, bI_s, bS_s, bX_s, bY_s, sO, tC]; omega)]
  rcases ppl c h5 with ⟨h1, wa, hwa, rfl⟩ | ⟨h1, -⟩
  rotate_left
  · rw [if_neg h1]
  rw [if_pos h1]
  rcases ppl e h5 with ⟨h1, no, hno, rfl⟩ | ⟨h1, -⟩
  rotate_left
  · rw [if_neg h1]
  exact absurd ⟨s, r, wa, no, hs, hr, hwa, hno, rfl, rfl, rfl, rfl⟩ h
theorem pokN {n c : Nat} (h5 : n ≤ 5) (hc : c < 2 ^ n) : (nI c &&& ((((1 : Int32) <<< (nI n &&& 31)) - (1 : Int32)) ^^^ (-1 : Int32))) = 0 := by
  have h32 := p2_32 _ h5
  have := sh_m n (by omega) c (by omega)
  rw [decide_eq_true hc] at this
  exact of_decide_eq_true this
theorem cg1 (h0 : N 0 ≤ 6) (h5 : N 1 ≤ 5) {s r wa no : Nat} (hs : s < N 0) (hr : r < 4) (hwa : wa < 2 ^ N 1) (hno : no < 2 ^ N 1) (X Y : Option (Int32 × xS)) : (if nI s < 0 then X else (if nI (N 0) ≤ nI s then X else (if (6 : Int32) ≤ nI s then X else (if nI r < 0 then X else (if (4 : Int32) ≤ nI r then X else (if (nI wa &&& ((((1 : Int32) <<< (nI (N 1) &&& 31)) - (1 : Int32)) ^^^ (-1 : Int32))) = 0 then (if (nI no &&& ((((1 : Int32) <<< (nI (N 1) &&& 31)) - (1 : Int32)) ^^^ (-1 : Int32))) = 0 then Y else X) else X)))))) = Y := by
  rw [if_neg (by simp (disch := omega) only [ltI, leI, eqI, tI, tI1, ti_0, ti_1, ti_2, ti_3, ti_4, ti_5, ti_6, ti_7, ti_8, ti_9, ti_10, ti_11, ti_12, ti_14, ti_18, ti_30, ti_39, ti_40, ti_41, ti_45, ti_50, ti_59, ti_97, ti_99, ti_100, ti_122, ti_160, ti_243, ti_255, ti_399, ti_999, ti_1000, ti_1024, ti_99999, tm_1, tm_2, tm_3, tm_4, tm_5, tm_7, tm_11, tm_12, tm_13, tm_14, tm_100, if_pos, if_neg, if_true, if_false, bC_in, bI_s, bS_s, bX_s, bY_s, sO, tC]; omega), if_neg (by simp (disch := omega) only [ltI, leI, eqI, tI, tI1, ti_0, ti_1, ti_2, ti_3, ti_4, ti_5, ti_6, ti_7, ti_8, ti_9, ti_10, ti_11, ti_12, ti_14, ti_18, ti_30, ti_39, ti_40, ti_41, ti_45, ti_50, ti_59, ti_97, ti_99, ti_100, ti_122, ti_160, ti_243, ti_255, ti_399, ti_999, ti_1000, ti_1024, ti_99999, tm_1, tm_2, tm_3, tm_4, tm_5, tm_7, tm_11, tm_12, tm_13, tm_14, tm_100, if_pos, if_neg, if_true, if_false, bC_in, bI_s, bS_s, bX_s, bY_s, sO, tC]; omega), if_neg (by simp (disch := omega) only [ltI, leI, eqI, tI, tI1, ti_0, ti_1, ti_2, ti_3, ti_4, ti_5, ti_6, ti_7, ti_8, ti_9, ti_10, ti_11, ti_12, ti_14, ti_18, ti_30, ti_39, ti_40, ti_41, ti_45, ti_50, ti_59, ti_97, ti_99, ti_100, ti_122, ti_160, ti_243, ti_255, ti_399, ti_999, ti_1000, ti_1024, ti_99999, tm_1, tm_2, tm_3, tm_4, tm_5, tm_7, tm_11, tm_12, tm_13, tm_14, tm_100, if_pos, if_neg, if_true, if_false, bC_in, bI_s, bS_s, bX_s, bY_s, sO, tC]; omega), if_neg (by simp (disch := omega) only [ltI, leI, eqI, tI, tI1, ti_0, ti_1, ti_2, ti_3, ti_4, ti_5, ti_6, ti_7, ti_8, ti_9, ti_10, ti_11, ti_12, ti_14, ti_18, ti_30, ti_39, ti_40, ti_41, ti_45, ti_50, ti_59, ti_97, ti_99, ti_100, ti_122, ti_160, ti_243, ti_255, ti_399, ti_999, ti_1000, ti_1024, ti_99999, tm_1, tm_2, tm_3, tm_4, tm_5, tm_7, tm_11, tm_12, tm_13, tm_14, tm_100, if_pos, if_neg, if_true, if_false, bC_in, bI_s, bS_s, bX_s, bY_s, sO, tC]; omega), if_neg (by simp (disch := omega) only [ltI, leI, eqI, tI, tI1, ti_0, ti_1, ti_2, ti_3, ti_4, ti_5, ti_6, ti_7, ti_8, ti_9, ti_10, ti_11, ti_12, ti_14, ti_18, ti_30, ti_39, ti_40, ti_41, ti_45, ti_50, ti_59, ti_97, ti_99, ti_100, ti_122, ti_160, ti_243, ti_255, ti_399, ti_999, ti_1000, ti_1024, ti_99999, tm_1, tm_2, tm_3, tm_4, tm_5, tm_7, tm_11, tm_12, tm_13, tm_14, tm_100, if_pos, if_neg, if_true, if_false, bC_in, bI_s, bS_s, bX_s, bY_s, sO, tC]; omega), if_pos (pokN h5 hwa), if_pos (pokN h5 hno)]
theorem c_run {α : Type} (hv : iv N B A V tx cu) (ha : agr A V A1 V1) (c1 : Value) {s r wa no : Nat} (hs : s < N 0) (hr : r < 4) (hwa : wa < 2 ^ N 1) (hno : no < 2 ^ N 1) (k : Int32 → xM → xM → Value → Option α) : ∃ A2 V2, bC (xq_in (V1 64 16) 6 && Nat.ble (V1 64 16).toNatClampNeg tx.length) (bC (xq_in (nI r) 4) (bS (fX3_prepare (tref (V1 64 16).toNatClampNeg) (nI s) (nI r) (A1 100 (nI r).toNatClampNeg) A1 V1 c1) (fun A13 V14 c15 => bX (fX3_seek tx (nI wa) (nI no) (0 : Int32) A13 V14 c15) k))) = k (pA N B tx (A 131) (A 135) s r wa no 0).1 A2 V2 (.ref (tref (N 3))) ∧ cpre N B tx A V s r A2 V2 ∧ V2 84 0 = (pA N B tx (A 131) (A 135) s r wa no 0).1 ∧ V2 84 1 = (pA N B tx (A 131) (A 135) s r wa no 0).2 := by
  obtain ⟨v1, v2, v3, v4, v5, v6, v7, v8, v9, v10, v11, v12, v13⟩ := id hv
  obtain ⟨⟨s1, s2, s3⟩, ⟨p1, p2, p3⟩, -, ⟨t1, t2, t3⟩, ⟨l1, l2, l3⟩, -⟩ := v1
  have e16 : V1 64 16 = nI (N 3) := (ha.2 64 16 rfl).trans l1
  have e99 : A1 100 r = nI (B 1 r) := by rw [ha.1 100 rfl]; exact (v3 r hr).1
  obtain ⟨A2, V2, w1, w2⟩ := c_prep hv ha c1 s r
  obtain ⟨A3, V3, y1, y2, y3, y4⟩ := c_plan hv hs hr (aw' := 0) (by omega) hwa hno w2
  have y1 : fX3_seek tx (nI wa) (nI no) (0 : Int32) A2 V2 (.ref (tref (N 3))) = some ((pA N B tx (A 131) (A 135) s r wa no 0).1, A3, V3, .ref (tref (N 3))) := y1
  refine ⟨A3, V3, ?_, y2, y3, y4⟩
  rw [e16, bC_t (law_ok l3 t3), bC_in ⟨hr, by decide⟩, tC (show N 3 < 2 ^ 20 by omega), tC (show r < 2 ^ 20 by omega), e99, w1, bS_s, y1, bX_s]
/-- one left out -/
def wq (wa p : Nat) : Nat := mk5 (fun q => bt wa q && !bt (2 ^ p) q)
theorem wq_e {wa p : Nat} (hwa : wa < 32) (hp : p < 5) : nI wa &&& (((1 : Int32) <<< (nI p &&& 31)) ^^^ (-1 : Int32)) = nI (wq wa p) := by
  have h2 : ∀ p, p < 5 → 2 ^ p < 32 := by decide
  have := m_sub (bt wa) (bt (2 ^ p))
  rw [bt_mk wa hwa, bt_mk (2 ^ p) (h2 p hp)] at this
  rw [sh_p p (by omega)]
  exact this
theorem wq_lt {n wa p : Nat} (hn : n ≤ 5) (hwa : wa < 2 ^ n) : wq wa p < 2 ^ n := mk5_p hn (fun q hq z => bt_p hn hwa q hq (by
  rw [Bool.and_eq_true] at z
  exact z.1))
noncomputable def yWh (N : Nat → Nat) (B : Nat → Nat → Nat) (tx : List xh_T) (f0 : Nat → Int32) (nd : Nat → Int32) (s r wa no : Nat) : Nat → Bool := fun p => !decide ((pA N B tx f0 nd s r (wq wa p) no (2 ^ p)).1 = -1)
theorem p2_5 : ∀ p, p < 5 → 2 ^ p < 32 := by decide
theorem c_whyL (hv : iv N B A V tx cu) {s r wa no : Nat} (hs : s < N 0) (hr : r < 4) (hwa : wa < 2 ^ N 1) (hno : no < 2 ^ N 1) (ex : Int32 → xM → xM → Value → Option (Int32 × xS)) : ∀ k i n (A1 V1 : xM), cpre N B tx A V s r A1 V1 → i + k = N 1 → k < n → ∃ A2 V2, fX8_why_L77 tx (nI wa) (nI no) ex n (nI (fb (yWh N B tx (A 131) (A 135) s r wa no) i)) (nI i) A1 V1 (.ref (tref (N 3))) = ex (nI (fb (yWh N B tx (A 131) (A 135) s r wa no) (N 1))) A2 V2 (.ref (tref (N 3))) ∧ cpre N B tx A V s r A2 V2 := by
  obtain ⟨-, ⟨p1, p2, p3⟩, -⟩ := id hv.1
  have h32 := p2_32 _ p3
  intro k
  induction k with
  | zero =>
    intro i n A1 V1 hp hi hn
    obtain ⟨n, rfl⟩ : ∃ m, n = m + 1 := ⟨n - 1, by omega⟩
    have e := (hp.1.2 65 3 rfl).trans p1
    have : i = N 1 := by omega
    refine ⟨A1, V1, ?_, hp⟩
    rw [fX8_why_L77, e, if_pos (by simp (disch := omega) only [ltI, leI, eqI, tI, tI1, ti_0, ti_1, ti_2, ti_3, ti_4, ti_5, ti_6, ti_7, ti_8, ti_9, ti_10, ti_11, ti_12, ti_14, ti_18, ti_30, ti_39, ti_40, ti_41, ti_45, ti_50, ti_59, ti_97, ti_99, ti_100, ti_122, ti_160, ti_243, ti_255, ti_399, ti_999, ti_1000, ti_1024, ti_99999, tm_1, tm_2, tm_3, tm_4, tm_5, tm_7, tm_11, tm_12, tm_13, tm_14, tm_100, if_pos, if_neg, if_true, if_false, bC_in, bI_s, bS_s, bX_s, bY_s, sO, tC]; omega), this]
  | succ k ih =>
    intro i n A1 V1 hp hi hn
    obtain ⟨n, rfl⟩ : ∃ m, n = m + 1 := ⟨n - 1, by omega⟩
    have e := (hp.1.2 65 3 rfl).trans p1
    obtain ⟨A2, V2, w1, w2, -⟩ := c_plan hv hs hr (aw' := 2 ^ i) (p2_5 i (by omega)) (wq_lt (p := i) p3 hwa) hno hp
    obtain ⟨A3, V3, y1, y2⟩ := ih (i + 1) n A2 V2 w2 (by omega) (by omega)
    rw [fX8_why_L77, e, if_neg (by simp (disch := omega) only [ltI, leI, eqI, tI, tI1, ti_0, ti_1, ti_2, ti_3, ti_4, ti_5, ti_6, ti_7, ti_8, ti_9, ti_10, ti_11, ti_12, ti_14, ti_18, ti_30, ti_39, ti_40, ti_41, ti_45, ti_50, ti_59, ti_97, ti_99, ti_100, ti_122, ti_160, ti_243, ti_255, ti_399, ti_999, ti_1000, ti_1024, ti_99999, tm_1, tm_2, tm_3, tm_4, tm_5, tm_7, tm_11, tm_12, tm_13, tm_14, tm_100, if_pos, if_neg, if_true, if_false, bC_in, bI_s, bS_s, bX_s, bY_s, sO, tC]; omega), wq_e (by omega) (by omega), sh_p i (by omega), w1, bX_s, sO]
    by_cases q : (pA N B tx (A 131) (A 135) s r (wq wa i) no (2 ^ i)).1 = -1
    · rw [fb_f (by unfold yWh; rw [decide_eq_true q]; rfl)] at y1
      rw [if_pos q]
      exact ⟨A3, V3, y1, y2⟩
    · have := fb_t (f := yWh N B tx (A 131) (A 135) s r wa no) (i := i) (by omega) (by unfold yWh; rw [decide_eq_false q]; rfl)
      rw [sh_p i (by omega)] at this
      rw [if_neg q, this]
      exact ⟨A3, V3, y1, y2⟩
theorem r_whyL (hv : iv N B A V tx cu) {s r wa no : Nat} (hs : s < N 0) (hr : r < 4) (hwa : wa < 2 ^ N 1) (hno : no < 2 ^ N 1) (ex : Int32 → xM → xM → Value → Option (Int32 × xS)) : ∀ k i n (A1 V1 : xM) (c1 : Value), agr A V A1 V1 → i + k = N 1 → k < n → ∃ A2 V2 c2, fX9_why_L41 (nI s) (nI r) (nI wa) (nI no) ex n (nI (fb (yWh N B tx (A 131) (A 135) s r wa no) i)) (nI i) A1 V1 c1 = ex (nI (fb (yWh N B tx (A 131) (A 135) s r wa no) (N 1))) A2 V2 c2 ∧ agr A V A2 V2 := by
  obtain ⟨-, ⟨p1, p2, p3⟩, -⟩ := id hv.1
  have h32 := p2_32 _ p3
  intro k
  induction k with
  | zero =>
    intro i n A1 V1 c1 hp hi hn
    obtain ⟨n, rfl⟩ : ∃ m, n = m + 1 := ⟨n - 1, by omega⟩
    have e := (hp.2 132 4 rfl).trans p2
    have : i = N 1 := by omega
    refine ⟨A1, V1, c1, ?_, hp⟩
    rw [fX9_why_L41, e, if_pos (by simp (disch := omega) only [ltI, leI, eqI, tI, tI1, ti_0, ti_1, ti_2, ti_3, ti_4, ti_5, ti_6, ti_7, ti_8, ti_9, ti_10, ti_11, ti_12, ti_14, ti_18, ti_30, ti_39, ti_40, ti_41, ti_45, ti_50, ti_59, ti_97, ti_99, ti_100, ti_122, ti_160, ti_243, ti_255, ti_399, ti_999, ti_1000, ti_1024, ti_99999, tm_1, tm_2, tm_3, tm_4, tm_5, tm_7, tm_11, tm_12, tm_13, tm_14, tm_100, if_pos, if_neg, if_true, if_false, bC_in, bI_s, bS_s, bX_s, bY_s, sO, tC]; omega), this]
  | succ k ih =>
    intro i n A1 V1 c1 hp hi hn
    obtain ⟨n, rfl⟩ : ∃ m, n = m + 1 := ⟨n - 1, by omega⟩
    have e := (hp.2 132 4 rfl).trans p2
    obtain ⟨A2, V2, c2, w1, w2, w3, -⟩ := r_planP hv hp c1 hs hr (aw' := 2 ^ i) (p2_5 i (by omega)) (wq_lt (p := i) p3 hwa) hno
    obtain ⟨A3, V3, c3, y1, y2⟩ := ih (i + 1) n A2 V2 c2 w2 (by omega) (by omega)
    rw [fX9_why_L41, e, if_neg (by simp (disch := omega) only [ltI, leI, eqI, tI, tI1, ti_0, ti_1, ti_2, ti_3, ti_4, ti_5, ti_6, ti_7, ti_8, ti_9, ti_10, ti_11, ti_12, ti_14, ti_18, ti_30, ti_39, ti_40, ti_41, ti_45, ti_50, ti_59, ti_97, ti_99, ti_100, ti_122, ti_160, ti_243, ti_255, ti_399, ti_999, ti_1000, ti_1024, ti_99999, tm_1, tm_2, tm_3, tm_4, tm_5, tm_7, tm_11, tm_12, tm_13, tm_14, tm_100, if_pos, if_neg, if_true, if_false, bC_in, bI_s, bS_s, bX_s, bY_s, sO, tC]; omega), wq_e (by omega) (by omega), sh_p i (by omega), w1, bS_s, w3, sO, or0]
    by_cases q : (pA N B tx (A 131) (A 135) s r (wq wa i) no (2 ^ i)).1 = -1
    · rw [fb_f (by unfold yWh; rw [decide_eq_true q]; rfl)] at y1
      rw [if_pos q]
      exact ⟨A3, V3, c3, y1, y2⟩
    · have := fb_t (f := yWh N B tx (A 131) (A 135) s r wa no) (i := i) (by omega) (by unfold yWh; rw [decide_eq_false q]; rfl)
      rw [sh_p i (by omega)] at this
      rw [if_neg q, this]
      exact ⟨A3, V3, c3, y1, y2⟩
/-- the rooms gone through -/
noncomputable def pst (x : Nat → Int32) : Nat → Int32 × Int32
  | 0 => (-1, -1)
  | i + 1 => if x i = -1 then pst x i else if (pst x i).2 = -1 then (nI i, x i) else if (pst x i).2 ≤ x i then pst x i else (nI i, x i)
theorem pst_i (x : Nat → Int32) : ∀ i, i ≤ 4 → ((pst x i).1 = -1 ↔ (pst x i).2 = -1)
  | 0, _ => Iff.rfl
  | i + 1, h => by
    have ih := pst_i x i (by omega)
    have hn : ¬ nI i = -1 := by simp (disch := omega) only [ltI, leI, eqI, tI, tI1, ti_0, ti_1, ti_2, ti_3, ti_4, ti_5, ti_6, ti_7, ti_8, ti_9, ti_10, ti_11, ti_12, ti_14, ti_18, ti_30, ti_39, ti_40, ti_41, ti_45, ti_50, ti_59, ti_97, ti_99, ti_100, ti_122, ti_160, ti_243, ti_255, ti_399, ti_999, ti_1000, ti_1024, ti_99999, tm_1, tm_2, tm_3, tm_4, tm_5, tm_7, tm_11, tm_12, tm_13, tm_14, tm_100, if_pos, if_neg, if_true, if_false, bC_in, bI_s, bS_s, bX_s, bY_s, sO, tC]; omega
    rw [pst]
    by_cases q : x i = -1
    · rw [if_pos q]; exact ih
    · rw [if_neg q]
      by_cases q2 : (pst x i).2 = -1
      · rw [if_pos q2]; exact ⟨fun z => absurd z hn, fun z => absurd z q⟩
      · rw [if_neg q2]
        by_cases q3 : (pst x i).2 ≤ x i
        · rw [if_pos q3]; exact ih
        · rw [if_neg q3]; exact ⟨fun z => absurd z hn, fun z => absurd z q⟩
theorem c_placeL (hv : iv N B A V tx cu) {s wa no : Nat} (hs : s < N 0) (hwa : wa < 2 ^ N 1) (hno : no < 2 ^ N 1) (ex : Int32 → xM → xM → Value → Option (Int32 × xS)) : ∀ k i n (A1 V1 : xM) (c1 : Value), agr A V A1 V1 → i + k = 4 → k < n → ∃ A2 V2 c2, fX8_place_L36 tx (nI s) (nI wa) (nI no) ex n (pst (fun r => (pA N B tx (A 131) (A 135) s r wa no 0).1) i).1 (pst (fun r => (pA N B tx (A 131) (A 135) s r wa no 0).1) i).2 (nI i) A1 V1 c1 = ex (pst (fun r => (pA N B tx (A 131) (A 135) s r wa no 0).1) 4).1 A2 V2 c2 ∧ agr A V A2 V2 := by
  intro k
  induction k with
  | zero =>
    intro i n A1 V1 c1 hp hi hn
    obtain ⟨n, rfl⟩ : ∃ m, n = m + 1 := ⟨n - 1, by omega⟩
    have : i = 4 := by omega
    refine ⟨A1, V1, c1, ?_, hp⟩
    rw [fX8_place_L36, if_pos (by simp (disch := omega) only [ltI, leI, eqI, tI, tI1, ti_0, ti_1, ti_2, ti_3, ti_4, ti_5, ti_6, ti_7, ti_8, ti_9, ti_10, ti_11, ti_12, ti_14, ti_18, ti_30, ti_39, ti_40, ti_41, ti_45, ti_50, ti_59, ti_97, ti_99, ti_100, ti_122, ti_160, ti_243, ti_255, ti_399, ti_999, ti_1000, ti_1024, ti_99999, tm_1, tm_2, tm_3, tm_4, tm_5, tm_7, tm_11, tm_12, tm_13, tm_14, tm_100, if_pos, if_neg, if_true, if_false, bC_in, bI_s, bS_s, bX_s, bY_s, sO, tC]; omega), this]
  | succ k ih =>
    intro i n A1 V1 c1 hp hi hn
    obtain ⟨n, rfl⟩ : ∃ m, n = m + 1 := ⟨n - 1, by omega⟩
    obtain ⟨A2, V2, w1, w2, -⟩ := c_run hv hp c1 (r := i) hs (by omega) hwa hno (fun x10 A11 V12 c13 => if x10 = (-1 : Int32) then (fX8_place_L36 tx (nI s) (nI wa) (nI no) ex n (pst (fun r => (pA N B tx (A 131) (A 135) s r wa no 0).1) i).1 (pst (fun r => (pA N B tx (A 131) (A 135) s r wa no 0).1) i).2 (nI i + Int32.ofInt 1) A11 V12 c13) else (if (pst (fun r => (pA N B tx (A 131) (A 135) s r wa no 0).1) i).1 = (-1 : Int32) then (fX8_place_L36 tx (nI s) (nI wa) (nI no) ex n (nI i) x10 (nI i + Int32.ofInt 1) A11 V12 c13) else (if (pst (fun r => (pA N B tx (A 131) (A 135) s r wa no 0).1) i).2 ≤ x10 then (fX8_place_L36 tx (nI s) (nI wa) (nI no) ex n (pst (fun r => (pA N B tx (A 131) (A 135) s r wa no 0).1) i).1 (pst (fun r => (pA N B tx (A 131) (A 135) s r wa no 0).1) i).2 (nI i + Int32.ofInt 1) A11 V12 c13) else (fX8_place_L36 tx (nI s) (nI wa) (nI no) ex n (nI i) x10 (nI i + Int32.ofInt 1) A11 V12 c13))))
    obtain ⟨A3, V3, c3, y1, y2⟩ := ih (i + 1) n A2 V2 (.ref (tref (N 3))) w2.1 (by omega) (by omega)
    have hiff := pst_i (fun r => (pA N B tx (A 131) (A 135) s r wa no 0).1) i (by omega)
    refine ⟨A3, V3, c3, ?_, y2⟩
    rw [fX8_place_L36, if_neg (by simp (disch := omega) only [ltI, leI, eqI, tI, tI1, ti_0, ti_1, ti_2, ti_3, ti_4, ti_5, ti_6, ti_7, ti_8, ti_9, ti_10, ti_11, ti_12, ti_14, ti_18, ti_30, ti_39, ti_40, ti_41, ti_45, ti_50, ti_59, ti_97, ti_99, ti_100, ti_122, ti_160, ti_243, ti_255, ti_399, ti_999, ti_1000, ti_1024, ti_99999, tm_1, tm_2, tm_3, tm_4, tm_5, tm_7, tm_11, tm_12, tm_13, tm_14, tm_100, if_pos, if_neg, if_true, if_false, bC_in, bI_s, bS_s, bX_s, bY_s, sO, tC]; omega)]
    refine Eq.trans w1 (Eq.trans ?_ y1)
    rw [sO, pst]
    by_cases q : (pA N B tx (A 131) (A 135) s i wa no 0).1 = -1
    · rw [if_pos q, if_pos q]
    · rw [if_neg q, if_neg q]
      by_cases q2 : (pst (fun r => (pA N B tx (A 131) (A 135) s r wa no 0).1) i).2 = -1
      · rw [if_pos q2, if_pos (hiff.mpr q2)]
      · rw [if_neg q2, if_neg (fun z => q2 (hiff.mp z))]
        by_cases q3 : (pst (fun r => (pA N B tx (A 131) (A 135) s r wa no 0).1) i).2 ≤ (pA N B tx (A 131) (A 135) s i wa no 0).1
        · rw [if_pos q3, if_pos q3]
        · rw [if_neg q3, if_neg q3]
theorem r_placeL (hv : iv N B A V tx cu) {s wa no : Nat} (hs : s < N 0) (hwa : wa < 2 ^ N 1) (hno : no < 2 ^ N 1) (ex : Int32 → xM → xM → Value → Option (Int32 × xS)) : ∀ k i n (A1 V1 : xM) (c1 : Value), agr A V A1 V1 → i + k = 4 → k < n → ∃ A2 V2 c2, fX9_place_L23 (nI s) (nI wa) (nI no) ex n (pst (fun r => (pA N B tx (A 131) (A 135) s r wa no 0).1) i).2 (pst (fun r => (pA N B tx (A 131) (A 135) s r wa no 0).1) i).1 (nI i) A1 V1 c1 = ex (pst (fun r => (pA N B tx (A 131) (A 135) s r wa no 0).1) 4).1 A2 V2 c2 ∧ agr A V A2 V2 := by
  intro k
  induction k with
  | zero =>
    intro i n A1 V1 c1 hp hi hn
    obtain ⟨n, rfl⟩ : ∃ m, n = m + 1 := ⟨n - 1, by omega⟩
    have : i = 4 := by omega
    refine ⟨A1, V1, c1, ?_, hp⟩
    rw [fX9_place_L23, if_pos (by simp (disch := omega) only [ltI, leI, eqI, tI, tI1, ti_0, ti_1, ti_2, ti_3, ti_4, ti_5, ti_6, ti_7, ti_8, ti_9, ti_10, ti_11, ti_12, ti_14, ti_18, ti_30, ti_39, ti_40, ti_41, ti_45, ti_50, ti_59, ti_97, ti_99, ti_100, ti_122, ti_160, ti_243, ti_255, ti_399, ti_999, ti_1000, ti_1024, ti_99999, tm_1, tm_2, tm_3, tm_4, tm_5, tm_7, tm_11, tm_12, tm_13, tm_14, tm_100, if_pos, if_neg, if_true, if_false, bC_in, bI_s, bS_s, bX_s, bY_s, sO, tC]; omega), this]
  | succ k ih =>
    intro i n A1 V1 c1 hp hi hn
    obtain ⟨n, rfl⟩ : ∃ m, n = m + 1 := ⟨n - 1, by omega⟩
    obtain ⟨A2, V2, c2, w1, w2, w3, -⟩ := r_planP hv hp c1 hs (r := i) (by omega) (aw' := 0) (by omega) hwa hno
    have w1 : fX9_plan (nI s) (nI i) (nI wa) (nI no) (0 : Int32) A1 V1 c1 = some (A2, V2, c2) := w1
    obtain ⟨A3, V3, c3, y1, y2⟩ := ih (i + 1) n A2 V2 c2 w2 (by omega) (by omega)
    refine ⟨A3, V3, c3, Eq.trans ?_ y1, y2⟩
    rw [fX9_place_L23, if_neg (by simp (disch := omega) only [ltI, leI, eqI, tI, tI1, ti_0, ti_1, ti_2, ti_3, ti_4, ti_5, ti_6, ti_7, ti_8, ti_9, ti_10, ti_11, ti_12, ti_14, ti_18, ti_30, ti_39, ti_40, ti_41, ti_45, ti_50, ti_59, ti_97, ti_99, ti_100, ti_122, ti_160, ti_243, ti_255, ti_399, ti_999, ti_1000, ti_1024, ti_99999, tm_1, tm_2, tm_3, tm_4, tm_5, tm_7, tm_11, tm_12, tm_13, tm_14, tm_100, if_pos, if_neg, if_true, if_false, bC_in, bI_s, bS_s, bX_s, bY_s, sO, tC]; omega), w1, bS_s, w3, sO, pst]
    by_cases q : (pA N B tx (A 131) (A 135) s i wa no 0).1 = -1
    · rw [if_pos q, if_pos q]
    · rw [if_neg q, if_neg q]
      by_cases q2 : (pst (fun r => (pA N B tx (A 131) (A 135) s r wa no 0).1) i).2 = -1
      · rw [if_pos q2, if_pos q2]
      · rw [if_neg q2, if_neg q2]
        by_cases q3 : (pst (fun r => (pA N B tx (A 131) (A 135) s r wa no 0).1) i).2 ≤ (pA N B tx (A 131) (A 135) s i wa no 0).1
        · rw [if_pos q3, if_pos q3]
        · rw [if_neg q3, if_neg q3]
/-- the songs gone through -/
def wr (x : Nat → Int32) : Nat → Nat → Int32 → Int32
  | 0, _, a => a
  | k + 1, i, a => if x i = -1 then -1 else wr x k (i + 1) (a + x i)
theorem c_wholeL (hv : iv N B A V tx cu) {r wa : Nat} (hr : r < 4) (hwa : wa < 2 ^ N 1) : ∀ k i n (a : Int32) (A1 V1 : xM) (c1 : Value), agr A V A1 V1 → i + k = N 0 → k < n → ∃ A2 V2 c2, fX8_whole_L23 tx (nI r) (nI wa) (fun (l3_20 : Int32) (A26 V27 : xM) (c28 : Value) => some (l3_20, A26, V27, c28)) n a (nI i) A1 V1 c1 = some (wr (fun s => (pA N B tx (A 131) (A 135) s r wa 0 0).1) k i a, A2, V2, c2) ∧ agr A V A2 V2 := by
  obtain ⟨⟨s1, s2, s3⟩, -⟩ := id hv.1
  have hpos := Nat.two_pow_pos (N 1)
  intro k
  induction k with
  | zero =>
    intro i n a A1 V1 c1 hp hi hn
    obtain ⟨n, rfl⟩ : ∃ m, n = m + 1 := ⟨n - 1, by omega⟩
    have e := (hp.2 64 13 rfl).trans s1
    refine ⟨A1, V1, c1, ?_, hp⟩
    rw [fX8_whole_L23, e, if_pos (by simp (disch := omega) only [ltI, leI, eqI, tI, tI1, ti_0, ti_1, ti_2, ti_3, ti_4, ti_5, ti_6, ti_7, ti_8, ti_9, ti_10, ti_11, ti_12, ti_14, ti_18, ti_30, ti_39, ti_40, ti_41, ti_45, ti_50, ti_59, ti_97, ti_99, ti_100, ti_122, ti_160, ti_243, ti_255, ti_399, ti_999, ti_1000, ti_1024, ti_99999, tm_1, tm_2, tm_3, tm_4, tm_5, tm_7, tm_11, tm_12, tm_13, tm_14, tm_100, if_pos, if_neg, if_true, if_false, bC_in, bI_s, bS_s, bX_s, bY_s, sO, tC]; omega), wr]
  | succ k ih =>
    intro i n a A1 V1 c1 hp hi hn
    obtain ⟨n, rfl⟩ : ∃ m, n = m + 1 := ⟨n - 1, by omega⟩
    have e := (hp.2 64 13 rfl).trans s1
    obtain ⟨A2, V2, w1, w2, -⟩ := c_run hv hp c1 (s := i) (r := r) (wa := wa) (no := 0) (by omega) hr hwa hpos (fun x11 A12 V13 c14 => if x11 = (-1 : Int32) then (some ((-1 : Int32), A12, V13, c14)) else (fX8_whole_L23 tx (nI r) (nI wa) (fun (l3_20 : Int32) (A26 V27 : xM) (c28 : Value) => some (l3_20, A26, V27, c28)) n (a + x11) (nI i + Int32.ofInt 1) A12 V13 c14))
    by_cases q : (pA N B tx (A 131) (A 135) i r wa 0 0).1 = -1
    · refine ⟨A2, V2, .ref (tref (N 3)), ?_, w2.1⟩
      rw [fX8_whole_L23, e, if_neg (by simp (disch := omega) only [ltI, leI, eqI, tI, tI1, ti_0, ti_1, ti_2, ti_3, ti_4, ti_5, ti_6, ti_7, ti_8, ti_9, ti_10, ti_11, ti_12, ti_14, ti_18, ti_30, ti_39, ti_40, ti_41, ti_45, ti_50, ti_59, ti_97, ti_99, ti_100, ti_122, ti_160, ti_243, ti_255, ti_399, ti_999, ti_1000, ti_1024, ti_99999, tm_1, tm_2, tm_3, tm_4, tm_5, tm_7, tm_11, tm_12, tm_13, tm_14, tm_100, if_pos, if_neg, if_true, if_false, bC_in, bI_s, bS_s, bX_s, bY_s, sO, tC]; omega), if_neg (by simp (disch := omega) only [ltI, leI, eqI, tI, tI1, ti_0, ti_1, ti_2, ti_3, ti_4, ti_5, ti_6, ti_7, ti_8, ti_9, ti_10, ti_11, ti_12, ti_14, ti_18, ti_30, ti_39, ti_40, ti_41, ti_45, ti_50, ti_59, ti_97, ti_99, ti_100, ti_122, ti_160, ti_243, ti_255, ti_399, ti_999, ti_1000, ti_1024, ti_99999, tm_1, tm_2, tm_3, tm_4, tm_5, tm_7, tm_11, tm_12, tm_13, tm_14, tm_100, if_pos, if_neg, if_true, if_false, bC_in, bI_s, bS_s, bX_s, bY_s, sO, tC]; omega)]
      refine Eq.trans w1 ?_
      rw [if_pos q, wr, if_pos q]
    · obtain ⟨A3, V3, c3, y1, y2⟩ := ih (i + 1) n (a + (pA N B tx (A 131) (A 135) i r wa 0 0).1) A2 V2 (.ref (tref (N 3))) w2.1 (by omega) (by omega)
      refine ⟨A3, V3, c3, ?_, y2⟩
      rw [fX8_whole_L23, e, if_neg (by simp (disch := omega) only [ltI, leI, eqI, tI, tI1, ti_0, ti_1, ti_2, ti_3, ti_4, ti_5, ti_6, ti_7, ti_8, ti_9, ti_10, ti_11, ti_12, ti_14, ti_18, ti_30, ti_39, ti_40, ti_41, ti_45, ti_50, ti_59, ti_97, ti_99, ti_100, ti_122, ti_160, ti_243, ti_255, ti_399, ti_999, ti_1000, ti_1024, ti_99999, tm_1, tm_2, tm_3, tm_4, tm_5, tm_7, tm_11, tm_12, tm_13, tm_14, tm_100, if_pos, if_neg, if_true, if_false, bC_in, bI_s, bS_s, bX_s, bY_s, sO, tC]; omega), if_neg (by simp (disch := omega) only [ltI, leI, eqI, tI, tI1, ti_0, ti_1, ti_2, ti_3, ti_4, ti_5, ti_6, ti_7, ti_8, ti_9, ti_10, ti_11, ti_12, ti_14, ti_18, ti_30, ti_39, ti_40, ti_41, ti_45, ti_50, ti_59, ti_97, ti_99, ti_100, ti_122, ti_160, ti_243, ti_255, ti_399, ti_999, ti_1000, ti_1024, ti_99999, tm_1, tm_2, tm_3, tm_4, tm_5, tm_7, tm_11, tm_12, tm_13, tm_14, tm_100, if_pos, if_neg, if_true, if_false, bC_in, bI_s, bS_s, bX_s, bY_s, sO, tC]; omega)]
      refine Eq.trans w1 ?_
      rw [if_neg q, wr, if_neg q, sO]
      exact y1
theorem r_wholeL (hv : iv N B A V tx cu) {r wa : Nat} (hr : r < 4) (hwa : wa < 2 ^ N 1) : ∀ k i n (a : Int32) (A1 V1 : xM) (c1 : Value), agr A V A1 V1 → i + k = N 0 → k < n → ∃ A2 V2 c2, fX9_whole_L25 (nI r) (nI wa) (fun (l3_12 : Int32) (A17 V18 : xM) (c19 : Value) => some (l3_12, A17, V18, c19)) n a (nI i) A1 V1 c1 = some (wr (fun s => (pA N B tx (A 131) (A 135) s r wa 0 0).1) k i a, A2, V2, c2) ∧ agr A V A2 V2 := by
  obtain ⟨⟨s1, s2, s3⟩, -⟩ := id hv.1
  have hpos := Nat.two_pow_pos (N 1)
  intro k
  induction k with
  | zero =>
    intro i n a A1 V1 c1 hp hi hn
    obtain ⟨n, rfl⟩ : ∃ m, n = m + 1 := ⟨n - 1, by omega⟩
    have e := (hp.2 132 2 rfl).trans s2
    refine ⟨A1, V1, c1, ?_, hp⟩
    rw [fX9_whole_L25, e, if_pos (by simp (disch := omega) only [ltI, leI, eqI, tI, tI1, ti_0, ti_1, ti_2, ti_3, ti_4, ti_5, ti_6, ti_7, ti_8, ti_9, ti_10, ti_11, ti_12, ti_14, ti_18, ti_30, ti_39, ti_40, ti_41, ti_45, ti_50, ti_59, ti_97, ti_99, ti_100, ti_122, ti_160, ti_243, ti_255, ti_399, ti_999, ti_1000, ti_1024, ti_99999, tm_1, tm_2, tm_3, tm_4, tm_5, tm_7, tm_11, tm_12, tm_13, tm_14, tm_100, if_pos, if_neg, if_true, if_false, bC_in, bI_s, bS_s, bX_s, bY_s, sO, tC]; omega), wr]
  | succ k ih =>
    intro i n a A1 V1 c1 hp hi hn
    obtain ⟨n, rfl⟩ : ∃ m, n = m + 1 := ⟨n - 1, by omega⟩
    have e := (hp.2 132 2 rfl).trans s2
    obtain ⟨A2, V2, c2, w1, w2, w3, -⟩ := r_planP hv hp c1 (s := i) (r := r) (wa := wa) (no := 0) (by omega) hr (aw' := 0) (by omega) hwa hpos
    have w1 : fX9_plan (nI i) (nI r) (nI wa) (0 : Int32) (0 : Int32) A1 V1 c1 = some (A2, V2, c2) := w1
    rw [fX9_whole_L25, e, if_neg (by simp (disch := omega) only [ltI, leI, eqI, tI, tI1, ti_0, ti_1, ti_2, ti_3, ti_4, ti_5, ti_6, ti_7, ti_8, ti_9, ti_10, ti_11, ti_12, ti_14, ti_18, ti_30, ti_39, ti_40, ti_41, ti_45, ti_50, ti_59, ti_97, ti_99, ti_100, ti_122, ti_160, ti_243, ti_255, ti_399, ti_999, ti_1000, ti_1024, ti_99999, tm_1, tm_2, tm_3, tm_4, tm_5, tm_7, tm_11, tm_12, tm_13, tm_14, tm_100, if_pos, if_neg, if_true, if_false, bC_in, bI_s, bS_s, bX_s, bY_s, sO, tC]; omega), w1, bS_s, w3, sO]
    by_cases q : (pA N B tx (A 131) (A 135) i r wa 0 0).1 = -1
    · refine ⟨A2, V2, c2, ?_, w2⟩
      rw [if_pos q, wr, if_pos q]
    · obtain ⟨A3, V3, c3, y1, y2⟩ := ih (i + 1) n (a + (pA N B tx (A 131) (A 135) i r wa 0 0).1) A2 V2 c2 w2 (by omega) (by omega)
      refine ⟨A3, V3, c3, ?_, y2⟩
      rw [if_neg q, wr, if_neg q]
      exact y1
end PQ
