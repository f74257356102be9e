/-! WHAT COMES OF A SONG THAT IS BEGUN: one picture for both sides. -/
def lrn (B : Nat → Nat → Nat) (K : Nat → Nat) (cl th has : Nat → Bool) (sp : Bool) : Nat → Nat := fun p =>
  if (Nat.blt (K p) 2 && has p && (cl p || th p)) = true then (if kt (B 2 p) (if cl p = true then 0 else 1) (K p) = 2 ∧ sp = true then 3 else kt (B 2 p) (if cl p = true then 0 else 1) (K p)) else K p
def anyp (f : Nat → Bool) : Bool := !(mk5 f == 0)
theorem anyp_f {f : Nat → Bool} (h : anyp f = false) : ∀ p, p < 5 → f p = false := by
  have h : mk5 f = 0 := by simpa [anyp] using h
  have := m_0 f
  rw [h] at this
  exact (this.mp rfl : ∀ p, p < 5 → f p = false)
theorem anyp_i (f : Nat → Bool) : (nI (mk5 f) = 0) = (anyp f = false) := by
  have h := mk5_lt f
  apply propext
  unfold anyp
  rw [show (0 : Int32) = nI 0 from rfl, nI_eq (by omega) (by omega)]
  simp
def lea (B : Nat → Nat → Nat) (tx : List xh_T) (f0 : Nat → Int32) (t s r e part : Nat) (K : Nat → Nat) (C : Nat → Bool) : Bool := sy tx f0 t part (nms (ct (kn K C)) (ct (sgs B K C)) (ct C) s r e)
def spr (N : Nat → Nat) (B : Nat → Nat → Nat) (tx : List xh_T) (f0 : Nat → Int32) (t s r e : Nat) (K : Nat → Nat) (C D has : Nat → Bool) : Nat → Nat := if anyp (sgs B K C) = true then lrn B K (fun p => lea B tx f0 t s r e 1 K C && C p) (fun p => lea B tx f0 t s r e 2 K C && D p) has (spt N B K C) else K
def nxt (N : Nat → Nat) (B : Nat → Nat → Nat) (tx : List xh_T) (f0 : Nat → Int32) (t s r e : Nat) (K : Nat → Nat) (C D has : Nat → Bool) : Nat → Nat := if myp B tx f0 t s r e K C = true then spr N B tx f0 t s r e K C D has else K
theorem kt_le : ∀ k, k < 6 → ∀ w, w < 2 → ∀ x, x < 2 → kt k w x ≤ 2 := by decide
theorem fin_2 : ∀ x, x < 3 → ∀ sp : Bool, Nat.ble 2 (if x = 2 ∧ sp = true then 3 else x) = (x == 2) := by decide
theorem fin_1 : ∀ x, x < 3 → ∀ sp : Bool, ((if x = 2 ∧ sp = true then 3 else x) == 1) = (x == 1) := by decide
theorem fin_3 : ∀ x, x < 3 → ∀ sp : Bool, ((if x = 2 ∧ sp = true then 3 else x) == 3) = (sp && (x == 2)) := by decide
theorem fin_x : ∀ x, x < 3 → ∀ sp : Bool, (if x = 2 ∧ sp = true then 3 else x) ≤ 3 := by decide
theorem lrn_le {B : Nat → Nat → Nat} {K : Nat → Nat} {cl th has : Nat → Bool} {sp : Bool} {p : Nat} (hk : B 2 p ≤ 5) (h : K p ≤ 3) : lrn B K cl th has sp p ≤ 3 := by
  unfold lrn
  by_cases q : (Nat.blt (K p) 2 && has p && (cl p || th p)) = true
  · rw [if_pos q]
    have h2 : K p < 2 := by simp only [Bool.and_eq_true] at q; exact Nat.blt_eq.mp q.1.1
    exact fin_x _ (Nat.lt_succ_of_le (kt_le _ (by omega) _ (by split <;> decide) _ h2)) _
  · rw [if_neg q]; exact h
def ho (N : Nat → Nat) (B : Nat → Nat → Nat) (w j : Nat) (c h : Nat → Bool) : Nat → Bool := fun p => ((c p && !h p) && (Nat.blt p (N 1) && (kt (B 2 p) w 0 == j))) || ((c p && h p) && (Nat.blt p (N 1) && (kt (B 2 p) w 1 == j)))
/-- the three rows behind it, person by person -/
theorem lrn_pw {N : Nat → Nat} {B : Nat → Nat → Nat} {K : Nat → Nat} {cl th has : Nat → Bool} {sp : Bool} {p : Nat} (hp : p < 5) (hk : ∀ p, p < N 1 → B 2 p ≤ 5) (hK : K p ≤ 3) (h1 : inP (N 1) cl) (h2 : inP (N 1) th) (h3 : (cl p && th p) = false) :
    ((Nat.ble 2 (K p) || (ho N B 0 2 (fun p => cl p && (has p && !Nat.ble 2 (K p))) (fun p => K p == 1) p || ho N B 1 2 (fun p => th p && (has p && !Nat.ble 2 (K p))) (fun p => K p == 1) p)) = Nat.ble 2 (lrn B K cl th has sp p)) ∧
    ((((K p == 1) && !((cl p && (has p && !Nat.ble 2 (K p))) || (th p && (has p && !Nat.ble 2 (K p))))) || (ho N B 0 1 (fun p => cl p && (has p && !Nat.ble 2 (K p))) (fun p => K p == 1) p || ho N B 1 1 (fun p => th p && (has p && !Nat.ble 2 (K p))) (fun p => K p == 1) p)) = (lrn B K cl th has sp p == 1)) ∧
    (((K p == 3) || (sp && (ho N B 0 2 (fun p => cl p && (has p && !Nat.ble 2 (K p))) (fun p => K p == 1) p || ho N B 1 2 (fun p => th p && (has p && !Nat.ble 2 (K p))) (fun p => K p == 1) p))) = (lrn B K cl th has sp p == 3)) := by
  unfold lrn ho
  by_cases q2 : 2 ≤ K p
  · have e1 : Nat.ble 2 (K p) = true := Nat.ble_eq.mpr q2
    have e2 : Nat.blt (K p) 2 = false := blt_f q2
    have e3 : (K p == 1) = false := beq_eq_false_iff_ne.mpr (by omega)
    simp [e1, e2, e3]
  · have e1 : Nat.ble 2 (K p) = false := by
      cases z : Nat.ble 2 (K p) with
      | false => rfl
      | true => exact absurd (Nat.ble_eq.mp z) q2
    have e2 : Nat.blt (K p) 2 = true := Nat.blt_eq.mpr (by omega)
    have e3 : (K p == 3) = false := beq_eq_false_iff_ne.mpr (by omega)
    rw [e1, e2, e3]
    cases hh : has p with
    | false => simp [e1, hh, e3]
    | true =>
      cases hc : cl p with
      | true =>
        have ht : th p = false := by rw [hc, Bool.true_and] at h3; exact h3
        have hpn := h1 p hp hc
        have hb : Nat.blt p (N 1) = true := Nat.blt_eq.mpr hpn
        have hkp := hk p hpn
        rcases (show K p = 0 ∨ K p = 1 by omega) with q | q
        · have hx : kt (B 2 p) 0 0 < 3 := Nat.lt_succ_of_le (kt_le _ (by omega) _ (by decide) _ (by decide))
          simp only [hc, hh, ht, hb, q]
          simp only [Bool.true_and, Bool.true_or, if_true, Bool.not_false, Bool.false_or, Bool.false_and, Bool.or_false, Bool.and_true, Bool.and_self, fin_1 _ hx, fin_2 _ hx, fin_3 _ hx]
          simp [nb0, nb1]
        · have hx : kt (B 2 p) 0 1 < 3 := Nat.lt_succ_of_le (kt_le _ (by omega) _ (by decide) _ (by decide))
          simp only [hc, hh, ht, hb, q]
          simp only [Bool.true_and, Bool.true_or, if_true, Bool.not_false, Bool.false_or, Bool.false_and, Bool.or_false, Bool.and_true, Bool.and_self, fin_1 _ hx, fin_2 _ hx, fin_3 _ hx]
          simp [nb0, nb1]
      | false =>
        cases ht : th p with
        | false => simp [hc, ht, hh, e1, e3]
        | true =>
          have hpn := h2 p hp ht
          have hb : Nat.blt p (N 1) = true := Nat.blt_eq.mpr hpn
          have hkp := hk p hpn
          rcases (show K p = 0 ∨ K p = 1 by omega) with q | q
          · have hx : kt (B 2 p) 1 0 < 3 := Nat.lt_succ_of_le (kt_le _ (by omega) _ (by decide) _ (by decide))
            simp only [hc, hh, ht, hb, q]
            simp only [Bool.true_and, Bool.or_true, if_true, Bool.false_eq_true, if_false, Bool.not_false, Bool.false_or, Bool.false_and, Bool.or_false, Bool.and_true, Bool.and_self, fin_1 _ hx, fin_2 _ hx, fin_3 _ hx]
            simp [nb0, nb1]
          · have hx : kt (B 2 p) 1 1 < 3 := Nat.lt_succ_of_le (kt_le _ (by omega) _ (by decide) _ (by decide))
            simp only [hc, hh, ht, hb, q]
            simp only [Bool.true_and, Bool.or_true, if_true, Bool.false_eq_true, if_false, Bool.not_false, Bool.false_or, Bool.false_and, Bool.or_false, Bool.and_true, Bool.and_self, fin_1 _ hx, fin_2 _ hx, fin_3 _ hx]
            simp [nb0, nb1]
/-- three rows of the class at a song -/
def r3 (A : xM) (l s : Nat) (K : Nat → Nat) : Prop := A (l + 1) s = nI (mk5 (fun p => Nat.ble 2 (K p))) ∧ A (l + 2) s = nI (mk5 (fun p => K p == 1)) ∧ A (l + 3) s = nI (mk5 (fun p => K p == 3))
theorem r3_c {A : xM} {l s : Nat} {K K' : Nat → Nat} (h : ∀ p, p < 5 → K p = K' p) (q : r3 A l s K) : r3 A l s K' := by
  obtain ⟨q1, q2, q3⟩ := q
  exact ⟨q1.trans (congrArg nI (mk5_c (fun p hp => by rw [h p hp]))), q2.trans (congrArg nI (mk5_c (fun p hp => by rw [h p hp]))), q3.trans (congrArg nI (mk5_c (fun p hp => by rw [h p hp])))⟩
section HEAR
variable {N : Nat → Nat} {B : Nat → Nat → Nat} {A V A1 V1 : xM} {tx : List xh_T} {cu : Value} {K : Nat → Nat} {C D has : Nat → Bool}
/-- who has what a song needs, on the class's side -/
def hasC (A1 : xM) (l s : Nat) (has : Nat → Bool) : Prop := (A1 72 s = -1 ∧ ∀ p, p < 5 → has p = true) ∨ ∃ j, j < 6 ∧ A1 72 s = nI j ∧ A1 (l + 1) j = nI (mk5 has)
theorem c_able {l s : Nat} (hs : s < 6) (hs5 : V1 81 5 = nI s) (hW : A1 (l + 1) s = nI (mk5 (fun p => Nat.ble 2 (K p)))) (hh : hasC A1 l s has) : ∃ x, fX6_able l A1 V1 = some x ∧ (∀ f, nI (mk5 f) &&& x = nI (mk5 (fun p => f p && (has p && !Nat.ble 2 (K p))))) ∧ ∀ f, x &&& nI (mk5 f) = nI (mk5 (fun p => f p && (has p && !Nat.ble 2 (K p)))) := by
  unfold fX6_able
  rw [hs5, bC_in ⟨hs, by decide⟩, tC (by omega), hW]
  rcases hh with ⟨h1, h2⟩ | ⟨j, h1, h2, h3⟩
  · rw [h1, if_pos (by decide)]
    have e : ∀ f, nI (mk5 f) &&& ((-1 : Int32) &&& (nI (mk5 (fun p => Nat.ble 2 (K p))) ^^^ (-1 : Int32))) = nI (mk5 (fun p => f p && (has p && !Nat.ble 2 (K p)))) := by
      intro f
      rw [Int32.neg_one_and, m_sub]
      exact congrArg nI (mk5_c (fun p hp => by rw [h2 p hp, Bool.true_and]))
    exact ⟨_, rfl, e, fun f => by rw [Int32.and_comm]; exact e f⟩
  · rw [h2, if_neg (by simp (disch := omega) only [ltI, leI, eqI, tI, tI1, ti_0, ti_1, ti_2, ti_3, ti_4, ti_5, ti_6, ti_7, ti_8, ti_9, ti_10, ti_11, ti_12, ti_14, ti_18, ti_30, ti_39, ti_40, ti_41, ti_45, ti_50, ti_59, ti_97, ti_99, ti_100, ti_122, ti_160, ti_243, ti_255, ti_399, ti_999, ti_1000, ti_1024, ti_99999, tm_1, tm_2, tm_3, tm_4, tm_5, tm_7, tm_11, tm_12, tm_13, tm_14, tm_100, if_pos, if_neg, if_true, if_false, bC_in, bI_s, bS_s, bX_s, bY_s, sO, tC]; omega), if_neg (by simp (disch := omega) only [ltI, leI, eqI, tI, tI1, ti_0, ti_1, ti_2, ti_3, ti_4, ti_5, ti_6, ti_7, ti_8, ti_9, ti_10, ti_11, ti_12, ti_14, ti_18, ti_30, ti_39, ti_40, ti_41, ti_45, ti_50, ti_59, ti_97, ti_99, ti_100, ti_122, ti_160, ti_243, ti_255, ti_399, ti_999, ti_1000, ti_1024, ti_99999, tm_1, tm_2, tm_3, tm_4, tm_5, tm_7, tm_11, tm_12, tm_13, tm_14, tm_100, if_pos, if_neg, if_true, if_false, bC_in, bI_s, bS_s, bX_s, bY_s, sO, tC]; omega), bC_in ⟨h1, by decide⟩, tC (by omega), h3, m_sub]
    exact ⟨_, rfl, fun f => m_and _ _, fun f => by rw [Int32.and_comm]; exact m_and _ _⟩
theorem c_wholeOf (hv : iv N B A1 V1 tx cu) {w : Nat} (hw : w < 2) (c h : Nat → Bool) : fX2_wholeOf (nI (mk5 c)) (nI w) (nI (mk5 h)) A1 V1 = some (nI (mk5 (ho N B w 2 c h))) := by
  obtain ⟨-, v6, -⟩ := (hv.2.2.2.2.2.1 : iv_cach N B A1 V1 tx cu)
  unfold fX2_wholeOf
  rw [show nI w * 2 = nI (w * 2) from pk_mul w 2, show nI (w * 2) + 1 = nI (w * 2 + 1) from nI_add _ 1, bC_in ⟨by omega, by decide⟩, bC_in ⟨by omega, by decide⟩, tC (by omega), tC (by omega), (v6 (w * 2) (by omega)).1, (v6 (w * 2 + 1) (by omega)).1, m_sub, m_and, m_and, m_and, m_or, show w * 2 / 2 = w by omega, show w * 2 % 2 = 0 by omega, show (w * 2 + 1) / 2 = w by omega, show (w * 2 + 1) % 2 = 1 by omega]
  rfl
theorem c_halfOf (hv : iv N B A1 V1 tx cu) {w : Nat} (hw : w < 2) (c h : Nat → Bool) : fX2_halfOf (nI (mk5 c)) (nI w) (nI (mk5 h)) A1 V1 = some (nI (mk5 (ho N B w 1 c h))) := by
  obtain ⟨-, v6, -⟩ := (hv.2.2.2.2.2.1 : iv_cach N B A1 V1 tx cu)
  unfold fX2_halfOf
  rw [show nI w * 2 = nI (w * 2) from pk_mul w 2, show nI (w * 2) + 1 = nI (w * 2 + 1) from nI_add _ 1, bC_in ⟨by omega, by decide⟩, bC_in ⟨by omega, by decide⟩, tC (by omega), tC (by omega), (v6 (w * 2) (by omega)).2, (v6 (w * 2 + 1) (by omega)).2, m_sub, m_and, m_and, m_and, m_or, show w * 2 / 2 = w by omega, show w * 2 % 2 = 0 by omega, show (w * 2 + 1) / 2 = w by omega, show (w * 2 + 1) % 2 = 1 by omega]
  rfl
theorem spi_t {i : Nat} : spi B K C i = true ↔ ∃ p, p < i ∧ sgs B K C p = true ∧ (B 2 p = 5 ∨ K p = 3) := by
  induction i with
  | zero => exact ⟨fun h => by (cases h), fun ⟨p, h, _⟩ => by omega⟩
  | succ i ih =>
    rw [spi, Bool.or_eq_true, ih]
    constructor
    · rintro (⟨p, h1, h2⟩ | h)
      · exact ⟨p, by omega, h2⟩
      · rw [Bool.and_eq_true, Bool.or_eq_true, beq_iff_eq, beq_iff_eq] at h
        exact ⟨i, by omega, h⟩
    · rintro ⟨p, h1, h2, h3⟩
      by_cases q : p = i
      · subst q
        right
        rw [Bool.and_eq_true, Bool.or_eq_true, beq_iff_eq, beq_iff_eq]
        exact ⟨h2, h3⟩
      · exact Or.inl ⟨p, by omega, h2, h3⟩
theorem c_hear (hv : iv N B A1 V1 tx cu) {l s : Nat} (hs : s < 6) (hs5 : V1 81 5 = nI s) (hr : r3 A1 l s K) (hK : ∀ p, p < 5 → K p ≤ 3) (hh : hasC A1 l s has) (hC : inP (N 1) C) {cl th : Nat → Bool} (h1 : inP (N 1) cl) (h2 : inP (N 1) th) (h3 : ∀ p, p < 5 → (cl p && th p) = false) (c1 : Value) : ∃ A2, fX6_hear l (nI (mk5 (sgs B K C))) (nI (mk5 cl)) (nI (mk5 th)) A1 V1 c1 = some (A2, V1, c1) ∧ r3 A2 l s (lrn B K cl th has (spt N B K C)) ∧ (∀ b, b ≠ l + 1 → b ≠ l + 2 → b ≠ l + 3 → A2 b = A1 b) ∧ ∀ b j, j ≠ s → A2 b j = A1 b j := by
  obtain ⟨v1, v2, v3, v4, v5, v6, v7, v8, v9, v10, v11, v12, v13⟩ := id hv
  obtain ⟨r1, r2, r3'⟩ := hr
  obtain ⟨x, x1, x2, -⟩ := c_able hs hs5 r1 hh
  have hkk : ∀ p, p < N 1 → B 2 p ≤ 5 := fun p hp => (v5 p hp).1.2.2
  have pw := fun p hp => lrn_pw (N := N) (B := B) (K := K) (cl := cl) (th := th) (has := has) (sp := spt N B K C) hp hkk (hK p hp) h1 h2 (h3 p hp)
  unfold fX6_hear
  rw [x1, bI_s, hs5, bC_in ⟨hs, by decide⟩, tC (by omega), x2, x2, r2]
  have cw0 : ∀ c h, fX2_wholeOf (nI (mk5 c)) 0 (nI (mk5 h)) A1 V1 = some (nI (mk5 (ho N B 0 2 c h))) := fun c h => c_wholeOf hv (w := 0) (by decide) c h
  have cw1 : ∀ c h, fX2_wholeOf (nI (mk5 c)) 1 (nI (mk5 h)) A1 V1 = some (nI (mk5 (ho N B 1 2 c h))) := fun c h => c_wholeOf hv (w := 1) (by decide) c h
  have ch0 : ∀ c h, fX2_halfOf (nI (mk5 c)) 0 (nI (mk5 h)) A1 V1 = some (nI (mk5 (ho N B 0 1 c h))) := fun c h => c_halfOf hv (w := 0) (by decide) c h
  have ch1 : ∀ c h, fX2_halfOf (nI (mk5 c)) 1 (nI (mk5 h)) A1 V1 = some (nI (mk5 (ho N B 1 1 c h))) := fun c h => c_halfOf hv (w := 1) (by decide) c h
  rw [cw0, bI_s, cw1, bI_s, ch0, bI_s, ch1, bI_s]
  rw [aw_n (show l + 1 ≠ l + 2 by omega), r1, v6.2.2, r3', m_and, m_and, m_or, m_or, m_or, m_or, m_sub, m_or]
  have spf : spt N B K C = false ↔ ((nI (mk5 (fun p => sgs B K C p && (Nat.blt p (N 1) && (B 2 p == 5)))) = 0) ∧ (nI (mk5 (fun p => sgs B K C p && (K p == 3))) = 0)) := by
    rw [m_0, m_0]
    constructor
    · intro q
      constructor
      · intro p hp
        cases z : (sgs B K C p && (Nat.blt p (N 1) && (B 2 p == 5))) with
        | false => rfl
        | true =>
          rw [Bool.and_eq_true, Bool.and_eq_true, beq_iff_eq] at z
          have : spt N B K C = true := spi_t.mpr ⟨p, Nat.blt_eq.mp z.2.1, z.1, Or.inl z.2.2⟩
          rw [q] at this; cases this
      · intro p hp
        cases z : (sgs B K C p && (K p == 3)) with
        | false => rfl
        | true =>
          rw [Bool.and_eq_true, beq_iff_eq] at z
          have : spt N B K C = true := spi_t.mpr ⟨p, sgs_p hC p hp z.1, z.1, Or.inr z.2⟩
          rw [q] at this; cases this
    · rintro ⟨q1, q2⟩
      cases z : spt N B K C with
      | false => rfl
      | true =>
        obtain ⟨p, g1, g2, g3⟩ := spi_t.mp z
        have p5 : p < 5 := by have := v1.2.1.2.2; omega
        rcases g3 with g3 | g3
        · have := q1 p p5
          rw [g2, g3, Nat.blt_eq.mpr g1] at this; cases this
        · have := q2 p p5
          rw [g2, g3] at this; cases this
  have e1 := fun p hp => (pw p hp).1
  have e2 := fun p hp => (pw p hp).2.1
  have e3 := fun p hp => (pw p hp).2.2
  cases hsp : spt N B K C with
  | false =>
    obtain ⟨q1, q2⟩ := spf.mp hsp
    rw [hsp] at e3
    rw [if_pos q1, if_pos q2]
    refine ⟨_, rfl, ⟨?_, ?_, ?_⟩, ?_, ?_⟩
    · rw [aw_s, tC (by omega), pk_us]
      exact congrArg nI (mk5_c (fun p hp => by rw [← hsp]; exact e1 p hp))
    · rw [aw_n (by omega), aw_s, tC (by omega), pk_us]
      exact congrArg nI (mk5_c (fun p hp => by rw [← hsp]; exact e2 p hp))
    · rw [aw_n (by omega), aw_n (by omega), r3']
      exact congrArg nI (mk5_c (fun p hp => by have := e3 p hp; rw [Bool.false_and, Bool.or_false] at this; exact this))
    · intro b b1 b2 b3
      rw [aw_n b1, aw_n b2]
    · intro b j hj
      by_cases b1 : b = l + 1
      · rw [b1, aw_s, tC (by omega), pk_un hj, aw_n (by omega)]
      · rw [aw_n b1]
        by_cases b2 : b = l + 2
        · rw [b2, aw_s, tC (by omega), pk_un hj]
        · rw [aw_n b2]
  | true =>
    rw [hsp] at e3
    have fin : ∀ X Y Z : Int32, X = nI (mk5 (fun p => Nat.ble 2 (lrn B K cl th has true p))) → Y = nI (mk5 (fun p => lrn B K cl th has true p == 1)) → Z = nI (mk5 (fun p => lrn B K cl th has true p == 3)) → r3 (aw (aw (aw A1 (l + 2) (nI s) Y) (l + 1) (nI s) X) (l + 3) (nI s) Z) l s (lrn B K cl th has true) ∧ (∀ b, b ≠ l + 1 → b ≠ l + 2 → b ≠ l + 3 → (aw (aw (aw A1 (l + 2) (nI s) Y) (l + 1) (nI s) X) (l + 3) (nI s) Z) b = A1 b) ∧ ∀ b j, j ≠ s → (aw (aw (aw A1 (l + 2) (nI s) Y) (l + 1) (nI s) X) (l + 3) (nI s) Z) b j = A1 b j := by
      intro X Y Z hX hY hZ
      refine ⟨⟨?_, ?_, ?_⟩, ?_, ?_⟩
      · rw [aw_n (by omega), aw_s, tC (by omega), pk_us, hX]
      · rw [aw_n (by omega), aw_n (by omega), aw_s, tC (by omega), pk_us, hY]
      · rw [aw_s, tC (by omega), pk_us, hZ]
      · intro b b1 b2 b3
        rw [aw_n b3, aw_n b1, aw_n b2]
      · intro b j hj
        by_cases b3 : b = l + 3
        · rw [b3, aw_s, tC (by omega), pk_un hj, aw_n (by omega), aw_n (by omega)]
        · rw [aw_n b3]
          by_cases b1 : b = l + 1
          · rw [b1, aw_s, tC (by omega), pk_un hj, aw_n (by omega)]
          · rw [aw_n b1]
            by_cases b2 : b = l + 2
            · rw [b2, aw_s, tC (by omega), pk_un hj]
            · rw [aw_n b2]
    have hX := congrArg nI (mk5_c e1)
    have hY := congrArg nI (mk5_c e2)
    have hZ := congrArg nI (mk5_c e3)
    rw [hsp] at hX hY
    have e33 : ∀ Y X : Int32, (aw (aw A1 (l + 2) (nI s) Y) (l + 1) (nI s) X) (l + 3) s = nI (mk5 (fun p => K p == 3)) := by
      intro Y X
      rw [aw_n (by omega), aw_n (by omega), r3']
    rw [e33, m_or]
    by_cases q1 : nI (mk5 (fun p => sgs B K C p && (Nat.blt p (N 1) && (B 2 p == 5)))) = 0
    · have q2 : ¬ nI (mk5 (fun p => sgs B K C p && (K p == 3))) = 0 := by
        intro q2
        rw [spf.mpr ⟨q1, q2⟩] at hsp; cases hsp
      rw [if_pos q1, if_neg q2]
      obtain ⟨f1, f2, f3⟩ := fin _ _ _ hX hY (by simpa using hZ)
      exact ⟨_, rfl, f1, f2, f3⟩
    · rw [if_neg q1]
      obtain ⟨f1, f2, f3⟩ := fin _ _ _ hX hY (by simpa using hZ)
      exact ⟨_, rfl, f1, f2, f3⟩
end HEAR
