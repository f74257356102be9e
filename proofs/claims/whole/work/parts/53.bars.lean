/-! FEASTS: bars, leave, ends. -/
theorem fs_p {P : Nat} {C : Nat → Bool} (h : inP P C) (p : Nat) : inP P (fs C p false) := fun q hq e => by
  unfold fs at e
  by_cases z : q = p
  · rw [if_pos z] at e; cases e
  · rw [if_neg z] at e; exact h q hq e
theorem one_z : ∀ b0 b1 b2 b3 b4 : Bool, ∀ p : Fin 5, (nI (mkb b0 b1 b2 b3 b4) &&& (1 : Int32) <<< (nI p.val &&& 31)) = if ([b0, b1, b2, b3, b4][p.val]!) = true then (1 : Int32) <<< (nI p.val &&& 31) else 0 := by decide +kernel
theorem one_t {C : Nat → Bool} {p : Nat} (hp : p < 5) (h : C p = true) : nI (mk5 C) &&& (1 : Int32) <<< (nI p &&& 31) = (1 : Int32) <<< (nI p &&& 31) := by
  have := one_z (C 0) (C 1) (C 2) (C 3) (C 4) ⟨p, hp⟩
  rw [← mk5_b, f5 C hp, if_pos h] at this
  exact this
theorem one_f {C : Nat → Bool} {p : Nat} (hp : p < 5) (h : C p = false) : nI (mk5 C) &&& (1 : Int32) <<< (nI p &&& 31) = 0 := by rw [mk5_bit C hp]; exact h
theorem sh_ne : ∀ p, p < 5 → ¬ (1 : Int32) <<< (nI p &&& 31) = 0 := by decide +kernel
def sbb (o c : Nat) : Bool := Nat.beq (Nat.land o c) o
theorem sbb_c : ∀ o, o < 32 → ∀ c, c < 32 → decide ((nI o &&& (nI c ^^^ (-1))) = 0) = sbb o c := by decide +kernel
theorem sbb_r : ∀ o, o < 32 → ∀ c, c < 32 → decide ((nI o &&& nI c) = nI o) = sbb o c := by decide +kernel
theorem sbb_n : ∀ o, o < 32 → ∀ c, c < 32 → sbb o c = true → ct (bt o) ≤ ct (bt c) := by decide +kernel
theorem bt_d {o c : Nat} (ho : o < 32) (hc : c < 32) : nI c &&& (nI o ^^^ (-1)) = nI (mk5 (fun p => bt c p && !bt o p)) := by
  have := m_sub (bt c) (bt o)
  rw [bt_mk c hc, bt_mk o ho] at this
  exact this
section BA
variable {N : Nat → Nat} {B : Nat → Nat → Nat} {A V A1 V1 : xM} {tx : List xh_T} {cu : Value} {C : Nat → Bool}
theorem c_bars (hv : iv N B A V tx cu) (hC : inP (N 1) C) {s : Nat} (hs : s < 6) (r : Nat) (ex : Int32 → xM → xM → Value → Option (Int32 × xS)) : ∀ k i n (A1 V1 : xM) (c1 : Value), agr A V A1 V1 → i + k = N 1 → k < n → ∃ A2 V2 c2, fX8_bars_L47 tx (nI s) (nI r) (nI (mk5 C)) ex n (nI (fb (fun p => C p && mf N B tx (A 131) s r (fs C p false)) i)) (nI i) A1 V1 c1 = ex (nI (fb (fun p => C p && mf N B tx (A 131) s r (fs C p false)) (N 1))) A2 V2 c2 ∧ agr A V A2 V2 := by
  obtain ⟨-, ⟨p1, p2, p3⟩, -⟩ := id hv.1
  intro k
  induction k with
  | zero =>
    intro i n A1 V1 c1 ha hi hn
    obtain ⟨n, rfl⟩ : ∃ m, n = m + 1 := ⟨n - 1, by omega⟩
    have : i = N 1 := by omega
    have e := (ha.2 65 3 rfl).trans p1
    refine ⟨A1, V1, c1, ?_, ha⟩
    rw [fX8_bars_L47, this, if_pos (by simp (disch := omega) only [ltI, leI, eqI, tI, tI1, ti_0, ti_1, ti_2, ti_3, ti_4, ti_5, ti_6, ti_7, ti_8, ti_9, ti_10, ti_11, ti_12, ti_14, ti_18, ti_30, ti_39, ti_40, ti_41, ti_45, ti_50, ti_59, ti_97, ti_99, ti_100, ti_122, ti_160, ti_243, ti_255, ti_399, ti_999, ti_1000, ti_1024, ti_99999, tm_1, tm_2, tm_3, tm_4, tm_5, tm_7, tm_11, tm_12, tm_13, tm_14, tm_100, if_pos, if_neg, if_true, if_false, bC_in, bI_s, bS_s, bX_s, bY_s, sO, tC, e]; omega)]
  | succ k ih =>
    intro i n A1 V1 c1 ha hi hn
    obtain ⟨n, rfl⟩ : ∃ m, n = m + 1 := ⟨n - 1, by omega⟩
    have e := (ha.2 65 3 rfl).trans p1
    have hi5 : i < 5 := by omega
    rw [fX8_bars_L47, if_neg (by simp (disch := omega) only [ltI, leI, eqI, tI, tI1, ti_0, ti_1, ti_2, ti_3, ti_4, ti_5, ti_6, ti_7, ti_8, ti_9, ti_10, ti_11, ti_12, ti_14, ti_18, ti_30, ti_39, ti_40, ti_41, ti_45, ti_50, ti_59, ti_97, ti_99, ti_100, ti_122, ti_160, ti_243, ti_255, ti_399, ti_999, ti_1000, ti_1024, ti_99999, tm_1, tm_2, tm_3, tm_4, tm_5, tm_7, tm_11, tm_12, tm_13, tm_14, tm_100, if_pos, if_neg, if_true, if_false, bC_in, bI_s, bS_s, bX_s, bY_s, sO, tC, e]; omega), sO]
    cases hc : C i with
    | false =>
      have t := ih (i + 1) n A1 V1 c1 ha (by omega) (by omega)
      rw [fb_f (by rw [hc, Bool.false_and])] at t
      rw [one_f hi5 hc, if_pos rfl]
      exact t
    | true =>
      obtain ⟨A2, V2, w1, w2, -⟩ := c_maf hv ha c1 (fs_p hC i) hs r
      have t := ih (i + 1) n A2 V2 (.ref (tref (N 3))) w2 (by omega) (by omega)
      rw [one_t hi5 hc, if_neg (sh_ne i hi5), mk5_an C hi5, w1, bX_s]
      cases hm : mf N B tx (A 131) s r (fs C i false) with
      | false =>
        rw [fb_f (by rw [hc, hm]; rfl)] at t
        rw [nbf, if_pos rfl]
        exact t
      | true =>
        rw [nbt, if_neg (by decide), fb_t (by omega) (by rw [hc, hm]; rfl)]
        exact t
theorem r_bars (hv : iv N B A V tx cu) (hC : inP (N 1) C) {s : Nat} (hs : s < 6) (r : Nat) (ex : Int32 → xM → xM → Value → Option (Int32 × xS)) : ∀ k i n (A1 V1 : xM) (c1 : Value), agr A V A1 V1 → i + k = N 1 → k < n → ∃ A2 V2 c2, fX9_bars_L49 (nI s) (nI r) (nI (mk5 C)) ex n (nI (fb (fun p => C p && mf N B tx (A 131) s r (fs C p false)) i)) (nI i) A1 V1 c1 = ex (nI (fb (fun p => C p && mf N B tx (A 131) s r (fs C p false)) (N 1))) A2 V2 c2 ∧ agr A V A2 V2 := by
  obtain ⟨-, ⟨p1, p2, p3⟩, -⟩ := id hv.1
  intro k
  induction k with
  | zero =>
    intro i n A1 V1 c1 ha hi hn
    obtain ⟨n, rfl⟩ : ∃ m, n = m + 1 := ⟨n - 1, by omega⟩
    have : i = N 1 := by omega
    have e := (ha.2 132 4 rfl).trans p2
    refine ⟨A1, V1, c1, ?_, ha⟩
    rw [fX9_bars_L49, this, if_pos (by simp (disch := omega) only [ltI, leI, eqI, tI, tI1, ti_0, ti_1, ti_2, ti_3, ti_4, ti_5, ti_6, ti_7, ti_8, ti_9, ti_10, ti_11, ti_12, ti_14, ti_18, ti_30, ti_39, ti_40, ti_41, ti_45, ti_50, ti_59, ti_97, ti_99, ti_100, ti_122, ti_160, ti_243, ti_255, ti_399, ti_999, ti_1000, ti_1024, ti_99999, tm_1, tm_2, tm_3, tm_4, tm_5, tm_7, tm_11, tm_12, tm_13, tm_14, tm_100, if_pos, if_neg, if_true, if_false, bC_in, bI_s, bS_s, bX_s, bY_s, sO, tC, e]; omega)]
  | succ k ih =>
    intro i n A1 V1 c1 ha hi hn
    obtain ⟨n, rfl⟩ : ∃ m, n = m + 1 := ⟨n - 1, by omega⟩
    have e := (ha.2 132 4 rfl).trans p2
    have hi5 : i < 5 := by omega
    rw [fX9_bars_L49, if_neg (by simp (disch := omega) only [ltI, leI, eqI, tI, tI1, ti_0, ti_1, ti_2, ti_3, ti_4, ti_5, ti_6, ti_7, ti_8, ti_9, ti_10, ti_11, ti_12, ti_14, ti_18, ti_30, ti_39, ti_40, ti_41, ti_45, ti_50, ti_59, ti_97, ti_99, ti_100, ti_122, ti_160, ti_243, ti_255, ti_399, ti_999, ti_1000, ti_1024, ti_99999, tm_1, tm_2, tm_3, tm_4, tm_5, tm_7, tm_11, tm_12, tm_13, tm_14, tm_100, if_pos, if_neg, if_true, if_false, bC_in, bI_s, bS_s, bX_s, bY_s, sO, tC, e]; omega), sO, mk5_sh C hi5, or0]
    cases hc : C i with
    | false =>
      have t := ih (i + 1) n A1 V1 c1 ha (by omega) (by omega)
      rw [fb_f (by rw [hc, Bool.false_and])] at t
      rw [nbf, if_neg (by decide)]
      exact t
    | true =>
      obtain ⟨A2, V2, w1, w2⟩ := r_maf hv ha c1 (fs_p hC i) hs r
      have t := ih (i + 1) n A2 V2 c1 w2 (by omega) (by omega)
      rw [nbt, if_pos rfl, mk5_an C hi5, w1, bX_s]
      cases hm : mf N B tx (A 131) s r (fs C i false) with
      | false =>
        rw [fb_f (by rw [hc, hm]; rfl)] at t
        rw [nbf, if_pos rfl]
        exact t
      | true =>
        rw [nbt, if_neg (by decide), fb_t (by omega) (by rw [hc, hm]; rfl)]
        exact t
/-! leave -/
def lok (N : Nat → Nat) (B : Nat → Nat → Nat) (tx : List xh_T) (f0 : Nat → Int32) (s r c : Nat) (o : Nat) : Bool := sbb o c && mf N B tx f0 s r (fun p => bt c p && !bt o p)
theorem d_p {P c o : Nat} (h : inP P (bt c)) : inP P (fun p => bt c p && !bt o p) := fun p hp q => h p hp (by rw [Bool.and_eq_true] at q; exact q.1)
theorem c_leave (hv : iv N B A V tx cu) {c : Nat} (hc : c < 32) (hC : inP (N 1) (bt c)) {s : Nat} (hs : s < 6) (r : Nat) (ex : Int32 → xM → xM → Value → Option (Int32 × xS)) : ∀ k o n (A1 V1 : xM) (c1 : Value), agr A V A1 V1 → o + k = c + 1 → k < n → ∃ A2 V2 c2, fX8_leave_L35 tx (nI s) (nI r) (nI c) ex n (ob (bst (lok N B tx (A 131) s r c) o)) (nI o) A1 V1 c1 = ex (ob (bst (lok N B tx (A 131) s r c) (c + 1))) A2 V2 c2 ∧ agr A V A2 V2 := by
  intro k
  induction k with
  | zero =>
    intro o n A1 V1 c1 ha hi hn
    obtain ⟨n, rfl⟩ : ∃ m, n = m + 1 := ⟨n - 1, by omega⟩
    have : o = c + 1 := by omega
    refine ⟨A1, V1, c1, ?_, ha⟩
    rw [fX8_leave_L35, this, if_pos (by simp (disch := omega) only [ltI, leI, eqI, tI, tI1, ti_0, ti_1, ti_2, ti_3, ti_4, ti_5, ti_6, ti_7, ti_8, ti_9, ti_10, ti_11, ti_12, ti_14, ti_18, ti_30, ti_39, ti_40, ti_41, ti_45, ti_50, ti_59, ti_97, ti_99, ti_100, ti_122, ti_160, ti_243, ti_255, ti_399, ti_999, ti_1000, ti_1024, ti_99999, tm_1, tm_2, tm_3, tm_4, tm_5, tm_7, tm_11, tm_12, tm_13, tm_14, tm_100, if_pos, if_neg, if_true, if_false, bC_in, bI_s, bS_s, bX_s, bY_s, sO, tC]; omega)]
  | succ k ih =>
    intro o n A1 V1 c1 ha hi hn
    obtain ⟨n, rfl⟩ : ∃ m, n = m + 1 := ⟨n - 1, by omega⟩
    have ho : o < 32 := by omega
    have hsb := sbb_c o ho c hc
    obtain ⟨A2, V2, w1, w2, -⟩ := c_maf hv ha c1 (d_p (o := o) hC) hs r
    have t0 := ih (o + 1) n A1 V1 c1 ha (by omega) (by omega)
    have t1 := ih (o + 1) n A2 V2 (.ref (tref (N 3))) w2 (by omega) (by omega)
    rw [bst] at t0 t1
    rw [fX8_leave_L35, if_neg (by simp (disch := omega) only [ltI, leI, eqI, tI, tI1, ti_0, ti_1, ti_2, ti_3, ti_4, ti_5, ti_6, ti_7, ti_8, ti_9, ti_10, ti_11, ti_12, ti_14, ti_18, ti_30, ti_39, ti_40, ti_41, ti_45, ti_50, ti_59, ti_97, ti_99, ti_100, ti_122, ti_160, ti_243, ti_255, ti_399, ti_999, ti_1000, ti_1024, ti_99999, tm_1, tm_2, tm_3, tm_4, tm_5, tm_7, tm_11, tm_12, tm_13, tm_14, tm_100, if_pos, if_neg, if_true, if_false, bC_in, bI_s, bS_s, bX_s, bY_s, sO, tC]; omega), sO, bt_d ho hc, w1, m_cnt_c ho]
    simp only [bX_s, bI_s]
    cases hb : bst (lok N B tx (A 131) s r c) o with
    | none =>
      rw [hb] at t0 t1
      dsimp only at t0 t1
      rw [show ob none = -1 from rfl, if_pos rfl]
      cases hq : sbb o c with
      | false =>
        have hl : ¬ lok N B tx (A 131) s r c o = true := by unfold lok; rw [hq, Bool.false_and]; decide
        rw [if_neg hl] at t0
        rw [hq] at hsb
        rw [if_neg (of_decide_eq_false hsb)]
        exact t0
      | true =>
        rw [hq] at hsb
        rw [if_pos (of_decide_eq_true hsb)]
        cases hm : mf N B tx (A 131) s r (fun p => bt c p && !bt o p) with
        | false =>
          have hl : ¬ lok N B tx (A 131) s r c o = true := by unfold lok; rw [hm, Bool.and_false]; decide
          rw [if_neg hl] at t1
          rw [nbf, if_pos rfl]
          exact t1
        | true =>
          have hl : lok N B tx (A 131) s r c o = true := by unfold lok; rw [hm, hq]; rfl
          rw [if_pos hl] at t1
          rw [nbt, if_neg (by decide)]
          exact t1
    | some b =>
      have hbl := ((bst_p (lok N B tx (A 131) s r c) o).1 b hb).1
      rw [hb] at t0 t1
      dsimp only at t0 t1
      have c1' := ct_le (bt b)
      have c2' := ct_le (bt o)
      rw [show ob (some b) = nI b from rfl]
      rw [if_neg (by simp (disch := omega) only [ltI, leI, eqI, tI, tI1, ti_0, ti_1, ti_2, ti_3, ti_4, ti_5, ti_6, ti_7, ti_8, ti_9, ti_10, ti_11, ti_12, ti_14, ti_18, ti_30, ti_39, ti_40, ti_41, ti_45, ti_50, ti_59, ti_97, ti_99, ti_100, ti_122, ti_160, ti_243, ti_255, ti_399, ti_999, ti_1000, ti_1024, ti_99999, tm_1, tm_2, tm_3, tm_4, tm_5, tm_7, tm_11, tm_12, tm_13, tm_14, tm_100, if_pos, if_neg, if_true, if_false, bC_in, bI_s, bS_s, bX_s, bY_s, sO, tC]; omega), m_cnt_c (by omega)]
      simp only [bI_s]
      by_cases h : ct (bt o) < ct (bt b)
      · rw [if_neg (by simp (disch := omega) only [ltI, leI, eqI, tI, tI1, ti_0, ti_1, ti_2, ti_3, ti_4, ti_5, ti_6, ti_7, ti_8, ti_9, ti_10, ti_11, ti_12, ti_14, ti_18, ti_30, ti_39, ti_40, ti_41, ti_45, ti_50, ti_59, ti_97, ti_99, ti_100, ti_122, ti_160, ti_243, ti_255, ti_399, ti_999, ti_1000, ti_1024, ti_99999, tm_1, tm_2, tm_3, tm_4, tm_5, tm_7, tm_11, tm_12, tm_13, tm_14, tm_100, if_pos, if_neg, if_true, if_false, bC_in, bI_s, bS_s, bX_s, bY_s, sO, tC]; omega)]
        cases hq : sbb o c with
        | false =>
          have hl : ¬ (lok N B tx (A 131) s r c o = true ∧ ct (bt o) < ct (bt b)) := by unfold lok; rw [hq]; simp
          rw [if_neg hl] at t0
          rw [hq] at hsb
          rw [if_neg (of_decide_eq_false hsb)]
          exact t0
        | true =>
          rw [hq] at hsb
          rw [if_pos (of_decide_eq_true hsb)]
          cases hm : mf N B tx (A 131) s r (fun p => bt c p && !bt o p) with
          | false =>
            have hl : ¬ (lok N B tx (A 131) s r c o = true ∧ ct (bt o) < ct (bt b)) := by unfold lok; rw [hm, Bool.and_false]; simp
            rw [if_neg hl] at t1
            rw [nbf, if_pos rfl]
            exact t1
          | true =>
            have hl : lok N B tx (A 131) s r c o = true ∧ ct (bt o) < ct (bt b) := ⟨by unfold lok; rw [hm, hq]; rfl, h⟩
            rw [if_pos hl] at t1
            rw [nbt, if_neg (by decide)]
            exact t1
      · rw [if_neg (fun q => h q.2)] at t0
        rw [if_pos (by simp (disch := omega) only [ltI, leI, eqI, tI, tI1, ti_0, ti_1, ti_2, ti_3, ti_4, ti_5, ti_6, ti_7, ti_8, ti_9, ti_10, ti_11, ti_12, ti_14, ti_18, ti_30, ti_39, ti_40, ti_41, ti_45, ti_50, ti_59, ti_97, ti_99, ti_100, ti_122, ti_160, ti_243, ti_255, ti_399, ti_999, ti_1000, ti_1024, ti_99999, tm_1, tm_2, tm_3, tm_4, tm_5, tm_7, tm_11, tm_12, tm_13, tm_14, tm_100, if_pos, if_neg, if_true, if_false, bC_in, bI_s, bS_s, bX_s, bY_s, sO, tC]; omega), ite_self]
        exact t0
theorem r_leave1 (hv : iv N B A V tx cu) {c : Nat} (hc : c < 32) (hC : inP (N 1) (bt c)) {s : Nat} (hs : s < 6) (r : Nat) (z : Nat) (hz : z ≤ 6) (ex : xM → xM → Value → Option (Int32 × xS)) : ∀ k o n (A1 V1 : xM) (c1 : Value), agr A V A1 V1 → o + k = c + 1 → k < n → (∀ o', o ≤ o' → o' < c + 1 → ¬ (ct (bt o') = z ∧ lok N B tx (A 131) s r c o' = true)) → ∃ A2 V2 c2, fX9_leave_L46 (nI s) (nI r) (nI c) (nI z) ex n (nI o) A1 V1 c1 = ex A2 V2 c2 ∧ agr A V A2 V2 := by
  intro k
  induction k with
  | zero =>
    intro o n A1 V1 c1 ha hi hn _
    obtain ⟨n, rfl⟩ : ∃ m, n = m + 1 := ⟨n - 1, by omega⟩
    refine ⟨A1, V1, c1, ?_, ha⟩
    rw [fX9_leave_L46, if_pos (by simp (disch := omega) only [ltI, leI, eqI, tI, tI1, ti_0, ti_1, ti_2, ti_3, ti_4, ti_5, ti_6, ti_7, ti_8, ti_9, ti_10, ti_11, ti_12, ti_14, ti_18, ti_30, ti_39, ti_40, ti_41, ti_45, ti_50, ti_59, ti_97, ti_99, ti_100, ti_122, ti_160, ti_243, ti_255, ti_399, ti_999, ti_1000, ti_1024, ti_99999, tm_1, tm_2, tm_3, tm_4, tm_5, tm_7, tm_11, tm_12, tm_13, tm_14, tm_100, if_pos, if_neg, if_true, if_false, bC_in, bI_s, bS_s, bX_s, bY_s, sO, tC]; omega)]
  | succ k ih =>
    intro o n A1 V1 c1 ha hi hn hno
    obtain ⟨n, rfl⟩ : ∃ m, n = m + 1 := ⟨n - 1, by omega⟩
    have ho : o < 32 := by omega
    have hsb := sbb_r o ho c hc
    have hno' : ∀ o', o + 1 ≤ o' → o' < c + 1 → ¬ (ct (bt o') = z ∧ lok N B tx (A 131) s r c o' = true) := fun o' h1 h2 => hno o' (by omega) h2
    obtain ⟨A2, V2, w1, w2⟩ := r_maf hv ha c1 (d_p (o := o) hC) hs r
    have t0 := ih (o + 1) n A1 V1 c1 ha (by omega) (by omega) hno'
    have t1 := ih (o + 1) n A2 V2 c1 w2 (by omega) (by omega) hno'
    have c2' := ct_le (bt o)
    rw [fX9_leave_L46, if_neg (by simp (disch := omega) only [ltI, leI, eqI, tI, tI1, ti_0, ti_1, ti_2, ti_3, ti_4, ti_5, ti_6, ti_7, ti_8, ti_9, ti_10, ti_11, ti_12, ti_14, ti_18, ti_30, ti_39, ti_40, ti_41, ti_45, ti_50, ti_59, ti_97, ti_99, ti_100, ti_122, ti_160, ti_243, ti_255, ti_399, ti_999, ti_1000, ti_1024, ti_99999, tm_1, tm_2, tm_3, tm_4, tm_5, tm_7, tm_11, tm_12, tm_13, tm_14, tm_100, if_pos, if_neg, if_true, if_false, bC_in, bI_s, bS_s, bX_s, bY_s, sO, tC]; omega), sO, bt_d ho hc, w1, m_size_c ho]
    simp only [bX_s, bI_s]
    cases hq : sbb o c with
    | false =>
      rw [hq] at hsb
      rw [if_neg (of_decide_eq_false hsb)]
      exact t0
    | true =>
      rw [hq] at hsb
      rw [if_pos (of_decide_eq_true hsb)]
      by_cases h : ct (bt o) = z
      · rw [if_pos (by rw [h])]
        cases hm : mf N B tx (A 131) s r (fun p => bt c p && !bt o p) with
        | false =>
          rw [nbf, if_pos rfl]
          exact t1
        | true =>
          exact absurd ⟨h, by unfold lok; rw [hm, hq]; rfl⟩ (hno o (Nat.le_refl _) (by omega))
      · rw [if_neg (by simp (disch := omega) only [ltI, leI, eqI, tI, tI1, ti_0, ti_1, ti_2, ti_3, ti_4, ti_5, ti_6, ti_7, ti_8, ti_9, ti_10, ti_11, ti_12, ti_14, ti_18, ti_30, ti_39, ti_40, ti_41, ti_45, ti_50, ti_59, ti_97, ti_99, ti_100, ti_122, ti_160, ti_243, ti_255, ti_399, ti_999, ti_1000, ti_1024, ti_99999, tm_1, tm_2, tm_3, tm_4, tm_5, tm_7, tm_11, tm_12, tm_13, tm_14, tm_100, if_pos, if_neg, if_true, if_false, bC_in, bI_s, bS_s, bX_s, bY_s, sO, tC]; omega)]
        exact t0
theorem r_leave2 (hv : iv N B A V tx cu) {c : Nat} (hc : c < 32) (hC : inP (N 1) (bt c)) {s : Nat} (hs : s < 6) (r : Nat) (z : Nat) (hz : z ≤ 6) (ex : xM → xM → Value → Option (Int32 × xS)) {b : Nat} (hb : b < c + 1) (hbz : ct (bt b) = z) (hbk : lok N B tx (A 131) s r c b = true) : ∀ k o n (A1 V1 : xM) (c1 : Value), agr A V A1 V1 → o + k = b → k < n → (∀ o', o ≤ o' → o' < b → ¬ (ct (bt o') = z ∧ lok N B tx (A 131) s r c o' = true)) → ∃ A2 V2 c2, fX9_leave_L46 (nI s) (nI r) (nI c) (nI z) ex n (nI o) A1 V1 c1 = some (nI b, A2, V2, c2) ∧ agr A V A2 V2 := by
  have hbk' := hbk
  unfold lok at hbk'
  rw [Bool.and_eq_true] at hbk'
  intro k
  induction k with
  | zero =>
    intro o n A1 V1 c1 ha hi hn _
    obtain ⟨n, rfl⟩ : ∃ m, n = m + 1 := ⟨n - 1, by omega⟩
    have : o = b := by omega
    subst this
    have ho : o < 32 := by omega
    have hsb := sbb_r o ho c hc
    rw [hbk'.1] at hsb
    obtain ⟨A2, V2, w1, w2⟩ := r_maf hv ha c1 (d_p (o := o) hC) hs r
    refine ⟨A2, V2, c1, ?_, w2⟩
    rw [fX9_leave_L46, if_neg (by simp (disch := omega) only [ltI, leI, eqI, tI, tI1, ti_0, ti_1, ti_2, ti_3, ti_4, ti_5, ti_6, ti_7, ti_8, ti_9, ti_10, ti_11, ti_12, ti_14, ti_18, ti_30, ti_39, ti_40, ti_41, ti_45, ti_50, ti_59, ti_97, ti_99, ti_100, ti_122, ti_160, ti_243, ti_255, ti_399, ti_999, ti_1000, ti_1024, ti_99999, tm_1, tm_2, tm_3, tm_4, tm_5, tm_7, tm_11, tm_12, tm_13, tm_14, tm_100, if_pos, if_neg, if_true, if_false, bC_in, bI_s, bS_s, bX_s, bY_s, sO, tC]; omega), bt_d ho hc, w1, m_size_c ho, if_pos (of_decide_eq_true hsb), bI_s, if_pos (by rw [hbz]), bX_s, hbk'.2, nbt, if_neg (by decide)]
  | succ k ih =>
    intro o n A1 V1 c1 ha hi hn hno
    obtain ⟨n, rfl⟩ : ∃ m, n = m + 1 := ⟨n - 1, by omega⟩
    have ho : o < 32 := by omega
    have hsb := sbb_r o ho c hc
    have hno' : ∀ o', o + 1 ≤ o' → o' < b → ¬ (ct (bt o') = z ∧ lok N B tx (A 131) s r c o' = true) := fun o' h1 h2 => hno o' (by omega) h2
    obtain ⟨A2, V2, w1, w2⟩ := r_maf hv ha c1 (d_p (o := o) hC) hs r
    have t0 := ih (o + 1) n A1 V1 c1 ha (by omega) (by omega) hno'
    have t1 := ih (o + 1) n A2 V2 c1 w2 (by omega) (by omega) hno'
    have c2' := ct_le (bt o)
    rw [fX9_leave_L46, if_neg (by simp (disch := omega) only [ltI, leI, eqI, tI, tI1, ti_0, ti_1, ti_2, ti_3, ti_4, ti_5, ti_6, ti_7, ti_8, ti_9, ti_10, ti_11, ti_12, ti_14, ti_18, ti_30, ti_39, ti_40, ti_41, ti_45, ti_50, ti_59, ti_97, ti_99, ti_100, ti_122, ti_160, ti_243, ti_255, ti_399, ti_999, ti_1000, ti_1024, ti_99999, tm_1, tm_2, tm_3, tm_4, tm_5, tm_7, tm_11, tm_12, tm_13, tm_14, tm_100, if_pos, if_neg, if_true, if_false, bC_in, bI_s, bS_s, bX_s, bY_s, sO, tC]; omega), sO, bt_d ho hc, w1, m_size_c ho]
    simp only [bX_s, bI_s]
    cases hq : sbb o c with
    | false =>
      rw [hq] at hsb
      rw [if_neg (of_decide_eq_false hsb)]
      exact t0
    | true =>
      rw [hq] at hsb
      rw [if_pos (of_decide_eq_true hsb)]
      by_cases h : ct (bt o) = z
      · rw [if_pos (by rw [h])]
        cases hm : mf N B tx (A 131) s r (fun p => bt c p && !bt o p) with
        | false =>
          rw [nbf, if_pos rfl]
          exact t1
        | true =>
          exact absurd ⟨h, by unfold lok; rw [hm, hq]; rfl⟩ (hno o (Nat.le_refl _) (by omega))
      · rw [if_neg (by simp (disch := omega) only [ltI, leI, eqI, tI, tI1, ti_0, ti_1, ti_2, ti_3, ti_4, ti_5, ti_6, ti_7, ti_8, ti_9, ti_10, ti_11, ti_12, ti_14, ti_18, ti_30, ti_39, ti_40, ti_41, ti_45, ti_50, ti_59, ti_97, ti_99, ti_100, ti_122, ti_160, ti_243, ti_255, ti_399, ti_999, ti_1000, ti_1024, ti_99999, tm_1, tm_2, tm_3, tm_4, tm_5, tm_7, tm_11, tm_12, tm_13, tm_14, tm_100, if_pos, if_neg, if_true, if_false, bC_in, bI_s, bS_s, bX_s, bY_s, sO, tC]; omega)]
        exact t0
theorem r_leave (hv : iv N B A V tx cu) {c : Nat} (hc : c < 32) (hC : inP (N 1) (bt c)) {s : Nat} (hs : s < 6) (r : Nat) : ∀ k z n (A1 V1 : xM) (c1 : Value), agr A V A1 V1 → z + k = ct (bt c) + 1 → k < n → (∀ o, o < c + 1 → lok N B tx (A 131) s r c o = true → z ≤ ct (bt o)) → ∃ A2 V2 c2, fX9_leave_L34 (nI s) (nI r) (nI c) (fun (A31 V32 : xM) (c33 : Value) => some ((-1 : Int32), A31, V32, c33)) n (nI z) A1 V1 c1 = some (ob (bst (lok N B tx (A 131) s r c) (c + 1)), A2, V2, c2) ∧ agr A V A2 V2 := by
  obtain ⟨b1, b2⟩ := bst_p (lok N B tx (A 131) s r c) (c + 1)
  have cc := ct_le (bt c)
  have lsub : ∀ o, o < c + 1 → lok N B tx (A 131) s r c o = true → ct (bt o) ≤ ct (bt c) := fun o h1 h2 => by
    unfold lok at h2
    rw [Bool.and_eq_true] at h2
    exact sbb_n o (by omega) c hc h2.1
  intro k
  induction k with
  | zero =>
    intro z n A1 V1 c1 ha hi hn hz
    obtain ⟨n, rfl⟩ : ∃ m, n = m + 1 := ⟨n - 1, by omega⟩
    refine ⟨A1, V1, c1, ?_, ha⟩
    rw [fX9_leave_L34, m_size_c hc, bI_s, if_pos (by simp (disch := omega) only [ltI, leI, eqI, tI, tI1, ti_0, ti_1, ti_2, ti_3, ti_4, ti_5, ti_6, ti_7, ti_8, ti_9, ti_10, ti_11, ti_12, ti_14, ti_18, ti_30, ti_39, ti_40, ti_41, ti_45, ti_50, ti_59, ti_97, ti_99, ti_100, ti_122, ti_160, ti_243, ti_255, ti_399, ti_999, ti_1000, ti_1024, ti_99999, tm_1, tm_2, tm_3, tm_4, tm_5, tm_7, tm_11, tm_12, tm_13, tm_14, tm_100, if_pos, if_neg, if_true, if_false, bC_in, bI_s, bS_s, bX_s, bY_s, sO, tC]; omega)]
    cases hb : bst (lok N B tx (A 131) s r c) (c + 1) with
    | none => rfl
    | some b =>
      obtain ⟨q1, q2, -⟩ := b1 b hb
      have := hz b q1 q2
      have := lsub b q1 q2
      omega
  | succ k ih =>
    intro z n A1 V1 c1 ha hi hn hz
    obtain ⟨n, rfl⟩ : ∃ m, n = m + 1 := ⟨n - 1, by omega⟩
    rw [fX9_leave_L34, m_size_c hc, bI_s, if_neg (by simp (disch := omega) only [ltI, leI, eqI, tI, tI1, ti_0, ti_1, ti_2, ti_3, ti_4, ti_5, ti_6, ti_7, ti_8, ti_9, ti_10, ti_11, ti_12, ti_14, ti_18, ti_30, ti_39, ti_40, ti_41, ti_45, ti_50, ti_59, ti_97, ti_99, ti_100, ti_122, ti_160, ti_243, ti_255, ti_399, ti_999, ti_1000, ti_1024, ti_99999, tm_1, tm_2, tm_3, tm_4, tm_5, tm_7, tm_11, tm_12, tm_13, tm_14, tm_100, if_pos, if_neg, if_true, if_false, bC_in, bI_s, bS_s, bX_s, bY_s, sO, tC]; omega), sO]
    by_cases h : ∃ o, o < c + 1 ∧ ct (bt o) = z ∧ lok N B tx (A 131) s r c o = true
    · obtain ⟨c0, k1, k2, k3⟩ := h
      cases hb : bst (lok N B tx (A 131) s r c) (c + 1) with
      | none => rw [b2 hb c0 k1] at k3; cases k3
      | some b =>
        obtain ⟨q1, q2, q3⟩ := b1 b hb
        have hbz : ct (bt b) = z := by
          have := hz b q1 q2
          rcases q3 c0 k1 k3 with q | q <;> omega
        refine r_leave2 hv hc hC hs r z (by omega) _ q1 hbz q2 b 0 FU A1 V1 c1 ha (by omega) (fu_gt (by omega)) ?_
        rintro c' - h2 ⟨h3, h4⟩
        rcases q3 c' (by omega) h4 with q | q <;> omega
    · obtain ⟨A2, V2, c2, w1, w2⟩ := r_leave1 hv hc hC hs r z (by omega) (fun (A16 V17 : xM) (c18 : Value) => fX9_leave_L34 (nI s) (nI r) (nI c) (fun (A31 V32 : xM) (c33 : Value) => some ((-1 : Int32), A31, V32, c33)) n (nI (z + 1)) A16 V17 c18) (c + 1) 0 FU A1 V1 c1 ha (by omega) (fu_gt (by omega)) (fun o' _ h2 h3 => h ⟨o', h2, h3⟩)
      obtain ⟨A3, V3, c3, x1, x2⟩ := ih (z + 1) n A2 V2 c2 w2 (by omega) (by omega) (fun o h1 h2 => by
        have := hz o h1 h2
        have : ct (bt o) ≠ z := fun q => h ⟨o, h1, q, h2⟩
        omega)
      exact ⟨A3, V3, c3, Eq.trans w1 x1, x2⟩
/-! ends -/
def eok (N : Nat → Nat) (B : Nat → Nat → Nat) (tx : List xh_T) (f0 : Nat → Int32) (p r s : Nat) (c : Nat) : Bool := bt c p && (Nat.ble (ct (bt c)) (B 1 r) && mf N B tx f0 s r (bt c))
def ovr (N : Nat → Nat) (B : Nat → Nat → Nat) (tx : List xh_T) (f0 : Nat → Int32) (p r s : Nat) : Bool := (List.range (2 ^ N 1)).all (fun c => !eok N B tx f0 p r s c)
theorem ovr_t {f0 : Nat → Int32} {p r s : Nat} (h : ∀ c, c < 2 ^ N 1 → eok N B tx f0 p r s c = false) : ovr N B tx f0 p r s = true := by
  unfold ovr
  rw [List.all_eq_true]
  intro c hc
  rw [List.mem_range] at hc
  rw [h c hc]
  rfl
theorem ovr_f {f0 : Nat → Int32} {p r s c : Nat} (hc : c < 2 ^ N 1) (h : eok N B tx f0 p r s c = true) : ovr N B tx f0 p r s = false := by
  cases q : ovr N B tx f0 p r s with
  | false => rfl
  | true =>
    unfold ovr at q
    rw [List.all_eq_true] at q
    have := q c (List.mem_range.mpr hc)
    rw [h] at this
    cases this
theorem bt_sh {c p : Nat} (hc : c < 32) (hp : p < 5) : (nI c >>> (nI p &&& 31)) &&& 1 = nI (bt c p).toNat := by
  have := mk5_sh (bt c) hp
  rw [bt_mk c hc] at this
  exact this
theorem c_over (hv : iv N B A V tx cu) {p r s : Nat} (hp : p < 5) (hr : r < 4) (hs : s < 6) : ∀ k c n (A1 V1 : xM) (c1 : Value), agr A V A1 V1 → c + k = 2 ^ N 1 → k < n → (∀ c', c' < c → eok N B tx (A 131) p r s c' = false) → ∃ A2 V2 c2, fX8_isOverFor_L3 tx (nI p) (nI s) (nI r) (fun (A19 V20 : xM) (c21 : Value) => some ((1 : Int32), A19, V20, c21)) n (nI c) A1 V1 c1 = some (nI (ovr N B tx (A 131) p r s).toNat, A2, V2, c2) ∧ agr A V A2 V2 := by
  obtain ⟨v1, v2, v3, -⟩ := id hv
  obtain ⟨-, ⟨p1, p2, p3⟩, -⟩ := v1
  have h32 := p2_32 _ p3
  have hq := sh_q (N 1) (by omega)
  have hpos := Nat.two_pow_pos (N 1)
  obtain ⟨r1, r2, r3, r4⟩ := v3 r hr
  intro k
  induction k with
  | zero =>
    intro c n A1 V1 c1 ha hi hn hno
    obtain ⟨n, rfl⟩ : ∃ m, n = m + 1 := ⟨n - 1, by omega⟩
    have e := (ha.2 65 3 rfl).trans p1
    refine ⟨A1, V1, c1, ?_, ha⟩
    rw [fX8_isOverFor_L3, e, hq, if_pos (by simp (disch := omega) only [ltI, leI, eqI, tI, tI1, ti_0, ti_1, ti_2, ti_3, ti_4, ti_5, ti_6, ti_7, ti_8, ti_9, ti_10, ti_11, ti_12, ti_14, ti_18, ti_30, ti_39, ti_40, ti_41, ti_45, ti_50, ti_59, ti_97, ti_99, ti_100, ti_122, ti_160, ti_243, ti_255, ti_399, ti_999, ti_1000, ti_1024, ti_99999, tm_1, tm_2, tm_3, tm_4, tm_5, tm_7, tm_11, tm_12, tm_13, tm_14, tm_100, if_pos, if_neg, if_true, if_false, bC_in, bI_s, bS_s, bX_s, bY_s, sO, tC]; omega), ovr_t (fun c' h => hno c' (by omega))]
    rfl
  | succ k ih =>
    intro c n A1 V1 c1 ha hi hn hno
    obtain ⟨n, rfl⟩ : ∃ m, n = m + 1 := ⟨n - 1, by omega⟩
    have e := (ha.2 65 3 rfl).trans p1
    have e99 : A1 100 r = nI (B 1 r) := by rw [ha.1 100 rfl]; exact r1
    have hc : c < 32 := by omega
    have cc := ct_le (bt c)
    rw [fX8_isOverFor_L3, e, hq, if_neg (by simp (disch := omega) only [ltI, leI, eqI, tI, tI1, ti_0, ti_1, ti_2, ti_3, ti_4, ti_5, ti_6, ti_7, ti_8, ti_9, ti_10, ti_11, ti_12, ti_14, ti_18, ti_30, ti_39, ti_40, ti_41, ti_45, ti_50, ti_59, ti_97, ti_99, ti_100, ti_122, ti_160, ti_243, ti_255, ti_399, ti_999, ti_1000, ti_1024, ti_99999, tm_1, tm_2, tm_3, tm_4, tm_5, tm_7, tm_11, tm_12, tm_13, tm_14, tm_100, if_pos, if_neg, if_true, if_false, bC_in, bI_s, bS_s, bX_s, bY_s, sO, tC]; omega), sO, bt_sh hc hp, m_cnt_c hc, bI_s, bC_in ⟨hr, by decide⟩, tC (by omega), e99]
    have go0 : eok N B tx (A 131) p r s c = false → ∀ (A2 V2 : xM) (c2 : Value), agr A V A2 V2 → ∃ A3 V3 c3, fX8_isOverFor_L3 tx (nI p) (nI s) (nI r) (fun (A19 V20 : xM) (c21 : Value) => some ((1 : Int32), A19, V20, c21)) n (nI (c + 1)) A2 V2 c2 = some (nI (ovr N B tx (A 131) p r s).toNat, A3, V3, c3) ∧ agr A V A3 V3 := by
      intro q A2 V2 c2 h2
      refine ih (c + 1) n A2 V2 c2 h2 (by omega) (by omega) (fun c' h => ?_)
      by_cases z : c' = c
      · rw [z]; exact q
      · exact hno c' (by omega)
    cases hb : bt c p with
    | false =>
      rw [nbf, if_pos rfl]
      exact go0 (by unfold eok; rw [hb]; rfl) A1 V1 c1 ha
    | true =>
      rw [nbt, if_neg (by decide)]
      by_cases h : B 1 r < ct (bt c)
      · rw [if_pos (by simp (disch := omega) only [ltI, leI, eqI, tI, tI1, ti_0, ti_1, ti_2, ti_3, ti_4, ti_5, ti_6, ti_7, ti_8, ti_9, ti_10, ti_11, ti_12, ti_14, ti_18, ti_30, ti_39, ti_40, ti_41, ti_45, ti_50, ti_59, ti_97, ti_99, ti_100, ti_122, ti_160, ti_243, ti_255, ti_399, ti_999, ti_1000, ti_1024, ti_99999, tm_1, tm_2, tm_3, tm_4, tm_5, tm_7, tm_11, tm_12, tm_13, tm_14, tm_100, if_pos, if_neg, if_true, if_false, bC_in, bI_s, bS_s, bX_s, bY_s, sO, tC]; omega)]
        refine go0 ?_ A1 V1 c1 ha
        have : Nat.ble (ct (bt c)) (B 1 r) = false := by
          cases z : Nat.ble (ct (bt c)) (B 1 r) with
          | false => rfl
          | true => have := Nat.ble_eq.mp z; omega
        unfold eok
        rw [this, Bool.false_and, Bool.and_false]
      · have hC := bt_p p3 (show c < 2 ^ N 1 by omega)
        obtain ⟨A2, V2, w1, w2, -⟩ := c_maf hv ha c1 hC hs r
        rw [bt_mk c hc] at w1
        rw [if_neg (by simp (disch := omega) only [ltI, leI, eqI, tI, tI1, ti_0, ti_1, ti_2, ti_3, ti_4, ti_5, ti_6, ti_7, ti_8, ti_9, ti_10, ti_11, ti_12, ti_14, ti_18, ti_30, ti_39, ti_40, ti_41, ti_45, ti_50, ti_59, ti_97, ti_99, ti_100, ti_122, ti_160, ti_243, ti_255, ti_399, ti_999, ti_1000, ti_1024, ti_99999, tm_1, tm_2, tm_3, tm_4, tm_5, tm_7, tm_11, tm_12, tm_13, tm_14, tm_100, if_pos, if_neg, if_true, if_false, bC_in, bI_s, bS_s, bX_s, bY_s, sO, tC]; omega), w1, bX_s]
        cases hm : mf N B tx (A 131) s r (bt c) with
        | false =>
          rw [nbf, if_pos rfl]
          exact go0 (by unfold eok; rw [hm, Bool.and_false, Bool.and_false]) A2 V2 _ w2
        | true =>
          rw [nbt, if_neg (by decide), ovr_f (c := c) (by omega) (by unfold eok; rw [hb, hm, Nat.ble_eq.mpr (by omega)]; rfl)]
          exact ⟨A2, V2, _, rfl, w2⟩
theorem r_over (hv : iv N B A V tx cu) {p r s : Nat} (hp : p < 5) (hr : r < 4) (hs : s < 6) (l3 : Int32) (ex : Int32 → xM → xM → Value → Option (Int32 × xS)) : ∀ k c n (A1 V1 : xM) (c1 : Value), agr A V A1 V1 → c + k = 2 ^ N 1 → k < n → (∀ c', c' < c → eok N B tx (A 131) p r s c' = false) → ∃ A2 V2 c2, fX9_ends_L43 (nI p) (nI r) l3 (nI s) ex n 0 (nI c) A1 V1 c1 = ex (nI (!ovr N B tx (A 131) p r s).toNat) A2 V2 c2 ∧ agr A V A2 V2 := by
  obtain ⟨v1, v2, v3, -⟩ := id hv
  obtain ⟨-, ⟨p1, p2, p3⟩, -⟩ := v1
  have h32 := p2_32 _ p3
  have hq := sh_p (N 1) (by omega)
  obtain ⟨r1, r2, r3, r4⟩ := v3 r hr
  intro k
  induction k with
  | zero =>
    intro c n A1 V1 c1 ha hi hn hno
    obtain ⟨n, rfl⟩ : ∃ m, n = m + 1 := ⟨n - 1, by omega⟩
    have e := (ha.2 132 4 rfl).trans p2
    refine ⟨A1, V1, c1, ?_, ha⟩
    rw [fX9_ends_L43, e, hq, if_pos (by simp (disch := omega) only [ltI, leI, eqI, tI, tI1, ti_0, ti_1, ti_2, ti_3, ti_4, ti_5, ti_6, ti_7, ti_8, ti_9, ti_10, ti_11, ti_12, ti_14, ti_18, ti_30, ti_39, ti_40, ti_41, ti_45, ti_50, ti_59, ti_97, ti_99, ti_100, ti_122, ti_160, ti_243, ti_255, ti_399, ti_999, ti_1000, ti_1024, ti_99999, tm_1, tm_2, tm_3, tm_4, tm_5, tm_7, tm_11, tm_12, tm_13, tm_14, tm_100, if_pos, if_neg, if_true, if_false, bC_in, bI_s, bS_s, bX_s, bY_s, sO, tC]; omega), ovr_t (fun c' h => hno c' (by omega))]
    rfl
  | succ k ih =>
    intro c n A1 V1 c1 ha hi hn hno
    obtain ⟨n, rfl⟩ : ∃ m, n = m + 1 := ⟨n - 1, by omega⟩
    have e := (ha.2 132 4 rfl).trans p2
    have e133 : A1 134 r = nI (B 1 r) := by rw [ha.1 134 rfl]; exact r2
    have hc : c < 32 := by omega
    have cc := ct_le (bt c)
    rw [fX9_ends_L43, e, hq, if_neg (by simp (disch := omega) only [ltI, leI, eqI, tI, tI1, ti_0, ti_1, ti_2, ti_3, ti_4, ti_5, ti_6, ti_7, ti_8, ti_9, ti_10, ti_11, ti_12, ti_14, ti_18, ti_30, ti_39, ti_40, ti_41, ti_45, ti_50, ti_59, ti_97, ti_99, ti_100, ti_122, ti_160, ti_243, ti_255, ti_399, ti_999, ti_1000, ti_1024, ti_99999, tm_1, tm_2, tm_3, tm_4, tm_5, tm_7, tm_11, tm_12, tm_13, tm_14, tm_100, if_pos, if_neg, if_true, if_false, bC_in, bI_s, bS_s, bX_s, bY_s, sO, tC]; omega), if_pos rfl, sO, bt_sh hc hp, m_size_c hc, bI_s, bC_in ⟨hr, by decide⟩, tC (by omega), e133]
    have go0 : eok N B tx (A 131) p r s c = false → ∀ (A2 V2 : xM) (c2 : Value), agr A V A2 V2 → ∃ A3 V3 c3, fX9_ends_L43 (nI p) (nI r) l3 (nI s) ex n 0 (nI (c + 1)) A2 V2 c2 = ex (nI (!ovr N B tx (A 131) p r s).toNat) A3 V3 c3 ∧ agr A V A3 V3 := by
      intro q A2 V2 c2 h2
      refine ih (c + 1) n A2 V2 c2 h2 (by omega) (by omega) (fun c' h => ?_)
      by_cases z : c' = c
      · rw [z]; exact q
      · exact hno c' (by omega)
    cases hb : bt c p with
    | false =>
      rw [nbf, if_neg (by decide)]
      exact go0 (by unfold eok; rw [hb]; rfl) A1 V1 c1 ha
    | true =>
      rw [nbt, if_pos rfl]
      by_cases h : B 1 r < ct (bt c)
      · rw [if_pos (by simp (disch := omega) only [ltI, leI, eqI, tI, tI1, ti_0, ti_1, ti_2, ti_3, ti_4, ti_5, ti_6, ti_7, ti_8, ti_9, ti_10, ti_11, ti_12, ti_14, ti_18, ti_30, ti_39, ti_40, ti_41, ti_45, ti_50, ti_59, ti_97, ti_99, ti_100, ti_122, ti_160, ti_243, ti_255, ti_399, ti_999, ti_1000, ti_1024, ti_99999, tm_1, tm_2, tm_3, tm_4, tm_5, tm_7, tm_11, tm_12, tm_13, tm_14, tm_100, if_pos, if_neg, if_true, if_false, bC_in, bI_s, bS_s, bX_s, bY_s, sO, tC]; omega)]
        refine go0 ?_ A1 V1 c1 ha
        have : Nat.ble (ct (bt c)) (B 1 r) = false := by
          cases z : Nat.ble (ct (bt c)) (B 1 r) with
          | false => rfl
          | true => have := Nat.ble_eq.mp z; omega
        unfold eok
        rw [this, Bool.false_and, Bool.and_false]
      · have hC := bt_p p3 (show c < 2 ^ N 1 by omega)
        obtain ⟨A2, V2, w1, w2⟩ := r_maf hv ha c1 hC hs r
        rw [bt_mk c hc] at w1
        rw [if_neg (by simp (disch := omega) only [ltI, leI, eqI, tI, tI1, ti_0, ti_1, ti_2, ti_3, ti_4, ti_5, ti_6, ti_7, ti_8, ti_9, ti_10, ti_11, ti_12, ti_14, ti_18, ti_30, ti_39, ti_40, ti_41, ti_45, ti_50, ti_59, ti_97, ti_99, ti_100, ti_122, ti_160, ti_243, ti_255, ti_399, ti_999, ti_1000, ti_1024, ti_99999, tm_1, tm_2, tm_3, tm_4, tm_5, tm_7, tm_11, tm_12, tm_13, tm_14, tm_100, if_pos, if_neg, if_true, if_false, bC_in, bI_s, bS_s, bX_s, bY_s, sO, tC]; omega), w1, bX_s]
        cases hm : mf N B tx (A 131) s r (bt c) with
        | false =>
          rw [nbf, if_pos rfl]
          exact go0 (by unfold eok; rw [hm, Bool.and_false, Bool.and_false]) A2 V2 _ w2
        | true =>
          have hov := ovr_f (N := N) (B := B) (tx := tx) (f0 := A 131) (p := p) (r := r) (s := s) (c := c) (by omega) (by unfold eok; rw [hb, hm, Nat.ble_eq.mpr (by omega)]; rfl)
          rw [nbt, if_neg (by decide), hov]
          have e2 := (w2.2 132 4 rfl).trans p2
          refine ⟨A2, V2, c1, ?_, w2⟩
          match n, hn with
          | n + 1, _ =>
            rw [fX9_ends_L43, if_neg (show ¬ (1 : Int32) = 0 by decide), ite_self]
            rfl
theorem c_ends (hv : iv N B A V tx cu) {p r : Nat} (hp : p < 5) (hr : r < 4) (ex : Int32 → xM → xM → Value → Option (Int32 × xS)) : ∀ k i n (A1 V1 : xM) (c1 : Value), agr A V A1 V1 → i + k = N 0 → k < n → ∃ A2 V2 c2, fX8_ends_L26 tx (nI p) (nI r) ex n (nI (fb (fun s => ovr N B tx (A 131) p r s) i)) (nI i) A1 V1 c1 = ex (nI (fb (fun s => ovr N B tx (A 131) p r s) (N 0))) A2 V2 c2 ∧ agr A V A2 V2 := by
  obtain ⟨⟨s1, s2, s3⟩, ⟨p1, p2, p3⟩, -⟩ := id hv.1
  have h32 := p2_32 _ p3
  intro k
  induction k with
  | zero =>
    intro i n A1 V1 c1 ha hi hn
    obtain ⟨n, rfl⟩ : ∃ m, n = m + 1 := ⟨n - 1, by omega⟩
    have : i = N 0 := by omega
    have e := (ha.2 64 13 rfl).trans s1
    refine ⟨A1, V1, c1, ?_, ha⟩
    rw [fX8_ends_L26, this, if_pos (by simp (disch := omega) only [ltI, leI, eqI, tI, tI1, ti_0, ti_1, ti_2, ti_3, ti_4, ti_5, ti_6, ti_7, ti_8, ti_9, ti_10, ti_11, ti_12, ti_14, ti_18, ti_30, ti_39, ti_40, ti_41, ti_45, ti_50, ti_59, ti_97, ti_99, ti_100, ti_122, ti_160, ti_243, ti_255, ti_399, ti_999, ti_1000, ti_1024, ti_99999, tm_1, tm_2, tm_3, tm_4, tm_5, tm_7, tm_11, tm_12, tm_13, tm_14, tm_100, if_pos, if_neg, if_true, if_false, bC_in, bI_s, bS_s, bX_s, bY_s, sO, tC, e]; omega)]
  | succ k ih =>
    intro i n A1 V1 c1 ha hi hn
    obtain ⟨n, rfl⟩ : ∃ m, n = m + 1 := ⟨n - 1, by omega⟩
    have e := (ha.2 64 13 rfl).trans s1
    obtain ⟨A2, V2, c2, w1, w2⟩ := c_over hv hp hr (s := i) (by omega) (2 ^ N 1) 0 FU A1 V1 c1 ha (by omega) (fu_gt (by omega)) (fun c' h => by omega)
    have w1 : fX8_isOverFor tx (nI p) (nI i) (nI r) A1 V1 c1 = some (nI (ovr N B tx (A 131) p r i).toNat, A2, V2, c2) := w1
    rw [fX8_ends_L26, if_neg (by simp (disch := omega) only [ltI, leI, eqI, tI, tI1, ti_0, ti_1, ti_2, ti_3, ti_4, ti_5, ti_6, ti_7, ti_8, ti_9, ti_10, ti_11, ti_12, ti_14, ti_18, ti_30, ti_39, ti_40, ti_41, ti_45, ti_50, ti_59, ti_97, ti_99, ti_100, ti_122, ti_160, ti_243, ti_255, ti_399, ti_999, ti_1000, ti_1024, ti_99999, tm_1, tm_2, tm_3, tm_4, tm_5, tm_7, tm_11, tm_12, tm_13, tm_14, tm_100, if_pos, if_neg, if_true, if_false, bC_in, bI_s, bS_s, bX_s, bY_s, sO, tC, e]; omega), if_neg (by simp (disch := omega) only [ltI, leI, eqI, tI, tI1, ti_0, ti_1, ti_2, ti_3, ti_4, ti_5, ti_6, ti_7, ti_8, ti_9, ti_10, ti_11, ti_12, ti_14, ti_18, ti_30, ti_39, ti_40, ti_41, ti_45, ti_50, ti_59, ti_97, ti_99, ti_100, ti_122, ti_160, ti_243, ti_255, ti_399, ti_999, ti_1000, ti_1024, ti_99999, tm_1, tm_2, tm_3, tm_4, tm_5, tm_7, tm_11, tm_12, tm_13, tm_14, tm_100, if_pos, if_neg, if_true, if_false, bC_in, bI_s, bS_s, bX_s, bY_s, sO, tC]; omega), w1, bX_s, sO]
    have t := ih (i + 1) n A2 V2 c2 w2 (by omega) (by omega)
    cases hm : ovr N B tx (A 131) p r i with
    | false =>
      rw [nbf, if_pos rfl]
      rw [fb_f (f := fun s => ovr N B tx (A 131) p r s) hm] at t
      exact t
    | true =>
      rw [nbt, if_neg (by decide), fb_t (f := fun s => ovr N B tx (A 131) p r s) (by omega) hm]
      exact t
theorem r_ends (hv : iv N B A V tx cu) {p r : Nat} (hp : p < 5) (hr : r < 4) (ex : Int32 → xM → xM → Value → Option (Int32 × xS)) : ∀ k i n (A1 V1 : xM) (c1 : Value), agr A V A1 V1 → i + k = N 0 → k < n → ∃ A2 V2 c2, fX9_ends_L28 (nI p) (nI r) ex n (nI (fb (fun s => ovr N B tx (A 131) p r s) i)) (nI i) A1 V1 c1 = ex (nI (fb (fun s => ovr N B tx (A 131) p r s) (N 0))) A2 V2 c2 ∧ agr A V A2 V2 := by
  obtain ⟨⟨s1, s2, s3⟩, ⟨p1, p2, p3⟩, -⟩ := id hv.1
  have h32 := p2_32 _ p3
  have hpos := Nat.two_pow_pos (N 1)
  intro k
  induction k with
  | zero =>
    intro i n A1 V1 c1 ha hi hn
    obtain ⟨n, rfl⟩ : ∃ m, n = m + 1 := ⟨n - 1, by omega⟩
    have : i = N 0 := by omega
    have e := (ha.2 132 2 rfl).trans s2
    refine ⟨A1, V1, c1, ?_, ha⟩
    rw [fX9_ends_L28, this, if_pos (by simp (disch := omega) only [ltI, leI, eqI, tI, tI1, ti_0, ti_1, ti_2, ti_3, ti_4, ti_5, ti_6, ti_7, ti_8, ti_9, ti_10, ti_11, ti_12, ti_14, ti_18, ti_30, ti_39, ti_40, ti_41, ti_45, ti_50, ti_59, ti_97, ti_99, ti_100, ti_122, ti_160, ti_243, ti_255, ti_399, ti_999, ti_1000, ti_1024, ti_99999, tm_1, tm_2, tm_3, tm_4, tm_5, tm_7, tm_11, tm_12, tm_13, tm_14, tm_100, if_pos, if_neg, if_true, if_false, bC_in, bI_s, bS_s, bX_s, bY_s, sO, tC, e]; omega)]
  | succ k ih =>
    intro i n A1 V1 c1 ha hi hn
    obtain ⟨n, rfl⟩ : ∃ m, n = m + 1 := ⟨n - 1, by omega⟩
    have e := (ha.2 132 2 rfl).trans s2
    obtain ⟨A2, V2, c2, w1, w2⟩ := r_over hv hp hr (s := i) (by omega) (nI (fb (fun s => ovr N B tx (A 131) p r s) i)) (fun (l5_15 : Int32) (A17 V18 : xM) (c19 : Value) => if l5_15 = 0 then (fX9_ends_L28 (nI p) (nI r) ex n ((nI (fb (fun s => ovr N B tx (A 131) p r s) i)) ||| ((1 : Int32) <<< (nI i &&& 31))) (nI (i + 1)) A17 V18 c19) else (fX9_ends_L28 (nI p) (nI r) ex n ((nI (fb (fun s => ovr N B tx (A 131) p r s) i)) ||| (0 : Int32)) (nI (i + 1)) A17 V18 c19)) (2 ^ N 1 - 1) 1 FU A1 V1 c1 ha (by omega) (fu_gt (by omega)) (fun c' h => by
      have : c' = 0 := by omega
      subst this
      unfold eok
      rw [show bt 0 p = false by unfold bt; simp]
      rfl)
    have t := ih (i + 1) n A2 V2 c2 w2 (by omega) (by omega)
    obtain ⟨A3, V3, c3, t1, t2⟩ := t
    refine ⟨A3, V3, c3, ?_, t2⟩
    rw [fX9_ends_L28, if_neg (by simp (disch := omega) only [ltI, leI, eqI, tI, tI1, ti_0, ti_1, ti_2, ti_3, ti_4, ti_5, ti_6, ti_7, ti_8, ti_9, ti_10, ti_11, ti_12, ti_14, ti_18, ti_30, ti_39, ti_40, ti_41, ti_45, ti_50, ti_59, ti_97, ti_99, ti_100, ti_122, ti_160, ti_243, ti_255, ti_399, ti_999, ti_1000, ti_1024, ti_99999, tm_1, tm_2, tm_3, tm_4, tm_5, tm_7, tm_11, tm_12, tm_13, tm_14, tm_100, if_pos, if_neg, if_true, if_false, bC_in, bI_s, bS_s, bX_s, bY_s, sO, tC, e]; omega), sO]
    refine Eq.trans w1 ?_
    cases hm : ovr N B tx (A 131) p r i with
    | false =>
      rw [fb_f (f := fun s => ovr N B tx (A 131) p r s) hm] at t1
      rw [if_neg (by decide), or0]
      exact t1
    | true =>
      rw [if_pos (by decide), fb_t (f := fun s => ovr N B tx (A 131) p r s) (by omega) hm]
      exact t1
end BA
section OPS53
variable {LL : Nat} {xs : Nat → Int32} {d : Nat}
theorem op_leave (hd : 75 ≤ d) (a0 a b : Int32) : iv_op (xk_ro LL xs) d 91 184 [.int a0, .int a, .int b] := by
  refine op_mk (fc := fun tx A V cu => fX8_leave tx a0 a b A V cu) (fm := fun tx A V cu => fX9_leave a0 a b A V cu) (fun tx A V cu r A' V' c' q => sX8_leave (by omega) q) (fun tx A V cu r A' V' c' q => sX9_leave (by omega) q) ?_
  intro N B A V tx cu hv
  obtain ⟨⟨s1, s2, s3⟩, ⟨p1, p2, p3⟩, -⟩ := id hv.1
  have hsp := sh_p (N 1) (by omega)
  have h32 := p2_32 _ p3
  unfold fX8_leave fX9_leave
  rw [s1]
  rcases ix3 a0 (N 0) (by omega) with h | h | ⟨s, hs, rfl⟩
  · exact ⟨-5, A, V, cu, by simp (disch := omega) only [ltI, leI, eqI, tI, tI1, ti_0, ti_1, ti_2, ti_3, ti_4, ti_5, ti_6, ti_7, ti_8, ti_9, ti_10, ti_11, ti_12, ti_14, ti_18, ti_30, ti_39, ti_40, ti_41, ti_45, ti_50, ti_59, ti_97, ti_99, ti_100, ti_122, ti_160, ti_243, ti_255, ti_399, ti_999, ti_1000, ti_1024, ti_99999, tm_1, tm_2, tm_3, tm_4, tm_5, tm_7, tm_11, tm_12, tm_13, tm_14, tm_100, if_pos, if_neg, if_true, if_false, bC_in, bI_s, bS_s, bX_s, bY_s, sO, tC], A, V, cu, by simp (disch := omega) only [ltI, leI, eqI, tI, tI1, ti_0, ti_1, ti_2, ti_3, ti_4, ti_5, ti_6, ti_7, ti_8, ti_9, ti_10, ti_11, ti_12, ti_14, ti_18, ti_30, ti_39, ti_40, ti_41, ti_45, ti_50, ti_59, ti_97, ti_99, ti_100, ti_122, ti_160, ti_243, ti_255, ti_399, ti_999, ti_1000, ti_1024, ti_99999, tm_1, tm_2, tm_3, tm_4, tm_5, tm_7, tm_11, tm_12, tm_13, tm_14, tm_100, if_pos, if_neg, if_true, if_false, bC_in, bI_s, bS_s, bX_s, bY_s, sO, tC, s2], N, B, hv⟩
  · exact ⟨-5, A, V, cu, by simp (disch := omega) only [ltI, leI, eqI, tI, tI1, ti_0, ti_1, ti_2, ti_3, ti_4, ti_5, ti_6, ti_7, ti_8, ti_9, ti_10, ti_11, ti_12, ti_14, ti_18, ti_30, ti_39, ti_40, ti_41, ti_45, ti_50, ti_59, ti_97, ti_99, ti_100, ti_122, ti_160, ti_243, ti_255, ti_399, ti_999, ti_1000, ti_1024, ti_99999, tm_1, tm_2, tm_3, tm_4, tm_5, tm_7, tm_11, tm_12, tm_13, tm_14, tm_100, if_pos, if_neg, if_true, if_false, bC_in, bI_s, bS_s, bX_s, bY_s, sO, tC], A, V, cu, by simp (disch := omega) only [ltI, leI, eqI, tI, tI1, ti_0, ti_1, ti_2, ti_3, ti_4, ti_5, ti_6, ti_7, ti_8, ti_9, ti_10, ti_11, ti_12, ti_14, ti_18, ti_30, ti_39, ti_40, ti_41, ti_45, ti_50, ti_59, ti_97, ti_99, ti_100, ti_122, ti_160, ti_243, ti_255, ti_399, ti_999, ti_1000, ti_1024, ti_99999, tm_1, tm_2, tm_3, tm_4, tm_5, tm_7, tm_11, tm_12, tm_13, tm_14, tm_100, if_pos, if_neg, if_true, if_false, bC_in, bI_s, bS_s, bX_s, bY_s, sO, tC, s2], N, B, hv⟩
  rcases ix3 a 4 (by omega) with h | h | ⟨r, hr, rfl⟩
  · exact ⟨-7, A, V, cu, by simp (disch := omega) only [ltI, leI, eqI, tI, tI1, ti_0, ti_1, ti_2, ti_3, ti_4, ti_5, ti_6, ti_7, ti_8, ti_9, ti_10, ti_11, ti_12, ti_14, ti_18, ti_30, ti_39, ti_40, ti_41, ti_45, ti_50, ti_59, ti_97, ti_99, ti_100, ti_122, ti_160, ti_243, ti_255, ti_399, ti_999, ti_1000, ti_1024, ti_99999, tm_1, tm_2, tm_3, tm_4, tm_5, tm_7, tm_11, tm_12, tm_13, tm_14, tm_100, if_pos, if_neg, if_true, if_false, bC_in, bI_s, bS_s, bX_s, bY_s, sO, tC], A, V, cu, by simp (disch := omega) only [ltI, leI, eqI, tI, tI1, ti_0, ti_1, ti_2, ti_3, ti_4, ti_5, ti_6, ti_7, ti_8, ti_9, ti_10, ti_11, ti_12, ti_14, ti_18, ti_30, ti_39, ti_40, ti_41, ti_45, ti_50, ti_59, ti_97, ti_99, ti_100, ti_122, ti_160, ti_243, ti_255, ti_399, ti_999, ti_1000, ti_1024, ti_99999, tm_1, tm_2, tm_3, tm_4, tm_5, tm_7, tm_11, tm_12, tm_13, tm_14, tm_100, if_pos, if_neg, if_true, if_false, bC_in, bI_s, bS_s, bX_s, bY_s, sO, tC, s2], N, B, hv⟩
  · exact ⟨-7, A, V, cu, by simp (disch := omega) only [ltI, leI, eqI, tI, tI1, ti_0, ti_1, ti_2, ti_3, ti_4, ti_5, ti_6, ti_7, ti_8, ti_9, ti_10, ti_11, ti_12, ti_14, ti_18, ti_30, ti_39, ti_40, ti_41, ti_45, ti_50, ti_59, ti_97, ti_99, ti_100, ti_122, ti_160, ti_243, ti_255, ti_399, ti_999, ti_1000, ti_1024, ti_99999, tm_1, tm_2, tm_3, tm_4, tm_5, tm_7, tm_11, tm_12, tm_13, tm_14, tm_100, if_pos, if_neg, if_true, if_false, bC_in, bI_s, bS_s, bX_s, bY_s, sO, tC], A, V, cu, by simp (disch := omega) only [ltI, leI, eqI, tI, tI1, ti_0, ti_1, ti_2, ti_3, ti_4, ti_5, ti_6, ti_7, ti_8, ti_9, ti_10, ti_11, ti_12, ti_14, ti_18, ti_30, ti_39, ti_40, ti_41, ti_45, ti_50, ti_59, ti_97, ti_99, ti_100, ti_122, ti_160, ti_243, ti_255, ti_399, ti_999, ti_1000, ti_1024, ti_99999, tm_1, tm_2, tm_3, tm_4, tm_5, tm_7, tm_11, tm_12, tm_13, tm_14, tm_100, if_pos, if_neg, if_true, if_false, bC_in, bI_s, bS_s, bX_s, bY_s, sO, tC, s2], N, B, hv⟩
  rw [p1]
  rcases ppl b p3 with ⟨h1, c, hc, rfl⟩ | ⟨h1, h2⟩
  · have hC := bt_p p3 hc
    have hc32 : c < 32 := by omega
    have ec := bt_mk c hc32
    obtain ⟨A1, V1, c1, w1, w2⟩ := c_leave hv hc32 hC (s := s) (by omega) r (fun (l4_29 : Int32) (A36 V37 : xM) (c38 : Value) => some (l4_29, A36, V37, c38)) (c + 1) 0 FU A V cu (agr_r A V) (by omega) (fu_gt (by omega))
    have hv1 : iv N B A1 V1 tx c1 := iv_agr w2 hv
    have cc := ct_le (bt c)
    obtain ⟨A2, V2, c2, y1, y2⟩ := r_leave hv1 hc32 hC (s := s) (by omega) r (ct (bt c) + 1) 0 FU A1 V1 c1 (agr_r A1 V1) (by omega) (fu_gt (by omega)) (fun _ _ _ => Nat.zero_le _)
    rw [w2.1 131 rfl] at y1
    have e4 : V1 132 4 = nI (N 1) := (w2.2 132 4 rfl).trans p2
    have e2 : V1 132 2 = nI (N 0) := (w2.2 132 2 rfl).trans s2
    refine ⟨ob (bst (lok N B tx (A 131) s r c) (c + 1)), A1, V1, c1, ?_, A2, V2, c2, ?_, N, B, iv_agr y2 hv1⟩
    · rw [if_neg (by simp (disch := omega) only [ltI, leI, eqI, tI, tI1, ti_0, ti_1, ti_2, ti_3, ti_4, ti_5, ti_6, ti_7, ti_8, ti_9, ti_10, ti_11, ti_12, ti_14, ti_18, ti_30, ti_39, ti_40, ti_41, ti_45, ti_50, ti_59, ti_97, ti_99, ti_100, ti_122, ti_160, ti_243, ti_255, ti_399, ti_999, ti_1000, ti_1024, ti_99999, tm_1, tm_2, tm_3, tm_4, tm_5, tm_7, tm_11, tm_12, tm_13, tm_14, tm_100, if_pos, if_neg, if_true, if_false, bC_in, bI_s, bS_s, bX_s, bY_s, sO, tC]; omega), if_neg (by simp (disch := omega) only [ltI, leI, eqI, tI, tI1, ti_0, ti_1, ti_2, ti_3, ti_4, ti_5, ti_6, ti_7, ti_8, ti_9, ti_10, ti_11, ti_12, ti_14, ti_18, ti_30, ti_39, ti_40, ti_41, ti_45, ti_50, ti_59, ti_97, ti_99, ti_100, ti_122, ti_160, ti_243, ti_255, ti_399, ti_999, ti_1000, ti_1024, ti_99999, tm_1, tm_2, tm_3, tm_4, tm_5, tm_7, tm_11, tm_12, tm_13, tm_14, tm_100, if_pos, if_neg, if_true, if_false, bC_in, bI_s, bS_s, bX_s, bY_s, sO, tC]; omega), if_neg (by simp (disch := omega) only [ltI, leI, eqI, tI, tI1, ti_0, ti_1, ti_2, ti_3, ti_4, ti_5, ti_6, ti_7, ti_8, ti_9, ti_10, ti_11, ti_12, ti_14, ti_18, ti_30, ti_39, ti_40, ti_41, ti_45, ti_50, ti_59, ti_97, ti_99, ti_100, ti_122, ti_160, ti_243, ti_255, ti_399, ti_999, ti_1000, ti_1024, ti_99999, tm_1, tm_2, tm_3, tm_4, tm_5, tm_7, tm_11, tm_12, tm_13, tm_14, tm_100, if_pos, if_neg, if_true, if_false, bC_in, bI_s, bS_s, bX_s, bY_s, sO, tC]; omega), if_neg (by simp (disch := omega) only [ltI, leI, eqI, tI, tI1, ti_0, ti_1, ti_2, ti_3, ti_4, ti_5, ti_6, ti_7, ti_8, ti_9, ti_10, ti_11, ti_12, ti_14, ti_18, ti_30, ti_39, ti_40, ti_41, ti_45, ti_50, ti_59, ti_97, ti_99, ti_100, ti_122, ti_160, ti_243, ti_255, ti_399, ti_999, ti_1000, ti_1024, ti_99999, tm_1, tm_2, tm_3, tm_4, tm_5, tm_7, tm_11, tm_12, tm_13, tm_14, tm_100, if_pos, if_neg, if_true, if_false, bC_in, bI_s, bS_s, bX_s, bY_s, sO, tC]; omega), if_neg (by simp (disch := omega) only [ltI, leI, eqI, tI, tI1, ti_0, ti_1, ti_2, ti_3, ti_4, ti_5, ti_6, ti_7, ti_8, ti_9, ti_10, ti_11, ti_12, ti_14, ti_18, ti_30, ti_39, ti_40, ti_41, ti_45, ti_50, ti_59, ti_97, ti_99, ti_100, ti_122, ti_160, ti_243, ti_255, ti_399, ti_999, ti_1000, ti_1024, ti_99999, tm_1, tm_2, tm_3, tm_4, tm_5, tm_7, tm_11, tm_12, tm_13, tm_14, tm_100, if_pos, if_neg, if_true, if_false, bC_in, bI_s, bS_s, bX_s, bY_s, sO, tC]; omega), if_pos h1]
      exact w1
    · rw [e4, hsp, e2]
      simp (disch := omega) only [ltI, leI, eqI, tI, tI1, ti_0, ti_1, ti_2, ti_3, ti_4, ti_5, ti_6, ti_7, ti_8, ti_9, ti_10, ti_11, ti_12, ti_14, ti_18, ti_30, ti_39, ti_40, ti_41, ti_45, ti_50, ti_59, ti_97, ti_99, ti_100, ti_122, ti_160, ti_243, ti_255, ti_399, ti_999, ti_1000, ti_1024, ti_99999, tm_1, tm_2, tm_3, tm_4, tm_5, tm_7, tm_11, tm_12, tm_13, tm_14, tm_100, if_pos, if_neg, if_true, if_false, bC_in, bI_s, bS_s, bX_s, bY_s, sO, tC]
      exact y1
  · refine ⟨-7, A, V, cu, ?_, A, V, cu, ?_, N, B, hv⟩
    · rw [if_neg (by simp (disch := omega) only [ltI, leI, eqI, tI, tI1, ti_0, ti_1, ti_2, ti_3, ti_4, ti_5, ti_6, ti_7, ti_8, ti_9, ti_10, ti_11, ti_12, ti_14, ti_18, ti_30, ti_39, ti_40, ti_41, ti_45, ti_50, ti_59, ti_97, ti_99, ti_100, ti_122, ti_160, ti_243, ti_255, ti_399, ti_999, ti_1000, ti_1024, ti_99999, tm_1, tm_2, tm_3, tm_4, tm_5, tm_7, tm_11, tm_12, tm_13, tm_14, tm_100, if_pos, if_neg, if_true, if_false, bC_in, bI_s, bS_s, bX_s, bY_s, sO, tC]; omega), if_neg (by simp (disch := omega) only [ltI, leI, eqI, tI, tI1, ti_0, ti_1, ti_2, ti_3, ti_4, ti_5, ti_6, ti_7, ti_8, ti_9, ti_10, ti_11, ti_12, ti_14, ti_18, ti_30, ti_39, ti_40, ti_41, ti_45, ti_50, ti_59, ti_97, ti_99, ti_100, ti_122, ti_160, ti_243, ti_255, ti_399, ti_999, ti_1000, ti_1024, ti_99999, tm_1, tm_2, tm_3, tm_4, tm_5, tm_7, tm_11, tm_12, tm_13, tm_14, tm_100, if_pos, if_neg, if_true, if_false, bC_in, bI_s, bS_s, bX_s, bY_s, sO, tC]; omega), if_neg (by simp (disch := omega) only [ltI, leI, eqI, tI, tI1, ti_0, ti_1, ti_2, ti_3, ti_4, ti_5, ti_6, ti_7, ti_8, ti_9, ti_10, ti_11, ti_12, ti_14, ti_18, ti_30, ti_39, ti_40, ti_41, ti_45, ti_50, ti_59, ti_97, ti_99, ti_100, ti_122, ti_160, ti_243, ti_255, ti_399, ti_999, ti_1000, ti_1024, ti_99999, tm_1, tm_2, tm_3, tm_4, tm_5, tm_7, tm_11, tm_12, tm_13, tm_14, tm_100, if_pos, if_neg, if_true, if_false, bC_in, bI_s, bS_s, bX_s, bY_s, sO, tC]; omega), if_neg (by simp (disch := omega) only [ltI, leI, eqI, tI, tI1, ti_0, ti_1, ti_2, ti_3, ti_4, ti_5, ti_6, ti_7, ti_8, ti_9, ti_10, ti_11, ti_12, ti_14, ti_18, ti_30, ti_39, ti_40, ti_41, ti_45, ti_50, ti_59, ti_97, ti_99, ti_100, ti_122, ti_160, ti_243, ti_255, ti_399, ti_999, ti_1000, ti_1024, ti_99999, tm_1, tm_2, tm_3, tm_4, tm_5, tm_7, tm_11, tm_12, tm_13, tm_14, tm_100, if_pos, if_neg, if_true, if_false, bC_in, bI_s, bS_s, bX_s, bY_s, sO, tC]; omega), if_neg (by simp (disch := omega) only [ltI, leI, eqI, tI, tI1, ti_0, ti_1, ti_2, ti_3, ti_4, ti_5, ti_6, ti_7, ti_8, ti_9, ti_10, ti_11, ti_12, ti_14, ti_18, ti_30, ti_39, ti_40, ti_41, ti_45, ti_50, ti_59, ti_97, ti_99, ti_100, ti_122, ti_160, ti_243, ti_255, ti_399, ti_999, ti_1000, ti_1024, ti_99999, tm_1, tm_2, tm_3, tm_4, tm_5, tm_7, tm_11, tm_12, tm_13, tm_14, tm_100, if_pos, if_neg, if_true, if_false, bC_in, bI_s, bS_s, bX_s, bY_s, sO, tC]; omega), if_neg h1]
    · rw [p2, hsp, s2]
      generalize 2 ^ N 1 = M at *
      rcases h2 with h2 | h2
      · simp (disch := omega) only [ltI, leI, eqI, tI, tI1, ti_0, ti_1, ti_2, ti_3, ti_4, ti_5, ti_6, ti_7, ti_8, ti_9, ti_10, ti_11, ti_12, ti_14, ti_18, ti_30, ti_39, ti_40, ti_41, ti_45, ti_50, ti_59, ti_97, ti_99, ti_100, ti_122, ti_160, ti_243, ti_255, ti_399, ti_999, ti_1000, ti_1024, ti_99999, tm_1, tm_2, tm_3, tm_4, tm_5, tm_7, tm_11, tm_12, tm_13, tm_14, tm_100, if_pos, if_neg, if_true, if_false, bC_in, bI_s, bS_s, bX_s, bY_s, sO, tC]
      · by_cases h3 : b.toInt < 0
        · omega
        · simp (disch := omega) only [ltI, leI, eqI, tI, tI1, ti_0, ti_1, ti_2, ti_3, ti_4, ti_5, ti_6, ti_7, ti_8, ti_9, ti_10, ti_11, ti_12, ti_14, ti_18, ti_30, ti_39, ti_40, ti_41, ti_45, ti_50, ti_59, ti_97, ti_99, ti_100, ti_122, ti_160, ti_243, ti_255, ti_399, ti_999, ti_1000, ti_1024, ti_99999, tm_1, tm_2, tm_3, tm_4, tm_5, tm_7, tm_11, tm_12, tm_13, tm_14, tm_100, if_pos, if_neg, if_true, if_false, bC_in, bI_s, bS_s, bX_s, bY_s, sO, tC]
theorem op_bars (hd : 75 ≤ d) (a0 a b : Int32) : iv_op (xk_ro LL xs) d 92 185 [.int a0, .int a, .int b] := by
  refine op_mk (fc := fun tx A V cu => fX8_bars tx a0 a b A V cu) (fm := fun tx A V cu => fX9_bars a0 a b A V cu) (fun tx A V cu r A' V' c' q => sX8_bars (by omega) q) (fun tx A V cu r A' V' c' q => sX9_bars (by omega) q) ?_
  intro N B A V tx cu hv
  obtain ⟨⟨s1, s2, s3⟩, ⟨p1, p2, p3⟩, -⟩ := id hv.1
  have hsp := sh_p (N 1) (by omega)
  have h32 := p2_32 _ p3
  unfold fX8_bars fX9_bars
  rw [s1]
  rcases ix3 a0 (N 0) (by omega) with h | h | ⟨s, hs, rfl⟩
  · exact ⟨-5, A, V, cu, by simp (disch := omega) only [ltI, leI, eqI, tI, tI1, ti_0, ti_1, ti_2, ti_3, ti_4, ti_5, ti_6, ti_7, ti_8, ti_9, ti_10, ti_11, ti_12, ti_14, ti_18, ti_30, ti_39, ti_40, ti_41, ti_45, ti_50, ti_59, ti_97, ti_99, ti_100, ti_122, ti_160, ti_243, ti_255, ti_399, ti_999, ti_1000, ti_1024, ti_99999, tm_1, tm_2, tm_3, tm_4, tm_5, tm_7, tm_11, tm_12, tm_13, tm_14, tm_100, if_pos, if_neg, if_true, if_false, bC_in, bI_s, bS_s, bX_s, bY_s, sO, tC], A, V, cu, by simp (disch := omega) only [ltI, leI, eqI, tI, tI1, ti_0, ti_1, ti_2, ti_3, ti_4, ti_5, ti_6, ti_7, ti_8, ti_9, ti_10, ti_11, ti_12, ti_14, ti_18, ti_30, ti_39, ti_40, ti_41, ti_45, ti_50, ti_59, ti_97, ti_99, ti_100, ti_122, ti_160, ti_243, ti_255, ti_399, ti_999, ti_1000, ti_1024, ti_99999, tm_1, tm_2, tm_3, tm_4, tm_5, tm_7, tm_11, tm_12, tm_13, tm_14, tm_100, if_pos, if_neg, if_true, if_false, bC_in, bI_s, bS_s, bX_s, bY_s, sO, tC, s2], N, B, hv⟩
  · exact ⟨-5, A, V, cu, by simp (disch := omega) only [ltI, leI, eqI, tI, tI1, ti_0, ti_1, ti_2, ti_3, ti_4, ti_5, ti_6, ti_7, ti_8, ti_9, ti_10, ti_11, ti_12, ti_14, ti_18, ti_30, ti_39, ti_40, ti_41, ti_45, ti_50, ti_59, ti_97, ti_99, ti_100, ti_122, ti_160, ti_243, ti_255, ti_399, ti_999, ti_1000, ti_1024, ti_99999, tm_1, tm_2, tm_3, tm_4, tm_5, tm_7, tm_11, tm_12, tm_13, tm_14, tm_100, if_pos, if_neg, if_true, if_false, bC_in, bI_s, bS_s, bX_s, bY_s, sO, tC], A, V, cu, by simp (disch := omega) only [ltI, leI, eqI, tI, tI1, ti_0, ti_1, ti_2, ti_3, ti_4, ti_5, ti_6, ti_7, ti_8, ti_9, ti_10, ti_11, ti_12, ti_14, ti_18, ti_30, ti_39, ti_40, ti_41, ti_45, ti_50, ti_59, ti_97, ti_99, ti_100, ti_122, ti_160, ti_243, ti_255, ti_399, ti_999, ti_1000, ti_1024, ti_99999, tm_1, tm_2, tm_3, tm_4, tm_5, tm_7, tm_11, tm_12, tm_13, tm_14, tm_100, if_pos, if_neg, if_true, if_false, bC_in, bI_s, bS_s, bX_s, bY_s, sO, tC, s2], N, B, hv⟩
  rcases ix3 a 4 (by omega) with h | h | ⟨r, hr, rfl⟩
  · exact ⟨-7, A, V, cu, by simp (disch := omega) only [ltI, leI, eqI, tI, tI1, ti_0, ti_1, ti_2, ti_3, ti_4, ti_5, ti_6, ti_7, ti_8, ti_9, ti_10, ti_11, ti_12, ti_14, ti_18, ti_30, ti_39, ti_40, ti_41, ti_45, ti_50, ti_59, ti_97, ti_99, ti_100, ti_122, ti_160, ti_243, ti_255, ti_399, ti_999, ti_1000, ti_1024, ti_99999, tm_1, tm_2, tm_3, tm_4, tm_5, tm_7, tm_11, tm_12, tm_13, tm_14, tm_100, if_pos, if_neg, if_true, if_false, bC_in, bI_s, bS_s, bX_s, bY_s, sO, tC], A, V, cu, by simp (disch := omega) only [ltI, leI, eqI, tI, tI1, ti_0, ti_1, ti_2, ti_3, ti_4, ti_5, ti_6, ti_7, ti_8, ti_9, ti_10, ti_11, ti_12, ti_14, ti_18, ti_30, ti_39, ti_40, ti_41, ti_45, ti_50, ti_59, ti_97, ti_99, ti_100, ti_122, ti_160, ti_243, ti_255, ti_399, ti_999, ti_1000, ti_1024, ti_99999, tm_1, tm_2, tm_3, tm_4, tm_5, tm_7, tm_11, tm_12, tm_13, tm_14, tm_100, if_pos, if_neg, if_true, if_false, bC_in, bI_s, bS_s, bX_s, bY_s, sO, tC, s2], N, B, hv⟩
  · exact ⟨-7, A, V, cu, by simp (disch := omega) only [ltI, leI, eqI, tI, tI1, ti_0, ti_1, ti_2, ti_3, ti_4, ti_5, ti_6, ti_7, ti_8, ti_9, ti_10, ti_11, ti_12, ti_14, ti_18, ti_30, ti_39, ti_40, ti_41, ti_45, ti_50, ti_59, ti_97, ti_99, ti_100, ti_122, ti_160, ti_243, ti_255, ti_399, ti_999, ti_1000, ti_1024, ti_99999, tm_1, tm_2, tm_3, tm_4, tm_5, tm_7, tm_11, tm_12, tm_13, tm_14, tm_100, if_pos, if_neg, if_true, if_false, bC_in, bI_s, bS_s, bX_s, bY_s, sO, tC], A, V, cu, by simp (disch := omega) only [ltI, leI, eqI, tI, tI1, ti_0, ti_1, ti_2, ti_3, ti_4, ti_5, ti_6, ti_7, ti_8, ti_9, ti_10, ti_11, ti_12, ti_14, ti_18, ti_30, ti_39, ti_40, ti_41, ti_45, ti_50, ti_59, ti_97, ti_99, ti_100, ti_122, ti_160, ti_243, ti_255, ti_399, ti_999, ti_1000, ti_1024, ti_99999, tm_1, tm_2, tm_3, tm_4, tm_5, tm_7, tm_11, tm_12, tm_13, tm_14, tm_100, if_pos, if_neg, if_true, if_false, bC_in, bI_s, bS_s, bX_s, bY_s, sO, tC, s2], N, B, hv⟩
  rw [p1]
  rcases ppl b p3 with ⟨h1, c, hc, rfl⟩ | ⟨h1, h2⟩
  · have hC := bt_p p3 hc
    have hc32 : c < 32 := by omega
    have ec := bt_mk c hc32
    obtain ⟨A0, V0, q1, q2, -⟩ := c_maf hv (agr_r A V) cu hC (s := s) (by omega) r
    rw [ec] at q1
    obtain ⟨A1, V1, c1, w1, w2⟩ := c_bars hv hC (s := s) (by omega) r (fun (l4_21 : Int32) (A28 V29 : xM) (c30 : Value) => some (l4_21, A28, V29, c30)) (N 1) 0 FU A0 V0 (.ref (tref (N 3))) q2 (by omega) (fu_gt (by omega))
    rw [ec] at w1
    cases hm : mf N B tx (A 131) s r (bt c) with
    | true =>
      have hv0 : iv N B A0 V0 tx cu := iv_agr q2 hv
      obtain ⟨A2, V2, y1, y2⟩ := r_maf hv0 (agr_r A0 V0) (.ref (tref (N 3))) hC (s := s) (by omega) r
      rw [ec, q2.1 131 rfl, hm] at y1
      rw [hm] at q1
      have e4 : V0 132 4 = nI (N 1) := (q2.2 132 4 rfl).trans p2
      have e2 : V0 132 2 = nI (N 0) := (q2.2 132 2 rfl).trans s2
      refine ⟨0, A0, V0, .ref (tref (N 3)), ?_, A2, V2, .ref (tref (N 3)), ?_, N, B, iv_agr y2 hv0⟩
      · rw [if_neg (by simp (disch := omega) only [ltI, leI, eqI, tI, tI1, ti_0, ti_1, ti_2, ti_3, ti_4, ti_5, ti_6, ti_7, ti_8, ti_9, ti_10, ti_11, ti_12, ti_14, ti_18, ti_30, ti_39, ti_40, ti_41, ti_45, ti_50, ti_59, ti_97, ti_99, ti_100, ti_122, ti_160, ti_243, ti_255, ti_399, ti_999, ti_1000, ti_1024, ti_99999, tm_1, tm_2, tm_3, tm_4, tm_5, tm_7, tm_11, tm_12, tm_13, tm_14, tm_100, if_pos, if_neg, if_true, if_false, bC_in, bI_s, bS_s, bX_s, bY_s, sO, tC]; omega), if_neg (by simp (disch := omega) only [ltI, leI, eqI, tI, tI1, ti_0, ti_1, ti_2, ti_3, ti_4, ti_5, ti_6, ti_7, ti_8, ti_9, ti_10, ti_11, ti_12, ti_14, ti_18, ti_30, ti_39, ti_40, ti_41, ti_45, ti_50, ti_59, ti_97, ti_99, ti_100, ti_122, ti_160, ti_243, ti_255, ti_399, ti_999, ti_1000, ti_1024, ti_99999, tm_1, tm_2, tm_3, tm_4, tm_5, tm_7, tm_11, tm_12, tm_13, tm_14, tm_100, if_pos, if_neg, if_true, if_false, bC_in, bI_s, bS_s, bX_s, bY_s, sO, tC]; omega), if_neg (by simp (disch := omega) only [ltI, leI, eqI, tI, tI1, ti_0, ti_1, ti_2, ti_3, ti_4, ti_5, ti_6, ti_7, ti_8, ti_9, ti_10, ti_11, ti_12, ti_14, ti_18, ti_30, ti_39, ti_40, ti_41, ti_45, ti_50, ti_59, ti_97, ti_99, ti_100, ti_122, ti_160, ti_243, ti_255, ti_399, ti_999, ti_1000, ti_1024, ti_99999, tm_1, tm_2, tm_3, tm_4, tm_5, tm_7, tm_11, tm_12, tm_13, tm_14, tm_100, if_pos, if_neg, if_true, if_false, bC_in, bI_s, bS_s, bX_s, bY_s, sO, tC]; omega), if_neg (by simp (disch := omega) only [ltI, leI, eqI, tI, tI1, ti_0, ti_1, ti_2, ti_3, ti_4, ti_5, ti_6, ti_7, ti_8, ti_9, ti_10, ti_11, ti_12, ti_14, ti_18, ti_30, ti_39, ti_40, ti_41, ti_45, ti_50, ti_59, ti_97, ti_99, ti_100, ti_122, ti_160, ti_243, ti_255, ti_399, ti_999, ti_1000, ti_1024, ti_99999, tm_1, tm_2, tm_3, tm_4, tm_5, tm_7, tm_11, tm_12, tm_13, tm_14, tm_100, if_pos, if_neg, if_true, if_false, bC_in, bI_s, bS_s, bX_s, bY_s, sO, tC]; omega), if_neg (by simp (disch := omega) only [ltI, leI, eqI, tI, tI1, ti_0, ti_1, ti_2, ti_3, ti_4, ti_5, ti_6, ti_7, ti_8, ti_9, ti_10, ti_11, ti_12, ti_14, ti_18, ti_30, ti_39, ti_40, ti_41, ti_45, ti_50, ti_59, ti_97, ti_99, ti_100, ti_122, ti_160, ti_243, ti_255, ti_399, ti_999, ti_1000, ti_1024, ti_99999, tm_1, tm_2, tm_3, tm_4, tm_5, tm_7, tm_11, tm_12, tm_13, tm_14, tm_100, if_pos, if_neg, if_true, if_false, bC_in, bI_s, bS_s, bX_s, bY_s, sO, tC]; omega), if_pos h1, q1, bX_s, nbt, if_neg (by decide)]
      · rw [e4, hsp, e2]
        rw [if_neg (by simp (disch := omega) only [ltI, leI, eqI, tI, tI1, ti_0, ti_1, ti_2, ti_3, ti_4, ti_5, ti_6, ti_7, ti_8, ti_9, ti_10, ti_11, ti_12, ti_14, ti_18, ti_30, ti_39, ti_40, ti_41, ti_45, ti_50, ti_59, ti_97, ti_99, ti_100, ti_122, ti_160, ti_243, ti_255, ti_399, ti_999, ti_1000, ti_1024, ti_99999, tm_1, tm_2, tm_3, tm_4, tm_5, tm_7, tm_11, tm_12, tm_13, tm_14, tm_100, if_pos, if_neg, if_true, if_false, bC_in, bI_s, bS_s, bX_s, bY_s, sO, tC]; omega), if_neg (by simp (disch := omega) only [ltI, leI, eqI, tI, tI1, ti_0, ti_1, ti_2, ti_3, ti_4, ti_5, ti_6, ti_7, ti_8, ti_9, ti_10, ti_11, ti_12, ti_14, ti_18, ti_30, ti_39, ti_40, ti_41, ti_45, ti_50, ti_59, ti_97, ti_99, ti_100, ti_122, ti_160, ti_243, ti_255, ti_399, ti_999, ti_1000, ti_1024, ti_99999, tm_1, tm_2, tm_3, tm_4, tm_5, tm_7, tm_11, tm_12, tm_13, tm_14, tm_100, if_pos, if_neg, if_true, if_false, bC_in, bI_s, bS_s, bX_s, bY_s, sO, tC]; omega), if_neg (by simp (disch := omega) only [ltI, leI, eqI, tI, tI1, ti_0, ti_1, ti_2, ti_3, ti_4, ti_5, ti_6, ti_7, ti_8, ti_9, ti_10, ti_11, ti_12, ti_14, ti_18, ti_30, ti_39, ti_40, ti_41, ti_45, ti_50, ti_59, ti_97, ti_99, ti_100, ti_122, ti_160, ti_243, ti_255, ti_399, ti_999, ti_1000, ti_1024, ti_99999, tm_1, tm_2, tm_3, tm_4, tm_5, tm_7, tm_11, tm_12, tm_13, tm_14, tm_100, if_pos, if_neg, if_true, if_false, bC_in, bI_s, bS_s, bX_s, bY_s, sO, tC]; omega), if_neg (by simp (disch := omega) only [ltI, leI, eqI, tI, tI1, ti_0, ti_1, ti_2, ti_3, ti_4, ti_5, ti_6, ti_7, ti_8, ti_9, ti_10, ti_11, ti_12, ti_14, ti_18, ti_30, ti_39, ti_40, ti_41, ti_45, ti_50, ti_59, ti_97, ti_99, ti_100, ti_122, ti_160, ti_243, ti_255, ti_399, ti_999, ti_1000, ti_1024, ti_99999, tm_1, tm_2, tm_3, tm_4, tm_5, tm_7, tm_11, tm_12, tm_13, tm_14, tm_100, if_pos, if_neg, if_true, if_false, bC_in, bI_s, bS_s, bX_s, bY_s, sO, tC]; omega), if_neg (by simp (disch := omega) only [ltI, leI, eqI, tI, tI1, ti_0, ti_1, ti_2, ti_3, ti_4, ti_5, ti_6, ti_7, ti_8, ti_9, ti_10, ti_11, ti_12, ti_14, ti_18, ti_30, ti_39, ti_40, ti_41, ti_45, ti_50, ti_59, ti_97, ti_99, ti_100, ti_122, ti_160, ti_243, ti_255, ti_399, ti_999, ti_1000, ti_1024, ti_99999, tm_1, tm_2, tm_3, tm_4, tm_5, tm_7, tm_11, tm_12, tm_13, tm_14, tm_100, if_pos, if_neg, if_true, if_false, bC_in, bI_s, bS_s, bX_s, bY_s, sO, tC]; omega), if_neg (by simp (disch := omega) only [ltI, leI, eqI, tI, tI1, ti_0, ti_1, ti_2, ti_3, ti_4, ti_5, ti_6, ti_7, ti_8, ti_9, ti_10, ti_11, ti_12, ti_14, ti_18, ti_30, ti_39, ti_40, ti_41, ti_45, ti_50, ti_59, ti_97, ti_99, ti_100, ti_122, ti_160, ti_243, ti_255, ti_399, ti_999, ti_1000, ti_1024, ti_99999, tm_1, tm_2, tm_3, tm_4, tm_5, tm_7, tm_11, tm_12, tm_13, tm_14, tm_100, if_pos, if_neg, if_true, if_false, bC_in, bI_s, bS_s, bX_s, bY_s, sO, tC]; omega), y1, bX_s, nbt, if_neg (by decide)]
    | false =>
      rw [hm] at q1
      have hv1 : iv N B A1 V1 tx c1 := iv_agr w2 hv
      obtain ⟨A2, V2, y1, y2⟩ := r_maf hv1 (agr_r A1 V1) c1 hC (s := s) (by omega) r
      rw [ec, w2.1 131 rfl, hm] at y1
      obtain ⟨A3, V3, c3, z1, z2⟩ := r_bars hv1 hC (s := s) (by omega) r (fun (l4_21 : Int32) (A28 V29 : xM) (c30 : Value) => some (l4_21, A28, V29, c30)) (N 1) 0 FU A2 V2 c1 y2 (by omega) (fu_gt (by omega))
      rw [ec, w2.1 131 rfl] at z1
      have e4 : V1 132 4 = nI (N 1) := (w2.2 132 4 rfl).trans p2
      have e2 : V1 132 2 = nI (N 0) := (w2.2 132 2 rfl).trans s2
      refine ⟨nI (fb (fun p => bt c p && mf N B tx (A 131) s r (fs (bt c) p false)) (N 1)), A1, V1, c1, ?_, A3, V3, c3, ?_, N, B, iv_agr z2 hv1⟩
      · rw [if_neg (by simp (disch := omega) only [ltI, leI, eqI, tI, tI1, ti_0, ti_1, ti_2, ti_3, ti_4, ti_5, ti_6, ti_7, ti_8, ti_9, ti_10, ti_11, ti_12, ti_14, ti_18, ti_30, ti_39, ti_40, ti_41, ti_45, ti_50, ti_59, ti_97, ti_99, ti_100, ti_122, ti_160, ti_243, ti_255, ti_399, ti_999, ti_1000, ti_1024, ti_99999, tm_1, tm_2, tm_3, tm_4, tm_5, tm_7, tm_11, tm_12, tm_13, tm_14, tm_100, if_pos, if_neg, if_true, if_false, bC_in, bI_s, bS_s, bX_s, bY_s, sO, tC]; omega), if_neg (by simp (disch := omega) only [ltI, leI, eqI, tI, tI1, ti_0, ti_1, ti_2, ti_3, ti_4, ti_5, ti_6, ti_7, ti_8, ti_9, ti_10, ti_11, ti_12, ti_14, ti_18, ti_30, ti_39, ti_40, ti_41, ti_45, ti_50, ti_59, ti_97, ti_99, ti_100, ti_122, ti_160, ti_243, ti_255, ti_399, ti_999, ti_1000, ti_1024, ti_99999, tm_1, tm_2, tm_3, tm_4, tm_5, tm_7, tm_11, tm_12, tm_13, tm_14, tm_100, if_pos, if_neg, if_true, if_false, bC_in, bI_s, bS_s, bX_s, bY_s, sO, tC]; omega), if_neg (by simp (disch := omega) only [ltI, leI, eqI, tI, tI1, ti_0, ti_1, ti_2, ti_3, ti_4, ti_5, ti_6, ti_7, ti_8, ti_9, ti_10, ti_11, ti_12, ti_14, ti_18, ti_30, ti_39, ti_40, ti_41, ti_45, ti_50, ti_59, ti_97, ti_99, ti_100, ti_122, ti_160, ti_243, ti_255, ti_399, ti_999, ti_1000, ti_1024, ti_99999, tm_1, tm_2, tm_3, tm_4, tm_5, tm_7, tm_11, tm_12, tm_13, tm_14, tm_100, if_pos, if_neg, if_true, if_false, bC_in, bI_s, bS_s, bX_s, bY_s, sO, tC]; omega), if_neg (by simp (disch := omega) only [ltI, leI, eqI, tI, tI1, ti_0, ti_1, ti_2, ti_3, ti_4, ti_5, ti_6, ti_7, ti_8, ti_9, ti_10, ti_11, ti_12, ti_14, ti_18, ti_30, ti_39, ti_40, ti_41, ti_45, ti_50, ti_59, ti_97, ti_99, ti_100, ti_122, ti_160, ti_243, ti_255, ti_399, ti_999, ti_1000, ti_1024, ti_99999, tm_1, tm_2, tm_3, tm_4, tm_5, tm_7, tm_11, tm_12, tm_13, tm_14, tm_100, if_pos, if_neg, if_true, if_false, bC_in, bI_s, bS_s, bX_s, bY_s, sO, tC]; omega), if_neg (by simp (disch := omega) only [ltI, leI, eqI, tI, tI1, ti_0, ti_1, ti_2, ti_3, ti_4, ti_5, ti_6, ti_7, ti_8, ti_9, ti_10, ti_11, ti_12, ti_14, ti_18, ti_30, ti_39, ti_40, ti_41, ti_45, ti_50, ti_59, ti_97, ti_99, ti_100, ti_122, ti_160, ti_243, ti_255, ti_399, ti_999, ti_1000, ti_1024, ti_99999, tm_1, tm_2, tm_3, tm_4, tm_5, tm_7, tm_11, tm_12, tm_13, tm_14, tm_100, if_pos, if_neg, if_true, if_false, bC_in, bI_s, bS_s, bX_s, bY_s, sO, tC]; omega), if_pos h1, q1, bX_s, nbf, if_pos rfl]
        exact w1
      · rw [e4, hsp, e2]
        rw [if_neg (by simp (disch := omega) only [ltI, leI, eqI, tI, tI1, ti_0, ti_1, ti_2, ti_3, ti_4, ti_5, ti_6, ti_7, ti_8, ti_9, ti_10, ti_11, ti_12, ti_14, ti_18, ti_30, ti_39, ti_40, ti_41, ti_45, ti_50, ti_59, ti_97, ti_99, ti_100, ti_122, ti_160, ti_243, ti_255, ti_399, ti_999, ti_1000, ti_1024, ti_99999, tm_1, tm_2, tm_3, tm_4, tm_5, tm_7, tm_11, tm_12, tm_13, tm_14, tm_100, if_pos, if_neg, if_true, if_false, bC_in, bI_s, bS_s, bX_s, bY_s, sO, tC]; omega), if_neg (by simp (disch := omega) only [ltI, leI, eqI, tI, tI1, ti_0, ti_1, ti_2, ti_3, ti_4, ti_5, ti_6, ti_7, ti_8, ti_9, ti_10, ti_11, ti_12, ti_14, ti_18, ti_30, ti_39, ti_40, ti_41, ti_45, ti_50, ti_59, ti_97, ti_99, ti_100, ti_122, ti_160, ti_243, ti_255, ti_399, ti_999, ti_1000, ti_1024, ti_99999, tm_1, tm_2, tm_3, tm_4, tm_5, tm_7, tm_11, tm_12, tm_13, tm_14, tm_100, if_pos, if_neg, if_true, if_false, bC_in, bI_s, bS_s, bX_s, bY_s, sO, tC]; omega), if_neg (by simp (disch := omega) only [ltI, leI, eqI, tI, tI1, ti_0, ti_1, ti_2, ti_3, ti_4, ti_5, ti_6, ti_7, ti_8, ti_9, ti_10, ti_11, ti_12, ti_14, ti_18, ti_30, ti_39, ti_40, ti_41, ti_45, ti_50, ti_59, ti_97, ti_99, ti_100, ti_122, ti_160, ti_243, ti_255, ti_399, ti_999, ti_1000, ti_1024, ti_99999, tm_1, tm_2, tm_3, tm_4, tm_5, tm_7, tm_11, tm_12, tm_13, tm_14, tm_100, if_pos, if_neg, if_true, if_false, bC_in, bI_s, bS_s, bX_s, bY_s, sO, tC]; omega), if_neg (by simp (disch := omega) only [ltI, leI, eqI, tI, tI1, ti_0, ti_1, ti_2, ti_3, ti_4, ti_5, ti_6, ti_7, ti_8, ti_9, ti_10, ti_11, ti_12, ti_14, ti_18, ti_30, ti_39, ti_40, ti_41, ti_45, ti_50, ti_59, ti_97, ti_99, ti_100, ti_122, ti_160, ti_243, ti_255, ti_399, ti_999, ti_1000, ti_1024, ti_99999, tm_1, tm_2, tm_3, tm_4, tm_5, tm_7, tm_11, tm_12, tm_13, tm_14, tm_100, if_pos, if_neg, if_true, if_false, bC_in, bI_s, bS_s, bX_s, bY_s, sO, tC]; omega), if_neg (by simp (disch := omega) only [ltI, leI, eqI, tI, tI1, ti_0, ti_1, ti_2, ti_3, ti_4, ti_5, ti_6, ti_7, ti_8, ti_9, ti_10, ti_11, ti_12, ti_14, ti_18, ti_30, ti_39, ti_40, ti_41, ti_45, ti_50, ti_59, ti_97, ti_99, ti_100, ti_122, ti_160, ti_243, ti_255, ti_399, ti_999, ti_1000, ti_1024, ti_99999, tm_1, tm_2, tm_3, tm_4, tm_5, tm_7, tm_11, tm_12, tm_13, tm_14, tm_100, if_pos, if_neg, if_true, if_false, bC_in, bI_s, bS_s, bX_s, bY_s, sO, tC]; omega), if_neg (by simp (disch := omega) only [ltI, leI, eqI, tI, tI1, ti_0, ti_1, ti_2, ti_3, ti_4, ti_5, ti_6, ti_7, ti_8, ti_9, ti_10, ti_11, ti_12, ti_14, ti_18, ti_30, ti_39, ti_40, ti_41, ti_45, ti_50, ti_59, ti_97, ti_99, ti_100, ti_122, ti_160, ti_243, ti_255, ti_399, ti_999, ti_1000, ti_1024, ti_99999, tm_1, tm_2, tm_3, tm_4, tm_5, tm_7, tm_11, tm_12, tm_13, tm_14, tm_100, if_pos, if_neg, if_true, if_false, bC_in, bI_s, bS_s, bX_s, bY_s, sO, tC]; omega), y1, bX_s, nbf, if_pos rfl]
        exact z1

  · refine ⟨-7, A, V, cu, ?_, A, V, cu, ?_, N, B, hv⟩
    · rw [if_neg (by simp (disch := omega) only [ltI, leI, eqI, tI, tI1, ti_0, ti_1, ti_2, ti_3, ti_4, ti_5, ti_6, ti_7, ti_8, ti_9, ti_10, ti_11, ti_12, ti_14, ti_18, ti_30, ti_39, ti_40, ti_41, ti_45, ti_50, ti_59, ti_97, ti_99, ti_100, ti_122, ti_160, ti_243, ti_255, ti_399, ti_999, ti_1000, ti_1024, ti_99999, tm_1, tm_2, tm_3, tm_4, tm_5, tm_7, tm_11, tm_12, tm_13, tm_14, tm_100, if_pos, if_neg, if_true, if_false, bC_in, bI_s, bS_s, bX_s, bY_s, sO, tC]; omega), if_neg (by simp (disch := omega) only [ltI, leI, eqI, tI, tI1, ti_0, ti_1, ti_2, ti_3, ti_4, ti_5, ti_6, ti_7, ti_8, ti_9, ti_10, ti_11, ti_12, ti_14, ti_18, ti_30, ti_39, ti_40, ti_41, ti_45, ti_50, ti_59, ti_97, ti_99, ti_100, ti_122, ti_160, ti_243, ti_255, ti_399, ti_999, ti_1000, ti_1024, ti_99999, tm_1, tm_2, tm_3, tm_4, tm_5, tm_7, tm_11, tm_12, tm_13, tm_14, tm_100, if_pos, if_neg, if_true, if_false, bC_in, bI_s, bS_s, bX_s, bY_s, sO, tC]; omega), if_neg (by simp (disch := omega) only [ltI, leI, eqI, tI, tI1, ti_0, ti_1, ti_2, ti_3, ti_4, ti_5, ti_6, ti_7, ti_8, ti_9, ti_10, ti_11, ti_12, ti_14, ti_18, ti_30, ti_39, ti_40, ti_41, ti_45, ti_50, ti_59, ti_97, ti_99, ti_100, ti_122, ti_160, ti_243, ti_255, ti_399, ti_999, ti_1000, ti_1024, ti_99999, tm_1, tm_2, tm_3, tm_4, tm_5, tm_7, tm_11, tm_12, tm_13, tm_14, tm_100, if_pos, if_neg, if_true, if_false, bC_in, bI_s, bS_s, bX_s, bY_s, sO, tC]; omega), if_neg (by simp (disch := omega) only [ltI, leI, eqI, tI, tI1, ti_0, ti_1, ti_2, ti_3, ti_4, ti_5, ti_6, ti_7, ti_8, ti_9, ti_10, ti_11, ti_12, ti_14, ti_18, ti_30, ti_39, ti_40, ti_41, ti_45, ti_50, ti_59, ti_97, ti_99, ti_100, ti_122, ti_160, ti_243, ti_255, ti_399, ti_999, ti_1000, ti_1024, ti_99999, tm_1, tm_2, tm_3, tm_4, tm_5, tm_7, tm_11, tm_12, tm_13, tm_14, tm_100, if_pos, if_neg, if_true, if_false, bC_in, bI_s, bS_s, bX_s, bY_s, sO, tC]; omega), if_neg (by simp (disch := omega) only [ltI, leI, eqI, tI, tI1, ti_0, ti_1, ti_2, ti_3, ti_4, ti_5, ti_6, ti_7, ti_8, ti_9, ti_10, ti_11, ti_12, ti_14, ti_18, ti_30, ti_39, ti_40, ti_41, ti_45, ti_50, ti_59, ti_97, ti_99, ti_100, ti_122, ti_160, ti_243, ti_255, ti_399, ti_999, ti_1000, ti_1024, ti_99999, tm_1, tm_2, tm_3, tm_4, tm_5, tm_7, tm_11, tm_12, tm_13, tm_14, tm_100, if_pos, if_neg, if_true, if_false, bC_in, bI_s, bS_s, bX_s, bY_s, sO, tC]; omega), if_neg h1]
    · rw [p2, hsp, s2]
      generalize 2 ^ N 1 = M at *
      rcases h2 with h2 | h2
      · simp (disch := omega) only [ltI, leI, eqI, tI, tI1, ti_0, ti_1, ti_2, ti_3, ti_4, ti_5, ti_6, ti_7, ti_8, ti_9, ti_10, ti_11, ti_12, ti_14, ti_18, ti_30, ti_39, ti_40, ti_41, ti_45, ti_50, ti_59, ti_97, ti_99, ti_100, ti_122, ti_160, ti_243, ti_255, ti_399, ti_999, ti_1000, ti_1024, ti_99999, tm_1, tm_2, tm_3, tm_4, tm_5, tm_7, tm_11, tm_12, tm_13, tm_14, tm_100, if_pos, if_neg, if_true, if_false, bC_in, bI_s, bS_s, bX_s, bY_s, sO, tC]
      · by_cases h3 : b.toInt < 0
        · omega
        · simp (disch := omega) only [ltI, leI, eqI, tI, tI1, ti_0, ti_1, ti_2, ti_3, ti_4, ti_5, ti_6, ti_7, ti_8, ti_9, ti_10, ti_11, ti_12, ti_14, ti_18, ti_30, ti_39, ti_40, ti_41, ti_45, ti_50, ti_59, ti_97, ti_99, ti_100, ti_122, ti_160, ti_243, ti_255, ti_399, ti_999, ti_1000, ti_1024, ti_99999, tm_1, tm_2, tm_3, tm_4, tm_5, tm_7, tm_11, tm_12, tm_13, tm_14, tm_100, if_pos, if_neg, if_true, if_false, bC_in, bI_s, bS_s, bX_s, bY_s, sO, tC]
theorem op_ends (hd : 75 ≤ d) (a b : Int32) : iv_op (xk_ro LL xs) d 93 186 [.int a, .int b] := by
  refine op_mk (fc := fun tx A V cu => fX8_ends tx a b A V cu) (fm := fun tx A V cu => fX9_ends a b A V cu) (fun tx A V cu r A' V' c' q => sX8_ends (by omega) q) (fun tx A V cu r A' V' c' q => sX9_ends (by omega) q) ?_
  intro N B A V tx cu hv
  obtain ⟨⟨s1, s2, s3⟩, ⟨p1, p2, p3⟩, -⟩ := id hv.1
  unfold fX8_ends fX9_ends
  rw [p1]
  rcases ix3 a (N 1) (by omega) with h | h | ⟨p, hp, rfl⟩
  · exact ⟨-5, A, V, cu, by simp (disch := omega) only [ltI, leI, eqI, tI, tI1, ti_0, ti_1, ti_2, ti_3, ti_4, ti_5, ti_6, ti_7, ti_8, ti_9, ti_10, ti_11, ti_12, ti_14, ti_18, ti_30, ti_39, ti_40, ti_41, ti_45, ti_50, ti_59, ti_97, ti_99, ti_100, ti_122, ti_160, ti_243, ti_255, ti_399, ti_999, ti_1000, ti_1024, ti_99999, tm_1, tm_2, tm_3, tm_4, tm_5, tm_7, tm_11, tm_12, tm_13, tm_14, tm_100, if_pos, if_neg, if_true, if_false, bC_in, bI_s, bS_s, bX_s, bY_s, sO, tC], A, V, cu, by simp (disch := omega) only [ltI, leI, eqI, tI, tI1, ti_0, ti_1, ti_2, ti_3, ti_4, ti_5, ti_6, ti_7, ti_8, ti_9, ti_10, ti_11, ti_12, ti_14, ti_18, ti_30, ti_39, ti_40, ti_41, ti_45, ti_50, ti_59, ti_97, ti_99, ti_100, ti_122, ti_160, ti_243, ti_255, ti_399, ti_999, ti_1000, ti_1024, ti_99999, tm_1, tm_2, tm_3, tm_4, tm_5, tm_7, tm_11, tm_12, tm_13, tm_14, tm_100, if_pos, if_neg, if_true, if_false, bC_in, bI_s, bS_s, bX_s, bY_s, sO, tC, p2], N, B, hv⟩
  · exact ⟨-5, A, V, cu, by simp (disch := omega) only [ltI, leI, eqI, tI, tI1, ti_0, ti_1, ti_2, ti_3, ti_4, ti_5, ti_6, ti_7, ti_8, ti_9, ti_10, ti_11, ti_12, ti_14, ti_18, ti_30, ti_39, ti_40, ti_41, ti_45, ti_50, ti_59, ti_97, ti_99, ti_100, ti_122, ti_160, ti_243, ti_255, ti_399, ti_999, ti_1000, ti_1024, ti_99999, tm_1, tm_2, tm_3, tm_4, tm_5, tm_7, tm_11, tm_12, tm_13, tm_14, tm_100, if_pos, if_neg, if_true, if_false, bC_in, bI_s, bS_s, bX_s, bY_s, sO, tC], A, V, cu, by simp (disch := omega) only [ltI, leI, eqI, tI, tI1, ti_0, ti_1, ti_2, ti_3, ti_4, ti_5, ti_6, ti_7, ti_8, ti_9, ti_10, ti_11, ti_12, ti_14, ti_18, ti_30, ti_39, ti_40, ti_41, ti_45, ti_50, ti_59, ti_97, ti_99, ti_100, ti_122, ti_160, ti_243, ti_255, ti_399, ti_999, ti_1000, ti_1024, ti_99999, tm_1, tm_2, tm_3, tm_4, tm_5, tm_7, tm_11, tm_12, tm_13, tm_14, tm_100, if_pos, if_neg, if_true, if_false, bC_in, bI_s, bS_s, bX_s, bY_s, sO, tC, p2], N, B, hv⟩
  rcases ix3 b 4 (by omega) with h | h | ⟨r, hr, rfl⟩
  · exact ⟨-7, A, V, cu, by simp (disch := omega) only [ltI, leI, eqI, tI, tI1, ti_0, ti_1, ti_2, ti_3, ti_4, ti_5, ti_6, ti_7, ti_8, ti_9, ti_10, ti_11, ti_12, ti_14, ti_18, ti_30, ti_39, ti_40, ti_41, ti_45, ti_50, ti_59, ti_97, ti_99, ti_100, ti_122, ti_160, ti_243, ti_255, ti_399, ti_999, ti_1000, ti_1024, ti_99999, tm_1, tm_2, tm_3, tm_4, tm_5, tm_7, tm_11, tm_12, tm_13, tm_14, tm_100, if_pos, if_neg, if_true, if_false, bC_in, bI_s, bS_s, bX_s, bY_s, sO, tC], A, V, cu, by simp (disch := omega) only [ltI, leI, eqI, tI, tI1, ti_0, ti_1, ti_2, ti_3, ti_4, ti_5, ti_6, ti_7, ti_8, ti_9, ti_10, ti_11, ti_12, ti_14, ti_18, ti_30, ti_39, ti_40, ti_41, ti_45, ti_50, ti_59, ti_97, ti_99, ti_100, ti_122, ti_160, ti_243, ti_255, ti_399, ti_999, ti_1000, ti_1024, ti_99999, tm_1, tm_2, tm_3, tm_4, tm_5, tm_7, tm_11, tm_12, tm_13, tm_14, tm_100, if_pos, if_neg, if_true, if_false, bC_in, bI_s, bS_s, bX_s, bY_s, sO, tC, p2], N, B, hv⟩
  · exact ⟨-7, A, V, cu, by simp (disch := omega) only [ltI, leI, eqI, tI, tI1, ti_0, ti_1, ti_2, ti_3, ti_4, ti_5, ti_6, ti_7, ti_8, ti_9, ti_10, ti_11, ti_12, ti_14, ti_18, ti_30, ti_39, ti_40, ti_41, ti_45, ti_50, ti_59, ti_97, ti_99, ti_100, ti_122, ti_160, ti_243, ti_255, ti_399, ti_999, ti_1000, ti_1024, ti_99999, tm_1, tm_2, tm_3, tm_4, tm_5, tm_7, tm_11, tm_12, tm_13, tm_14, tm_100, if_pos, if_neg, if_true, if_false, bC_in, bI_s, bS_s, bX_s, bY_s, sO, tC], A, V, cu, by simp (disch := omega) only [ltI, leI, eqI, tI, tI1, ti_0, ti_1, ti_2, ti_3, ti_4, ti_5, ti_6, ti_7, ti_8, ti_9, ti_10, ti_11, ti_12, ti_14, ti_18, ti_30, ti_39, ti_40, ti_41, ti_45, ti_50, ti_59, ti_97, ti_99, ti_100, ti_122, ti_160, ti_243, ti_255, ti_399, ti_999, ti_1000, ti_1024, ti_99999, tm_1, tm_2, tm_3, tm_4, tm_5, tm_7, tm_11, tm_12, tm_13, tm_14, tm_100, if_pos, if_neg, if_true, if_false, bC_in, bI_s, bS_s, bX_s, bY_s, sO, tC, p2], N, B, hv⟩
  obtain ⟨A1, V1, c1, w1, w2⟩ := c_ends hv (p := p) (by omega) hr (fun (l3_13 : Int32) (A18 V19 : xM) (c20 : Value) => some (l3_13, A18, V19, c20)) (N 0) 0 FU A V cu (agr_r A V) (by omega) (fu_gt (by omega))
  have hv1 : iv N B A1 V1 tx c1 := iv_agr w2 hv
  obtain ⟨A2, V2, c2, y1, y2⟩ := r_ends hv1 (p := p) (by omega) hr (fun (l3_25 : Int32) (A32 V33 : xM) (c34 : Value) => some (l3_25, A32, V33, c34)) (N 0) 0 FU A1 V1 c1 (agr_r A1 V1) (by omega) (fu_gt (by omega))
  rw [w2.1 131 rfl] at y1
  have e4 : V1 132 4 = nI (N 1) := (w2.2 132 4 rfl).trans p2
  refine ⟨nI (fb (fun s => ovr N B tx (A 131) p r s) (N 0)), A1, V1, c1, ?_, A2, V2, c2, ?_, N, B, iv_agr y2 hv1⟩
  · rw [if_neg (by simp (disch := omega) only [ltI, leI, eqI, tI, tI1, ti_0, ti_1, ti_2, ti_3, ti_4, ti_5, ti_6, ti_7, ti_8, ti_9, ti_10, ti_11, ti_12, ti_14, ti_18, ti_30, ti_39, ti_40, ti_41, ti_45, ti_50, ti_59, ti_97, ti_99, ti_100, ti_122, ti_160, ti_243, ti_255, ti_399, ti_999, ti_1000, ti_1024, ti_99999, tm_1, tm_2, tm_3, tm_4, tm_5, tm_7, tm_11, tm_12, tm_13, tm_14, tm_100, if_pos, if_neg, if_true, if_false, bC_in, bI_s, bS_s, bX_s, bY_s, sO, tC]; omega), if_neg (by simp (disch := omega) only [ltI, leI, eqI, tI, tI1, ti_0, ti_1, ti_2, ti_3, ti_4, ti_5, ti_6, ti_7, ti_8, ti_9, ti_10, ti_11, ti_12, ti_14, ti_18, ti_30, ti_39, ti_40, ti_41, ti_45, ti_50, ti_59, ti_97, ti_99, ti_100, ti_122, ti_160, ti_243, ti_255, ti_399, ti_999, ti_1000, ti_1024, ti_99999, tm_1, tm_2, tm_3, tm_4, tm_5, tm_7, tm_11, tm_12, tm_13, tm_14, tm_100, if_pos, if_neg, if_true, if_false, bC_in, bI_s, bS_s, bX_s, bY_s, sO, tC]; omega), if_neg (by simp (disch := omega) only [ltI, leI, eqI, tI, tI1, ti_0, ti_1, ti_2, ti_3, ti_4, ti_5, ti_6, ti_7, ti_8, ti_9, ti_10, ti_11, ti_12, ti_14, ti_18, ti_30, ti_39, ti_40, ti_41, ti_45, ti_50, ti_59, ti_97, ti_99, ti_100, ti_122, ti_160, ti_243, ti_255, ti_399, ti_999, ti_1000, ti_1024, ti_99999, tm_1, tm_2, tm_3, tm_4, tm_5, tm_7, tm_11, tm_12, tm_13, tm_14, tm_100, if_pos, if_neg, if_true, if_false, bC_in, bI_s, bS_s, bX_s, bY_s, sO, tC]; omega), if_neg (by simp (disch := omega) only [ltI, leI, eqI, tI, tI1, ti_0, ti_1, ti_2, ti_3, ti_4, ti_5, ti_6, ti_7, ti_8, ti_9, ti_10, ti_11, ti_12, ti_14, ti_18, ti_30, ti_39, ti_40, ti_41, ti_45, ti_50, ti_59, ti_97, ti_99, ti_100, ti_122, ti_160, ti_243, ti_255, ti_399, ti_999, ti_1000, ti_1024, ti_99999, tm_1, tm_2, tm_3, tm_4, tm_5, tm_7, tm_11, tm_12, tm_13, tm_14, tm_100, if_pos, if_neg, if_true, if_false, bC_in, bI_s, bS_s, bX_s, bY_s, sO, tC]; omega), if_neg (by simp (disch := omega) only [ltI, leI, eqI, tI, tI1, ti_0, ti_1, ti_2, ti_3, ti_4, ti_5, ti_6, ti_7, ti_8, ti_9, ti_10, ti_11, ti_12, ti_14, ti_18, ti_30, ti_39, ti_40, ti_41, ti_45, ti_50, ti_59, ti_97, ti_99, ti_100, ti_122, ti_160, ti_243, ti_255, ti_399, ti_999, ti_1000, ti_1024, ti_99999, tm_1, tm_2, tm_3, tm_4, tm_5, tm_7, tm_11, tm_12, tm_13, tm_14, tm_100, if_pos, if_neg, if_true, if_false, bC_in, bI_s, bS_s, bX_s, bY_s, sO, tC]; omega)]
    exact w1
  · rw [e4]
    rw [if_neg (by simp (disch := omega) only [ltI, leI, eqI, tI, tI1, ti_0, ti_1, ti_2, ti_3, ti_4, ti_5, ti_6, ti_7, ti_8, ti_9, ti_10, ti_11, ti_12, ti_14, ti_18, ti_30, ti_39, ti_40, ti_41, ti_45, ti_50, ti_59, ti_97, ti_99, ti_100, ti_122, ti_160, ti_243, ti_255, ti_399, ti_999, ti_1000, ti_1024, ti_99999, tm_1, tm_2, tm_3, tm_4, tm_5, tm_7, tm_11, tm_12, tm_13, tm_14, tm_100, if_pos, if_neg, if_true, if_false, bC_in, bI_s, bS_s, bX_s, bY_s, sO, tC]; omega), if_neg (by simp (disch := omega) only [ltI, leI, eqI, tI, tI1, ti_0, ti_1, ti_2, ti_3, ti_4, ti_5, ti_6, ti_7, ti_8, ti_9, ti_10, ti_11, ti_12, ti_14, ti_18, ti_30, ti_39, ti_40, ti_41, ti_45, ti_50, ti_59, ti_97, ti_99, ti_100, ti_122, ti_160, ti_243, ti_255, ti_399, ti_999, ti_1000, ti_1024, ti_99999, tm_1, tm_2, tm_3, tm_4, tm_5, tm_7, tm_11, tm_12, tm_13, tm_14, tm_100, if_pos, if_neg, if_true, if_false, bC_in, bI_s, bS_s, bX_s, bY_s, sO, tC]; omega), if_neg (by simp (disch := omega) only [ltI, leI, eqI, tI, tI1, ti_0, ti_1, ti_2, ti_3, ti_4, ti_5, ti_6, ti_7, ti_8, ti_9, ti_10, ti_11, ti_12, ti_14, ti_18, ti_30, ti_39, ti_40, ti_41, ti_45, ti_50, ti_59, ti_97, ti_99, ti_100, ti_122, ti_160, ti_243, ti_255, ti_399, ti_999, ti_1000, ti_1024, ti_99999, tm_1, tm_2, tm_3, tm_4, tm_5, tm_7, tm_11, tm_12, tm_13, tm_14, tm_100, if_pos, if_neg, if_true, if_false, bC_in, bI_s, bS_s, bX_s, bY_s, sO, tC]; omega), if_neg (by simp (disch := omega) only [ltI, leI, eqI, tI, tI1, ti_0, ti_1, ti_2, ti_3, ti_4, ti_5, ti_6, ti_7, ti_8, ti_9, ti_10, ti_11, ti_12, ti_14, ti_18, ti_30, ti_39, ti_40, ti_41, ti_45, ti_50, ti_59, ti_97, ti_99, ti_100, ti_122, ti_160, ti_243, ti_255, ti_399, ti_999, ti_1000, ti_1024, ti_99999, tm_1, tm_2, tm_3, tm_4, tm_5, tm_7, tm_11, tm_12, tm_13, tm_14, tm_100, if_pos, if_neg, if_true, if_false, bC_in, bI_s, bS_s, bX_s, bY_s, sO, tC]; omega)]
    exact y1
end OPS53
