/-! A SONG IS BEGUN, on both sides. -/
theorem agr_1 {A V A1 V1 A2 : xM} {r : Nat} (h : agr A V A1 V1) (hr : kA r = false) (q : ∀ b, b ≠ r → A2 b = A1 b) : agr A V A2 V1 := by
  refine ⟨fun a z => ?_, h.2⟩
  have : a ≠ r := fun e => by subst e; rw [hr] at z; cases z
  rw [q a this]
  exact h.1 a z
theorem lrn_c {B : Nat → Nat → Nat} {K : Nat → Nat} {cl th has cl' th' has' : Nat → Bool} {sp : Bool} {p : Nat} (h1 : cl p = cl' p) (h2 : th p = th' p) (h3 : (cl p || th p) = true → has p = has' p) : lrn B K cl th has sp p = lrn B K cl' th' has' sp p := by
  unfold lrn
  cases hc : (cl p || th p) with
  | false =>
    have hc' : (cl' p || th' p) = false := by rw [← h1, ← h2]; exact hc
    rw [hc', Bool.and_false, Bool.and_false, if_neg (by decide), if_neg (by decide)]
  | true =>
    have hc' : (cl' p || th' p) = true := by rw [← h1, ← h2]; exact hc
    rw [hc', h3 hc, h1]
theorem lrn_1 {B : Nat → Nat → Nat} {K : Nat → Nat} {cl th has : Nat → Bool} {sp : Bool} {p : Nat} (h : K p < 2) (hh : has p = true) (hc : cl p = true) : lrn B K cl th has sp p = (if kt (B 2 p) 0 (K p) = 2 ∧ sp = true then 3 else kt (B 2 p) 0 (K p)) := by
  unfold lrn
  have e : (Nat.blt (K p) 2 && has p && (cl p || th p)) = true := by rw [hh, hc, Nat.blt_eq.mpr h]; rfl
  rw [if_pos e, if_pos hc]
theorem lrn_2 {B : Nat → Nat → Nat} {K : Nat → Nat} {cl th has : Nat → Bool} {sp : Bool} {p : Nat} (h : K p < 2) (hh : has p = true) (hc : cl p = false) (ht : th p = true) : lrn B K cl th has sp p = (if kt (B 2 p) 1 (K p) = 2 ∧ sp = true then 3 else kt (B 2 p) 1 (K p)) := by
  unfold lrn
  have e : (Nat.blt (K p) 2 && has p && (cl p || th p)) = true := by rw [hh, hc, ht, Nat.blt_eq.mpr h]; rfl
  have hc' : ¬ cl p = true := by rw [hc]; decide
  rw [if_pos e, if_neg hc']
theorem lrn_0 {B : Nat → Nat → Nat} {K : Nat → Nat} {cl th has : Nat → Bool} {sp : Bool} {p : Nat} (h : 2 ≤ K p ∨ has p = false ∨ (cl p = false ∧ th p = false)) : lrn B K cl th has sp p = K p := by
  unfold lrn
  have e : ¬ (Nat.blt (K p) 2 && has p && (cl p || th p)) = true := by
    rcases h with h | h | ⟨h1, h2⟩
    · rw [blt_f h, Bool.false_and, Bool.false_and]; decide
    · rw [h, Bool.and_false, Bool.false_and]; decide
    · rw [h1, h2, Bool.or_false, Bool.and_false]; decide
  rw [if_neg e]
section SPREAD
variable {N : Nat → Nat} {B : Nat → Nat → Nat} {A V A1 V1 : xM} {tx : List xh_T} {cu : Value} {K : Nat → Nat} {C D has : Nat → Bool}
theorem c_spread (hv : iv N B A V tx cu) (ha : agr A V A1 V1) (hC : inP (N 1) C) (hD : inP (N 1) D) (hCD : ∀ p, p < 5 → (C p && D p) = false) {t s r e l : Nat} (ht : t ≤ tx.length) (hs : s < 6) (hs5 : V1 81 5 = nI s) (hr : r3 A1 l s K) (hK : ∀ p, p < 5 → K p ≤ 3) (hh : hasC A1 l s has) (hl : l = 77 ∨ l = 85) (hn : ∀ m, m < 6 → A1 83 m = nms (ct (kn K C)) (ct (sgs B K C)) (ct C) s r e m) : ∃ A2, fX6_spread tx l (nI (mk5 C)) (nI (mk5 D)) A1 V1 (.ref (tref t)) = some (A2, V1, .ref (tref t)) ∧ r3 A2 l s (spr N B tx (A 131) t s r e K C D has) ∧ (∀ b, b ≠ 82 → b ≠ l + 1 → b ≠ l + 2 → b ≠ l + 3 → A2 b = A1 b) ∧ ∀ b j, b ≠ 82 → j ≠ s → A2 b j = A1 b j := by
  have hv1 : iv N B A1 V1 tx cu := iv_agr ha hv
  unfold fX6_spread
  rw [c_singers hv1 hC hs hs5 hr.1, bI_s]
  cases hS : anyp (sgs B K C) with
  | false =>
    rw [if_pos (by rw [anyp_i]; exact hS)]
    refine ⟨A1, rfl, ?_, fun _ _ _ _ _ => rfl, fun _ _ _ _ => rfl⟩
    unfold spr
    rw [hS, if_neg (by decide)]
    exact hr
  | true =>
    rw [if_neg (by rw [anyp_i, hS]; decide)]
    have tr3 : ∀ A' : xM, (∀ b, b ≠ 82 → A' b = A1 b) → r3 A' l s K ∧ hasC A' l s has := by
      intro A' q
      have q1 : A' (l + 1) = A1 (l + 1) := q _ (by omega)
      have q2 : A' (l + 2) = A1 (l + 2) := q _ (by omega)
      have q3 : A' (l + 3) = A1 (l + 3) := q _ (by omega)
      have q4 : A' 72 = A1 72 := q _ (by omega)
      unfold r3 hasC
      rw [q1, q2, q3, q4]
      exact ⟨hr, hh⟩
    have nof : inP (N 1) (fun _ => false) := fun p _ q => by cases q
    -- the end: it is heard
    have fin : ∀ (A' : xM) (cl th : Nat → Bool), (∀ b, b ≠ 82 → A' b = A1 b) → inP (N 1) cl → inP (N 1) th → (∀ p, p < 5 → (cl p && th p) = false) → (∀ p, p < 5 → cl p = (lea B tx (A 131) t s r e 1 K C && C p)) → (∀ p, p < 5 → th p = (lea B tx (A 131) t s r e 2 K C && D p)) → ∃ A2, bS (fX6_hear l (nI (mk5 (sgs B K C))) (nI (mk5 cl)) (nI (mk5 th)) A' V1 (.ref (tref t))) (fun A12 V13 c14 => some (A12, V13, c14)) = some (A2, V1, .ref (tref t)) ∧ r3 A2 l s (spr N B tx (A 131) t s r e K C D has) ∧ (∀ b, b ≠ 82 → b ≠ l + 1 → b ≠ l + 2 → b ≠ l + 3 → A2 b = A1 b) ∧ ∀ b j, b ≠ 82 → j ≠ s → A2 b j = A1 b j := by
      intro A' cl th q i1 i2 i3 i4 i5
      obtain ⟨g1, g2⟩ := tr3 A' q
      have hv2 : iv N B A' V1 tx cu := iv_agr (agr_1 ha (r := 82) rfl q) hv
      obtain ⟨A2, f1, f2, f3, f4⟩ := c_hear hv2 hs hs5 g1 hK g2 hC i1 i2 i3 (.ref (tref t))
      refine ⟨A2, by rw [f1, bS_s], ?_, fun b b0 b1 b2 b3 => (f3 b b1 b2 b3).trans (q b b0), fun b j b0 hj => (f4 b j hj).trans (by rw [q b b0])⟩
      refine r3_c (fun p hp => ?_) f2
      unfold spr
      rw [hS, if_pos rfl]
      exact lrn_c (i4 p hp) (i5 p hp) (fun _ => rfl)
    obtain ⟨A5, t1, t2⟩ := c_says (part := 1) hv ha ht (by decide) hn
    have t1 : fX6_says tx 1 A1 V1 (.ref (tref t)) = some (nI (lea B tx (A 131) t s r e 1 K C).toNat, A5, V1, .ref (tref t)) := t1
    rw [t1, bX_s]
    obtain ⟨A6, t3, t4⟩ := c_says (part := 2) (nm := nms (ct (kn K C)) (ct (sgs B K C)) (ct C) s r e) hv (agr_1 ha (r := 82) rfl t2) ht (by decide) (fun m hm => by rw [t2 83 (by decide)]; exact hn m hm)
    have t3 : fX6_says tx 2 A5 V1 (.ref (tref t)) = some (nI (lea B tx (A 131) t s r e 2 K C).toNat, A6, V1, .ref (tref t)) := t3
    have t5 : ∀ b, b ≠ 82 → A6 b = A1 b := fun b hb => (t4 b hb).trans (t2 b hb)
    rw [t3, bX_s, bX_s]
    have f1 := fin A5 (fun _ => false) (fun _ => false) t2 nof nof (fun _ _ => rfl)
    have f2 := fin A6 (fun _ => false) (fun _ => false) t5 nof nof (fun _ _ => rfl)
    have f3 := fin A6 (fun _ => false) D t5 nof hD (fun _ _ => rfl)
    have f4 := fin A5 C (fun _ => false) t2 hC nof (fun p _ => Bool.and_false _)
    have f5 := fin A6 C (fun _ => false) t5 hC nof (fun p _ => Bool.and_false _)
    have f6 := fin A6 C D t5 hC hD hCD
    cases hle : lea B tx (A 131) t s r e 1 K C with
    | false =>
      rw [hle] at f1 f2 f3
      rw [nbf, if_pos rfl]
      cases hD0 : anyp D with
      | false =>
        rw [if_pos (by rw [anyp_i]; exact hD0)]
        exact f1 (fun _ _ => rfl) (fun p hp => by rw [anyp_f hD0 p hp, Bool.and_false])
      | true =>
        rw [if_neg (by rw [anyp_i, hD0]; decide)]
        cases hwa : lea B tx (A 131) t s r e 2 K C with
        | false =>
          rw [nbf, if_pos rfl]
          exact f2 (fun _ _ => rfl) (fun p hp => by rw [hwa]; rfl)
        | true =>
          rw [nbt, if_neg (by decide)]
          exact f3 (fun _ _ => rfl) (fun p hp => by rw [hwa, Bool.true_and])
    | true =>
      rw [hle] at f4 f5 f6
      rw [nbt, if_neg (by decide)]
      cases hD0 : anyp D with
      | false =>
        rw [if_pos (by rw [anyp_i]; exact hD0)]
        exact f4 (fun p _ => by rw [Bool.true_and]) (fun p hp => by rw [anyp_f hD0 p hp, Bool.and_false])
      | true =>
        rw [if_neg (by rw [anyp_i, hD0]; decide)]
        cases hwa : lea B tx (A 131) t s r e 2 K C with
        | false =>
          rw [nbf, if_pos rfl]
          exact f5 (fun p _ => by rw [Bool.true_and]) (fun p hp => by rw [hwa]; rfl)
        | true =>
          rw [nbt, if_neg (by decide)]
          exact f6 (fun p _ => by rw [Bool.true_and]) (fun p hp => by rw [hwa, Bool.true_and])
theorem r_heard_z : ∀ k, k < 6 → ∀ x, x < 2 → fX9_heard (nI k) (nI x) 1 (fun _ _ => 0) (fun _ _ => 0) = some (nI (kt k 0 x)) ∧ fX9_heard (nI k) (nI x) 0 (fun _ _ => 0) (fun _ _ => 0) = some (nI (kt k 1 x)) := by decide +kernel
theorem r_heard1 (A V : xM) {k x : Nat} (hk : k < 6) (hx : x < 2) : fX9_heard (nI k) (nI x) 1 A V = some (nI (kt k 0 x)) := (r_heard_z k hk x hx).1
theorem r_heard0 (A V : xM) {k x : Nat} (hk : k < 6) (hx : x < 2) : fX9_heard (nI k) (nI x) 0 A V = some (nI (kt k 1 x)) := (r_heard_z k hk x hx).2
theorem r_begin_L {cl th : Nat → Bool} {sp : Bool} (hk : ∀ p, p < N 1 → B 2 p ≤ 5) (hK : ∀ p, p < N 1 → K p ≤ 3) (h5 : N 1 ≤ 5) (h4 : V1 132 4 = nI (N 1)) (h36 : V1 132 36 = nI sp.toNat) (c1 : Value) (ex : xM → xM → Value → Option (Int32 × xS)) : ∀ k i n (A1 : xM), i + k = N 1 → k < n → (∀ p, p < N 1 → A1 136 p = nI (B 2 p)) → (∀ p, p < i → A1 152 p = nI (lrn B K cl th has sp p)) → (∀ p, i ≤ p → p < N 1 → A1 152 p = nI (K p)) → ∃ A2, fX9_begin_L60 (nI (mk5 has)) (nI (mk5 cl)) (nI (mk5 th)) ex n (nI i) A1 V1 c1 = ex A2 V1 c1 ∧ (∀ p, p < N 1 → A2 152 p = nI (lrn B K cl th has sp p)) ∧ ∀ b, b ≠ 152 → A2 b = A1 b := by
  intro k
  induction k with
  | zero =>
    intro i n A1 hi hn ha h1 h2
    obtain ⟨n, rfl⟩ : ∃ m, n = m + 1 := ⟨n - 1, by omega⟩
    refine ⟨A1, ?_, fun p hp => h1 p (by omega), fun _ _ => rfl⟩
    rw [fX9_begin_L60, if_pos (by simp (disch := omega) only [ltI, leI, eqI, tI, tI1, ti_0, ti_1, ti_2, ti_3, ti_4, ti_5, ti_6, ti_7, ti_8, ti_9, ti_10, ti_11, ti_12, ti_14, ti_18, ti_30, ti_39, ti_40, ti_41, ti_45, ti_50, ti_59, ti_97, ti_99, ti_100, ti_122, ti_160, ti_243, ti_255, ti_399, ti_999, ti_1000, ti_1024, ti_99999, tm_1, tm_2, tm_3, tm_4, tm_5, tm_7, tm_11, tm_12, tm_13, tm_14, tm_100, if_pos, if_neg, if_true, if_false, bC_in, bI_s, bS_s, bX_s, bY_s, sO, tC, h4]; omega)]
  | succ k ih =>
    intro i n A1 hi hn ha h1 h2
    obtain ⟨n, rfl⟩ : ∃ m, n = m + 1 := ⟨n - 1, by omega⟩
    have hi5 : i < 5 := by omega
    have b1 := mk5_sh cl hi5
    have b2 := mk5_sh th hi5
    have b3 := mk5_sh has hi5
    have hki := hk i (by omega)
    have hKi := hK i (by omega)
    have hai := ha i (by omega)
    have hKa := h2 i (Nat.le_refl _) (by omega)
    have skip : lrn B K cl th has sp i = K i → ∃ A2, fX9_begin_L60 (nI (mk5 has)) (nI (mk5 cl)) (nI (mk5 th)) ex n (nI (i + 1)) A1 V1 c1 = ex A2 V1 c1 ∧ (∀ p, p < N 1 → A2 152 p = nI (lrn B K cl th has sp p)) ∧ ∀ b, b ≠ 152 → A2 b = A1 b := by
      intro q
      refine ih (i + 1) n A1 (by omega) (by omega) ha (fun p hp => ?_) (fun p hp => h2 p (by omega))
      by_cases z : p = i
      · subst z; rw [hKa, q]
      · exact h1 p (by omega)
    have put : ∀ x : Int32, x = nI (lrn B K cl th has sp i) → ∃ A2, fX9_begin_L60 (nI (mk5 has)) (nI (mk5 cl)) (nI (mk5 th)) ex n (nI (i + 1)) (aw A1 152 (nI i) x) V1 c1 = ex A2 V1 c1 ∧ (∀ p, p < N 1 → A2 152 p = nI (lrn B K cl th has sp p)) ∧ ∀ b, b ≠ 152 → A2 b = A1 b := by
      intro x hx
      have g1 : ∀ p, p < i + 1 → (aw A1 152 (nI i) x) 152 p = nI (lrn B K cl th has sp p) := by
        intro p hp
        rw [aw_s, tC (by omega)]
        by_cases z : p = i
        · subst z; rw [pk_us, hx]
        · rw [pk_un z]; exact h1 p (by omega)
      have g2 : ∀ p, i + 1 ≤ p → p < N 1 → (aw A1 152 (nI i) x) 152 p = nI (K p) := by
        intro p hp hp2
        rw [aw_s, tC (by omega), pk_un (by omega)]
        exact h2 p (by omega) hp2
      obtain ⟨A2, w1, w2, w3⟩ := ih (i + 1) n (aw A1 152 (nI i) x) (by omega) (by omega) (fun p hp => by rw [aw_n (by decide)]; exact ha p hp) g1 g2
      exact ⟨A2, w1, w2, fun b hb => (w3 b hb).trans (aw_n hb)⟩
    have hx0 : K i < 2 → kt (B 2 i) 0 (K i) ≤ 2 := fun q => kt_le (B 2 i) (by omega) 0 (by decide) (K i) q
    have hx1 : K i < 2 → kt (B 2 i) 1 (K i) ≤ 2 := fun q => kt_le (B 2 i) (by omega) 1 (by decide) (K i) q
    rw [fX9_begin_L60, if_neg (by simp (disch := omega) only [ltI, leI, eqI, tI, tI1, ti_0, ti_1, ti_2, ti_3, ti_4, ti_5, ti_6, ti_7, ti_8, ti_9, ti_10, ti_11, ti_12, ti_14, ti_18, ti_30, ti_39, ti_40, ti_41, ti_45, ti_50, ti_59, ti_97, ti_99, ti_100, ti_122, ti_160, ti_243, ti_255, ti_399, ti_999, ti_1000, ti_1024, ti_99999, tm_1, tm_2, tm_3, tm_4, tm_5, tm_7, tm_11, tm_12, tm_13, tm_14, tm_100, if_pos, if_neg, if_true, if_false, bC_in, bI_s, bS_s, bX_s, bY_s, sO, tC, h4]; omega), b1, b2, b3, sO, bC_in ⟨hi5, by decide⟩, bC_in ⟨hi5, by decide⟩, tC (by omega), hKa, hai]
    cases hc : cl i with
    | true =>
      rw [nbt, if_pos rfl]
      by_cases k2 : 2 ≤ K i
      · rw [if_pos (by simp (disch := omega) only [ltI, leI, eqI, tI, tI1, ti_0, ti_1, ti_2, ti_3, ti_4, ti_5, ti_6, ti_7, ti_8, ti_9, ti_10, ti_11, ti_12, ti_14, ti_18, ti_30, ti_39, ti_40, ti_41, ti_45, ti_50, ti_59, ti_97, ti_99, ti_100, ti_122, ti_160, ti_243, ti_255, ti_399, ti_999, ti_1000, ti_1024, ti_99999, tm_1, tm_2, tm_3, tm_4, tm_5, tm_7, tm_11, tm_12, tm_13, tm_14, tm_100, if_pos, if_neg, if_true, if_false, bC_in, bI_s, bS_s, bX_s, bY_s, sO, tC]; omega)]
        exact skip (lrn_0 (Or.inl k2))
      rw [if_neg (by simp (disch := omega) only [ltI, leI, eqI, tI, tI1, ti_0, ti_1, ti_2, ti_3, ti_4, ti_5, ti_6, ti_7, ti_8, ti_9, ti_10, ti_11, ti_12, ti_14, ti_18, ti_30, ti_39, ti_40, ti_41, ti_45, ti_50, ti_59, ti_97, ti_99, ti_100, ti_122, ti_160, ti_243, ti_255, ti_399, ti_999, ti_1000, ti_1024, ti_99999, tm_1, tm_2, tm_3, tm_4, tm_5, tm_7, tm_11, tm_12, tm_13, tm_14, tm_100, if_pos, if_neg, if_true, if_false, bC_in, bI_s, bS_s, bX_s, bY_s, sO, tC]; omega)]
      cases hh : has i with
      | false =>
        rw [nbf, if_neg (by decide)]
        exact skip (lrn_0 (Or.inr (Or.inl hh)))
      | true =>
        have e := lrn_1 (B := B) (th := th) (sp := sp) (show K i < 2 by omega) hh hc
        have hx0 := hx0 (by omega)
        rw [nbt, if_pos rfl, r_heard1 _ _ (by omega) (by omega), bI_s, h36]
        by_cases q : kt (B 2 i) 0 (K i) = 2
        · rw [if_pos (by rw [q]; rfl)]
          cases hsp : sp with
          | false =>
            rw [nbf, if_pos rfl, ← hsp]
            exact put _ (by rw [e, if_neg (by rw [hsp]; simp)])
          | true =>
            rw [nbt, if_neg (by decide), ← hsp]
            exact put _ (by rw [e, if_pos ⟨q, hsp⟩]; rfl)
        · rw [if_neg (by simp (disch := omega) only [ltI, leI, eqI, tI, tI1, ti_0, ti_1, ti_2, ti_3, ti_4, ti_5, ti_6, ti_7, ti_8, ti_9, ti_10, ti_11, ti_12, ti_14, ti_18, ti_30, ti_39, ti_40, ti_41, ti_45, ti_50, ti_59, ti_97, ti_99, ti_100, ti_122, ti_160, ti_243, ti_255, ti_399, ti_999, ti_1000, ti_1024, ti_99999, tm_1, tm_2, tm_3, tm_4, tm_5, tm_7, tm_11, tm_12, tm_13, tm_14, tm_100, if_pos, if_neg, if_true, if_false, bC_in, bI_s, bS_s, bX_s, bY_s, sO, tC]; omega)]
          exact put _ (by rw [e, if_neg (fun z => q z.1)])
    | false =>
      rw [nbf, if_neg (by decide)]
      by_cases k2 : 2 ≤ K i
      · rw [if_pos (by simp (disch := omega) only [ltI, leI, eqI, tI, tI1, ti_0, ti_1, ti_2, ti_3, ti_4, ti_5, ti_6, ti_7, ti_8, ti_9, ti_10, ti_11, ti_12, ti_14, ti_18, ti_30, ti_39, ti_40, ti_41, ti_45, ti_50, ti_59, ti_97, ti_99, ti_100, ti_122, ti_160, ti_243, ti_255, ti_399, ti_999, ti_1000, ti_1024, ti_99999, tm_1, tm_2, tm_3, tm_4, tm_5, tm_7, tm_11, tm_12, tm_13, tm_14, tm_100, if_pos, if_neg, if_true, if_false, bC_in, bI_s, bS_s, bX_s, bY_s, sO, tC]; omega)]
        exact skip (lrn_0 (Or.inl k2))
      rw [if_neg (by simp (disch := omega) only [ltI, leI, eqI, tI, tI1, ti_0, ti_1, ti_2, ti_3, ti_4, ti_5, ti_6, ti_7, ti_8, ti_9, ti_10, ti_11, ti_12, ti_14, ti_18, ti_30, ti_39, ti_40, ti_41, ti_45, ti_50, ti_59, ti_97, ti_99, ti_100, ti_122, ti_160, ti_243, ti_255, ti_399, ti_999, ti_1000, ti_1024, ti_99999, tm_1, tm_2, tm_3, tm_4, tm_5, tm_7, tm_11, tm_12, tm_13, tm_14, tm_100, if_pos, if_neg, if_true, if_false, bC_in, bI_s, bS_s, bX_s, bY_s, sO, tC]; omega)]
      cases hh : has i with
      | false =>
        rw [nbf, if_neg (by decide)]
        exact skip (lrn_0 (Or.inr (Or.inl hh)))
      | true =>
        rw [nbt, if_pos rfl]
        cases htt : th i with
        | false =>
          rw [nbf, if_neg (by decide)]
          exact skip (lrn_0 (Or.inr (Or.inr ⟨hc, htt⟩)))
        | true =>
          have e := lrn_2 (B := B) (sp := sp) (show K i < 2 by omega) hh hc htt
          have hx1 := hx1 (by omega)
          rw [nbt, if_pos rfl, r_heard0 _ _ (by omega) (by omega), bI_s, h36]
          by_cases q : kt (B 2 i) 1 (K i) = 2
          · rw [if_pos (by rw [q]; rfl)]
            cases hsp : sp with
            | false =>
              rw [nbf, if_pos rfl, ← hsp]
              exact put _ (by rw [e, if_neg (by rw [hsp]; simp)])
            | true =>
              rw [nbt, if_neg (by decide), ← hsp]
              exact put _ (by rw [e, if_pos ⟨q, hsp⟩]; rfl)
          · rw [if_neg (by simp (disch := omega) only [ltI, leI, eqI, tI, tI1, ti_0, ti_1, ti_2, ti_3, ti_4, ti_5, ti_6, ti_7, ti_8, ti_9, ti_10, ti_11, ti_12, ti_14, ti_18, ti_30, ti_39, ti_40, ti_41, ti_45, ti_50, ti_59, ti_97, ti_99, ti_100, ti_122, ti_160, ti_243, ti_255, ti_399, ti_999, ti_1000, ti_1024, ti_99999, tm_1, tm_2, tm_3, tm_4, tm_5, tm_7, tm_11, tm_12, tm_13, tm_14, tm_100, if_pos, if_neg, if_true, if_false, bC_in, bI_s, bS_s, bX_s, bY_s, sO, tC]; omega)]
            exact put _ (by rw [e, if_neg (fun z => q z.1)])
theorem r_begin (hv : iv N B A V tx cu) (ha : agr A V A1 V1) (c1 : Value) (hC : inP (N 1) C) {t s r e : Nat} (ht : t ≤ tx.length) (hK : ∀ p, p < N 1 → A1 152 p = nI (K p) ∧ K p ≤ 3) (D has : Nat → Bool) : ∃ A2 V2, fX9_begin (nI t) (nI s) (nI r) (nI (mk5 C)) (nI (mk5 D)) (nI e) (nI (mk5 has)) A1 V1 c1 = some (nI (myp B tx (A 131) t s r e K C).toNat, A2, V2, c1) ∧ (∀ b, b ≠ 150 → b ≠ 151 → b ≠ 152 → A2 b = A1 b) ∧ (∀ p, p < N 1 → A2 152 p = nI (nxt N B tx (A 131) t s r e K C D has p)) ∧ ∀ a j, ¬ (a = 132 ∧ (j = 35 ∨ j = 36)) → V2 a j = V1 a j := by
  obtain ⟨A2, V2, w1, w2, w3, w4, w5, w6⟩ := r_may hv ha c1 hC (s := s) (r := r) (e := e) ht hK
  have hv1 : iv N B A1 V1 tx cu := iv_agr ha hv
  obtain ⟨v1, v2, v3, v4, v5, -⟩ := id hv1
  obtain ⟨-, ⟨p1, p2, p3⟩, -⟩ := v1
  unfold fX9_begin
  rw [w1, bX_s]
  have K2 : ∀ p, p < N 1 → A2 152 p = nI (K p) := fun p hp => by rw [w2 152 (by decide) (by decide)]; exact (hK p hp).1
  cases hm : myp B tx (A 131) t s r e K C with
  | false =>
    rw [nbf, if_pos rfl]
    refine ⟨A2, V2, rfl, fun b h1 h2 _ => w2 b h1 h2, fun p hp => ?_, w5⟩
    unfold nxt
    rw [hm, if_neg (by decide)]
    exact K2 p hp
  | true =>
    have en : nxt N B tx (A 131) t s r e K C D has = spr N B tx (A 131) t s r e K C D has := by unfold nxt; rw [hm, if_pos rfl]
    rw [nbt, if_neg (by decide), w3, en]
    cases hS : anyp (sgs B K C) with
    | false =>
      rw [if_pos (by rw [anyp_i]; exact hS)]
      refine ⟨A2, V2, rfl, fun b h1 h2 _ => w2 b h1 h2, fun p hp => ?_, w5⟩
      unfold spr
      rw [hS, if_neg (by decide)]
      exact K2 p hp
    | true =>
      rw [if_neg (by rw [anyp_i, hS]; decide)]
      have ha2 : agr A V A2 V2 := by
        refine ⟨fun a q => ?_, fun a j q => ?_⟩
        · rw [w2 a (fun z => by subst z; cases q) (fun z => by subst z; cases q)]
          exact ha.1 a q
        · rw [w5 a j (by rintro ⟨rfl, rfl | rfl⟩ <;> cases q)]
          exact ha.2 a j q
      obtain ⟨A5, t1, t2⟩ := r_says (part := 1) hv ha2 c1 ht (by decide) w6
      have t1 : fX9_says (nI t) 1 A2 V2 c1 = some (nI (lea B tx (A 131) t s r e 1 K C).toNat, A5, V2, c1) := t1
      obtain ⟨A6, t3, t4⟩ := r_says (part := 2) (nm := nms (ct (kn K C)) (ct (sgs B K C)) (ct C) s r e) hv (agr_1 ha2 (r := 150) rfl t2) c1 ht (by decide) (fun m hm => by rw [t2 151 (by decide)]; exact w6 m hm)
      have t3 : fX9_says (nI t) 2 A5 V2 c1 = some (nI (lea B tx (A 131) t s r e 2 K C).toNat, A6, V2, c1) := t3
      have t5 : ∀ b, b ≠ 150 → A6 b = A2 b := fun b hb => (t4 b hb).trans (t2 b hb)
      rw [t1, bX_s, t3, bX_s, bX_s]
      have fin : ∀ (cl th : Nat → Bool), (∀ p, p < 5 → cl p = (lea B tx (A 131) t s r e 1 K C && C p)) → (∀ p, p < 5 → th p = (lea B tx (A 131) t s r e 2 K C && D p)) → ∃ A9 V9, fX9_begin_L60 (nI (mk5 has)) (nI (mk5 cl)) (nI (mk5 th)) (fun (A50 V51 : xM) (c52 : Value) => some ((1 : Int32), A50, V51, c52)) FU 0 A6 V2 c1 = some (nI (true : Bool).toNat, A9, V9, c1) ∧ (∀ b, b ≠ 150 → b ≠ 151 → b ≠ 152 → A9 b = A1 b) ∧ (∀ p, p < N 1 → A9 152 p = nI (spr N B tx (A 131) t s r e K C D has p)) ∧ ∀ a j, ¬ (a = 132 ∧ (j = 35 ∨ j = 36)) → V9 a j = V1 a j := by
        intro cl th i1 i2
        obtain ⟨A9, g1, g2, g3⟩ := r_begin_L (N := N) (B := B) (K := K) (has := has) (cl := cl) (th := th) (sp := spt N B K C) (fun p hp => (v5 p hp).1.2.2) (fun p hp => (hK p hp).2) p3 ((w5 132 4 (by omega)).trans p2) w4 c1 (fun (A50 V51 : xM) (c52 : Value) => some ((1 : Int32), A50, V51, c52)) (N 1) 0 FU A6 (by omega) (fu_gt (by omega)) (fun p hp => by rw [t5 136 (by decide), w2 136 (by decide) (by decide)]; exact (v5 p hp).1.2.1) (fun p hp => by omega) (fun p _ hp => by rw [t5 152 (by decide)]; exact K2 p hp)
        refine ⟨A9, V2, g1, fun b b1 b2 b3 => ?_, fun p hp => ?_, w5⟩
        · rw [g3 b b3, t5 b b1, w2 b b1 b2]
        · rw [g2 p hp]
          unfold spr
          rw [hS, if_pos rfl]
          exact congrArg nI (lrn_c (i1 p (by omega)) (i2 p (by omega)) (fun _ => rfl))
      cases hle : lea B tx (A 131) t s r e 1 K C with
      | false =>
        rw [hle] at fin
        rw [nbf, if_pos rfl]
        cases hwa : lea B tx (A 131) t s r e 2 K C with
        | false =>
          rw [hwa] at fin
          rw [nbf, if_pos rfl]
          exact fin (fun _ => false) (fun _ => false) (fun _ _ => rfl) (fun _ _ => rfl)
        | true =>
          rw [hwa] at fin
          rw [nbt, if_neg (by decide)]
          exact fin (fun _ => false) D (fun _ _ => rfl) (fun _ _ => by rw [Bool.true_and])
      | true =>
        rw [hle] at fin
        rw [nbt, if_neg (by decide)]
        cases hwa : lea B tx (A 131) t s r e 2 K C with
        | false =>
          rw [hwa] at fin
          rw [nbf, if_pos rfl]
          exact fin C (fun _ => false) (fun _ _ => by rw [Bool.true_and]) (fun _ _ => rfl)
        | true =>
          rw [hwa] at fin
          rw [nbt, if_neg (by decide)]
          exact fin C D (fun _ _ => by rw [Bool.true_and]) (fun _ _ => by rw [Bool.true_and])
end SPREAD
