/-! PLANS, the class: whether a company moves. -/
def nC (N : Nat → Nat) (B : Nat → Nat → Nat) (tx : List xh_T) (f0 : Nat → Int32) (nd : Int32) (s r : Nat) (K : Nat → Nat) (c : Nat) : Nat → Nat := fun p => min (rK N B tx f0 nd s r K c p) 2
def chg (K K' : Nat → Nat) : Nat → Bool := fun p => (Nat.ble 2 (K' p) != Nat.ble 2 (K p)) || ((K' p == 1) != (K p == 1))
def mvd (N : Nat → Nat) (B : Nat → Nat → Nat) (tx : List xh_T) (f0 : Nat → Int32) (nd : Int32) (s r : Nat) (K : Nat → Nat) (c no : Nat) : Bool := myp B tx f0 (N 3) s r 0 K (bt c) && (anyp (chg K (nC N B tx f0 nd s r K c)) && !anyp (fun p => chg K (nC N B tx f0 nd s r K c) p && bt no p))
theorem min2b : ∀ x, Nat.ble 2 (min x 2) = Nat.ble 2 x := by
  intro x
  apply Bool.eq_iff_iff.mpr
  rw [Nat.ble_eq, Nat.ble_eq]
  omega
theorem min21 : ∀ x, (min x 2 == 1) = (x == 1) := by
  intro x
  apply Bool.eq_iff_iff.mpr
  rw [beq_iff_eq, beq_iff_eq]
  omega
theorem ble_f {n m : Nat} (h : m < n) : Nat.ble n m = false := by
  cases z : Nat.ble n m with
  | false => rfl
  | true => have := Nat.ble_eq.mp z; omega
theorem anyp_0 {f : Nat → Bool} (h : ∀ p, p < 5 → f p = false) : anyp f = false := by
  rw [← anyp_i, m_0]
  exact h
section MV
variable {N : Nat → Nat} {B : Nat → Nat → Nat} {A V A1 V1 : xM} {tx : List xh_T} {cu : Value} {K : Nat → Nat} {C has : Nat → Bool}
theorem wC_min {f K : Nat → Nat} (h : ∀ p, p < 5 → K p = min (f p) 2) : wC K = wC f ∧ hC' K = hC' f := ⟨congrArg nI (mk5_c (fun p hp => by rw [h p hp, min2b])), congrArg nI (mk5_c (fun p hp => by rw [h p hp, min21]))⟩
theorem mvd_f {f0 : Nat → Int32} {nd : Int32} {s r c no : Nat} (hK : ∀ p, p < 5 → K p ≤ 2) (h : myp B tx f0 (N 3) s r 0 K (bt c) = true → ∀ p, p < 5 → rK N B tx f0 nd s r K c p = K p) : mvd N B tx f0 nd s r K c no = false := by
  unfold mvd
  cases q : myp B tx f0 (N 3) s r 0 K (bt c) with
  | false => rfl
  | true =>
    rw [anyp_0 (fun p hp => ?_)]
    · rfl
    · unfold chg nC
      rw [h q p hp, min2b, min21]
      simp
theorem c_moved (hv : iv N B A V tx cu) (ha : agr A V A1 V1) {s r j c no : Nat} (hs : s < N 0) (hj : j < 243) (hc : c < 2 ^ N 1) (hno : no < 32) (e12 : V1 84 13 = nI s) (e5 : V1 81 5 = nI s) (hn : n83 A1 s r) (hcO : cOK tx (A 131) (N 3) s r A1) (hK : ∀ p, p < 5 → K p ≤ 2) (w91 : A1 90 j = wC K) (w92 : A1 91 j = hC' K) (h86 : ∀ t, t < 6 → t ≠ s → A1 86 t = A 74 t) : ∃ A2, fX3_isMoved tx (nI j) (nI c) (nI no) A1 V1 (.ref (tref (N 3))) = some (nI (mvd N B tx (A 131) (A 135 s) s r K c no).toNat, A2, V1, .ref (tref (N 3))) ∧ (mvd N B tx (A 131) (A 135 s) s r K c no = true → A2 86 s = wC (nC N B tx (A 131) (A 135 s) s r K c) ∧ A2 87 s = hC' (nC N B tx (A 131) (A 135 s) s r K c)) ∧ (∀ q, q ≠ 82 → q ≠ 83 → q ≠ 86 → q ≠ 87 → q ≠ 88 → q ≠ 94 → A2 q = A1 q) ∧ n83 A2 s r ∧ cOK tx (A 131) (N 3) s r A2 ∧ ∀ t, t < 6 → t ≠ s → A2 86 t = A 74 t := by
  obtain ⟨v1, v2, v3, v4, v5, v6, v7, v8, v9, v10, v11, v12, v13⟩ := id hv
  obtain ⟨⟨s1, s2, s3⟩, ⟨p1, p2, p3⟩, -, ⟨t1, t2, t3⟩, ⟨l1, l2, l3⟩, -⟩ := v1
  have h32 := p2_32 _ p3
  have hc32 : c < 32 := by omega
  have hC := bt_p p3 hc
  have hs6 : s < 6 := by omega
  obtain ⟨A', hA'⟩ : ∃ A', A' = aw (aw A1 86 (nI s) (wC K)) 87 (nI s) (hC' K) := ⟨_, rfl⟩
  have o' : ∀ q, q ≠ 86 → q ≠ 87 → A' q = A1 q := fun q q1 q2 => by rw [hA', aw_n q2, aw_n q1]
  have w86 : A' (85 + 1) s = nI (mk5 (fun p => Nat.ble 2 (K p))) := by
    show A' 86 s = _
    rw [hA', aw_n (by decide), aw_s, tC (by omega), pk_us]
    rfl
  have w87 : A' (85 + 2) s = nI (mk5 (fun p => K p == 1)) := by
    show A' 87 s = _
    rw [hA', aw_s, tC (by omega), pk_us]
    rfl
  have x86 : ∀ t, t < 6 → t ≠ s → A' 86 t = A 74 t := fun t ht hts => by
    rw [hA', aw_n (by decide), aw_s, tC (by omega), pk_un hts]
    exact h86 t ht hts
  have ha' : agr A V A' V1 := by rw [hA']; exact agr_w (agr_w ha rfl) rfl
  have hv' : iv N B A' V1 tx cu := iv_agr ha' hv
  have hn' : n83 A' s r := by
    unfold n83
    rw [o' 83 (by decide) (by decide)]
    exact hn
  have hcO' : cOK tx (A 131) (N 3) s r A' := by
    unfold cOK
    rw [o' 94 (by decide) (by decide)]
    exact hcO
  have hhas : hasC A' 85 s (hsf (B 5) (A 135 s)) := by
    have e72 : A' 72 s = A 135 s := by rw [ha'.1 72 rfl]; exact (v4 s hs).1
    rcases (v4 s hs).2 with h2 | ⟨i, hi, h2⟩
    · left
      have h2 : A 135 s = -1 := (v4 s hs).1.symm.trans h2
      refine ⟨by rw [e72, h2], fun p _ => ?_⟩
      unfold hsf
      rw [h2]
      rfl
    · right
      have h2 : A 135 s = nI i := (v4 s hs).1.symm.trans h2
      refine ⟨i, by omega, by rw [e72, h2], ?_⟩
      show A' 86 i = _
      rw [x86 i (by omega) (by omega), (v7.2.1 i (by omega)).1]
      refine congrArg nI (mk5_c (fun p _ => ?_))
      unfold hsf
      rw [h2, decide_eq_false (by simp (disch := omega) only [ltI, leI, eqI, tI, tI1, ti_0, ti_1, ti_2, ti_3, ti_4, ti_5, ti_6, ti_7, ti_8, ti_9, ti_10, ti_11, ti_12, ti_14, ti_18, ti_30, ti_39, ti_40, ti_41, ti_45, ti_50, ti_59, ti_97, ti_99, ti_100, ti_122, ti_160, ti_243, ti_255, ti_399, ti_999, ti_1000, ti_1024, ti_99999, tm_1, tm_2, tm_3, tm_4, tm_5, tm_7, tm_11, tm_12, tm_13, tm_14, tm_100, if_pos, if_neg, if_true, if_false, bC_in, bI_s, bS_s, bX_s, bY_s, sO, tC]; omega), Bool.false_or, tC (by omega)]
  have hsg : fX6_singers 85 (nI c) A' V1 = some (nI (mk5 (sgs B K (bt c)))) := by
    have := c_singers (K := K) (C := bt c) (l := 85) hv' hC hs6 e5 w86
    rw [bt_mk c hc32] at this
    exact this
  obtain ⟨xa, a1, -, a3⟩ := c_able hs6 e5 w86 hhas
  have a3 := a3 (bt c)
  rw [bt_mk c hc32] at a3
  have same : ∀ q, q ≠ 82 → q ≠ 83 → q ≠ 86 → q ≠ 87 → q ≠ 88 → q ≠ 94 → A' q = A1 q := fun q _ _ q1 q2 _ _ => o' q q1 q2
  -- nothing comes of it
  have no1 : ∀ A2 : xM, (myp B tx (A 131) (N 3) s r 0 K (bt c) = true → ∀ p, p < 5 → rK N B tx (A 131) (A 135 s) s r K c p = K p) → (∀ q, q ≠ 82 → q ≠ 83 → q ≠ 86 → q ≠ 87 → q ≠ 88 → q ≠ 94 → A2 q = A1 q) → n83 A2 s r → cOK tx (A 131) (N 3) s r A2 → (∀ t, t < 6 → t ≠ s → A2 86 t = A 74 t) → ∃ A3, (some ((0 : Int32), A2, V1, Value.ref (tref (N 3))) : Option (Int32 × xS)) = some (nI (mvd N B tx (A 131) (A 135 s) s r K c no).toNat, A3, V1, .ref (tref (N 3))) ∧ (mvd N B tx (A 131) (A 135 s) s r K c no = true → A3 86 s = wC (nC N B tx (A 131) (A 135 s) s r K c) ∧ A3 87 s = hC' (nC N B tx (A 131) (A 135 s) s r K c)) ∧ (∀ q, q ≠ 82 → q ≠ 83 → q ≠ 86 → q ≠ 87 → q ≠ 88 → q ≠ 94 → A3 q = A1 q) ∧ n83 A3 s r ∧ cOK tx (A 131) (N 3) s r A3 ∧ ∀ t, t < 6 → t ≠ s → A3 86 t = A 74 t := by
    intro A2 q1 q2 q3 q4 q5
    have := mvd_f (no := no) hK q1
    rw [this]
    exact ⟨A2, rfl, fun z => by (cases z), q2, q3, q4, q5⟩
  unfold fX3_isMoved
  rw [bC_in ⟨hj, by decide⟩, e12, bC_in ⟨hs6, by decide⟩, tC (show j < 2 ^ 20 by omega), w91, w92, ← hA']
  unfold fX6_couldTeach
  rw [hsg, bI_s]
  by_cases c1 : anyp (sgs B K (bt c)) = true
  rotate_left
  · have c1 : anyp (sgs B K (bt c)) = false := by simpa using c1
    rw [if_pos (by rw [anyp_i]; exact c1), bI_s, if_pos rfl]
    refine no1 A' (fun q p hp => ?_) same hn' hcO' x86
    unfold rK nxt spr
    rw [if_pos q, c1, if_neg (by decide)]
  rw [if_neg (by rw [anyp_i, c1]; decide), a1, bI_s, a3]
  have rKl : myp B tx (A 131) (N 3) s r 0 K (bt c) = true → rK N B tx (A 131) (A 135 s) s r K c = lrn B K (fun p => lea B tx (A 131) (N 3) s r 0 1 K (bt c) && bt c p) (fun p => lea B tx (A 131) (N 3) s r 0 2 K (bt c) && false) (hsf (B 5) (A 135 s)) (spt N B K (bt c)) := by
    intro q
    unfold rK nxt spr
    rw [if_pos q, if_pos c1]
  by_cases c2 : nI (mk5 (fun p => bt c p && (hsf (B 5) (A 135 s) p && !Nat.ble 2 (K p)))) = 0
  · rw [if_pos c2, bI_s, if_pos rfl]
    rw [m_0] at c2
    refine no1 A' (fun q p hp => ?_) same hn' hcO' x86
    rw [rKl q]
    refine lrn_0 ?_
    have := c2 p hp
    by_cases z : 2 ≤ K p
    · exact Or.inl z
    right
    cases z1 : hsf (B 5) (A 135 s) p with
    | false => exact Or.inl rfl
    | true =>
      right
      rw [z1, ble_f (by omega)] at this
      have : bt c p = false := by simpa using this
      rw [this, Bool.and_false, Bool.and_false]
      exact ⟨rfl, rfl⟩
  have hkn : wC K &&& nI c = nI (mk5 (kn K (bt c))) := by
    have := m_and (fun p => Nat.ble 2 (K p)) (bt c)
    rw [bt_mk c hc32] at this
    exact this.trans (congrArg nI (mk5_c (fun p _ => Bool.and_comm _ _)))
  rw [if_neg c2, bI_s, if_neg (by decide), bI_s, hkn, m_cnt, bI_s, m_cnt, bI_s, m_cnt_c hc32, bI_s]
  obtain ⟨A2, y1, y2, y3, y4⟩ := c_lesson hv ha' hn' hcO' (ct_le (kn K (bt c))) (ct_le (sgs B K (bt c))) (ct_le (bt c))
  have e86 : A2 86 = A' 86 := y2 86 (by decide) (by decide) (by decide)
  have e87 : A2 87 = A' 87 := y2 87 (by decide) (by decide) (by decide)
  have e72 : A2 72 = A' 72 := y2 72 (by decide) (by decide) (by decide)
  have same2 : ∀ q, q ≠ 82 → q ≠ 83 → q ≠ 86 → q ≠ 87 → q ≠ 88 → q ≠ 94 → A2 q = A1 q := fun q q1 q2 q3 q4 q5 q6 => (y2 q q1 q2 q6).trans (same q q1 q2 q3 q4 q5 q6)
  have ha2 : agr A V A2 V1 := ⟨fun a q => by
    rw [y2 a (fun z => by subst z; cases q) (fun z => by subst z; cases q) (fun z => by subst z; cases q)]
    exact ha'.1 a q, ha'.2⟩
  rw [y1, bX_s]
  have el : lsn tx (A 131) (N 3) s r (ct (kn K (bt c))) (ct (sgs B K (bt c))) (ct (bt c)) = (myp B tx (A 131) (N 3) s r 0 K (bt c) && lea B tx (A 131) (N 3) s r 0 1 K (bt c)) := rfl
  rw [el]
  cases h1 : myp B tx (A 131) (N 3) s r 0 K (bt c) with
  | false =>
    rw [Bool.false_and, nbf, if_pos rfl]
    exact no1 A2 (fun q => by rw [h1] at q; cases q) same2 y3 y4 (fun t ht hts => by rw [e86]; exact x86 t ht hts)
  | true =>
    rw [Bool.true_and]
    cases h2 : lea B tx (A 131) (N 3) s r 0 1 K (bt c) with
    | false =>
      rw [nbf, if_pos rfl]
      refine no1 A2 (fun q p hp => ?_) same2 y3 y4 (fun t ht hts => by rw [e86]; exact x86 t ht hts)
      rw [rKl q]
      exact lrn_0 (Or.inr (Or.inr ⟨by rw [h2]; rfl, Bool.and_false _⟩))
    | true =>
      rw [nbt, if_neg (by decide)]
      have hh2 : hasC A2 85 s (hsf (B 5) (A 135 s)) := by
        unfold hasC
        rw [e72]
        show _ ∨ ∃ j, j < 6 ∧ _ ∧ A2 86 j = _
        rw [e86]
        exact hhas
      obtain ⟨A3, z1, z2, z3, z4, z5'⟩ := c_hear2 (K := K) (l := 85) (s := s) (has := hsf (B 5) (A 135 s)) (cl := bt c) (th := fun _ => false) (iv_agr (cu' := cu) ha2 hv) hs6 e5 (by show A2 86 s = _; rw [e86]; exact w86) (by show A2 87 s = _; rw [e87]; exact w87) (fun p hp => by have := hK p hp; omega) hh2 (nI (mk5 (sgs B K (bt c)))) (spt N B K (bt c)) hC (fun p _ q => by cases q) (fun p _ => Bool.and_false _) (.ref (tref (N 3)))
      have z1 : fX6_hear 85 (nI (mk5 (sgs B K (bt c)))) (nI (mk5 (bt c))) 0 A2 V1 (.ref (tref (N 3))) = some (A3, V1, .ref (tref (N 3))) := z1
      rw [bt_mk c hc32] at z1
      have pe : ∀ p, p < 5 → nC N B tx (A 131) (A 135 s) s r K c p = min (lrn B K (bt c) (fun _ => false) (hsf (B 5) (A 135 s)) (spt N B K (bt c)) p) 2 := by
        intro p hp
        unfold nC
        rw [rKl h1]
        exact congrArg (fun x => min x 2) (lrn_c (by rw [h2]; rfl) (Bool.and_false _) (fun _ => rfl))
      obtain ⟨pe1, pe2⟩ := wC_min pe
      have z2 : A3 86 s = wC (nC N B tx (A 131) (A 135 s) s r K c) := z2.trans pe1.symm
      have z3 : A3 87 s = hC' (nC N B tx (A 131) (A 135 s) s r K c) := z3.trans pe2.symm
      have same3 : ∀ q, q ≠ 82 → q ≠ 83 → q ≠ 86 → q ≠ 87 → q ≠ 88 → q ≠ 94 → A3 q = A1 q := fun q q1 q2 q3 q4 q5 q6 => (z4 q q3 q4 q5).trans (same2 q q1 q2 q3 q4 q5 q6)
      have n3 : n83 A3 s r := by
        unfold n83
        rw [z4 83 (by decide) (by decide) (by decide)]
        exact y3
      have cO3 : cOK tx (A 131) (N 3) s r A3 := by
        unfold cOK
        rw [z4 94 (by decide) (by decide) (by decide)]
        exact y4
      have r3' : ∀ t, t < 6 → t ≠ s → A3 86 t = A 74 t := fun t ht hts => by
        rw [z5' 86 t hts, e86]
        exact x86 t ht hts
      have hx : (wC (nC N B tx (A 131) (A 135 s) s r K c) ^^^ wC K) ||| (hC' (nC N B tx (A 131) (A 135 s) s r K c) ^^^ hC' K) = nI (mk5 (chg K (nC N B tx (A 131) (A 135 s) s r K c))) := by
        unfold wC hC'
        rw [m_xor, m_xor, m_or]
        rfl
      have hx2 : nI (mk5 (chg K (nC N B tx (A 131) (A 135 s) s r K c))) &&& nI no = nI (mk5 (fun p => chg K (nC N B tx (A 131) (A 135 s) s r K c) p && bt no p)) := by
        have := m_and (chg K (nC N B tx (A 131) (A 135 s) s r K c)) (bt no)
        rw [bt_mk no hno] at this
        exact this
      rw [z1, bS_s, e12, bC_in ⟨hs6, by decide⟩, tC (show s < 2 ^ 20 by omega), z2, z3, hx, hx2]
      unfold mvd
      rw [h1, Bool.true_and]
      cases g1 : anyp (chg K (nC N B tx (A 131) (A 135 s) s r K c)) with
      | false =>
        rw [if_pos (by rw [anyp_i]; exact g1)]
        exact ⟨A3, rfl, fun z => by (cases z), same3, n3, cO3, r3'⟩
      | true =>
        rw [if_neg (by rw [anyp_i, g1]; decide)]
        cases g2 : anyp (fun p => chg K (nC N B tx (A 131) (A 135 s) s r K c) p && bt no p) with
        | false =>
          rw [if_pos (by rw [anyp_i]; exact g2)]
          exact ⟨A3, rfl, fun _ => ⟨z2, z3⟩, same3, n3, cO3, r3'⟩
        | true =>
          rw [if_neg (by rw [anyp_i, g2]; decide)]
          exact ⟨A3, rfl, fun z => by (cases z), same3, n3, cO3, r3'⟩
end MV
