/-! PLANS, the class's steps. -/
theorem st3 : ∀ a0 a1 a2 a3 a4 b0 b1 b2 b3 b4 : Bool, fX3_standing (nI (mkb a0 a1 a2 a3 a4)) (nI (mkb b0 b1 b2 b3 b4)) (fun _ _ => 0) (fun _ _ => 0) = some (nI (2 * (a0.toNat + 3 * a1.toNat + 9 * a2.toNat + 27 * a3.toNat + 81 * a4.toNat) + (b0.toNat + 3 * b1.toNat + 9 * b2.toNat + 27 * b3.toNat + 81 * b4.toNat))) := by decide +kernel
theorem k2_e : ∀ k, k ≤ 2 → 2 * (Nat.ble 2 k).toNat + (k == 1).toNat = k := by decide
def wC (K : Nat → Nat) : Int32 := nI (mk5 (fun p => Nat.ble 2 (K p)))
def hC' (K : Nat → Nat) : Int32 := nI (mk5 (fun p => K p == 1))
theorem c_stand {K : Nat → Nat} (hK : ∀ p, p < 5 → K p ≤ 2) (A V : xM) : fX3_standing (wC K) (hC' K) A V = some (nI (cd 3 K 5)) := by
  have h := st3 (Nat.ble 2 (K 0)) (Nat.ble 2 (K 1)) (Nat.ble 2 (K 2)) (Nat.ble 2 (K 3)) (Nat.ble 2 (K 4)) (K 0 == 1) (K 1 == 1) (K 2 == 1) (K 3 == 1) (K 4 == 1)
  have e : cd 3 K 5 = 2 * ((Nat.ble 2 (K 0)).toNat + 3 * (Nat.ble 2 (K 1)).toNat + 9 * (Nat.ble 2 (K 2)).toNat + 27 * (Nat.ble 2 (K 3)).toNat + 81 * (Nat.ble 2 (K 4)).toNat) + ((K 0 == 1).toNat + 3 * (K 1 == 1).toNat + 9 * (K 2 == 1).toNat + 27 * (K 3 == 1).toNat + 81 * (K 4 == 1).toNat) := by
    have h0 := k2_e _ (hK 0 (by omega))
    have h1 := k2_e _ (hK 1 (by omega))
    have h2 := k2_e _ (hK 2 (by omega))
    have h3 := k2_e _ (hK 3 (by omega))
    have h4 := k2_e _ (hK 4 (by omega))
    simp only [cd, show (3 : Nat) ^ 0 = 1 from rfl, show (3 : Nat) ^ 1 = 3 from rfl, show (3 : Nat) ^ 2 = 9 from rfl, show (3 : Nat) ^ 3 = 27 from rfl, show (3 : Nat) ^ 4 = 81 from rfl]
    omega
  rw [e]
  exact h
theorem wC_c {K K' : Nat → Nat} (h : ∀ p, p < 5 → K p = K' p) : wC K = wC K' ∧ hC' K = hC' K' := ⟨congrArg nI (mk5_c (fun p hp => by rw [h p hp])), congrArg nI (mk5_c (fun p hp => by rw [h p hp]))⟩
theorem cd3 {K : Nat → Nat} (hK : ∀ p, p < 5 → K p ≤ 2) : cd 3 K 5 < 243 := cd_lt (b := 3) (by decide) 5 (fun p hp => by have := hK p hp; omega)
section CL
variable {N : Nat → Nat} {B : Nat → Nat → Nat} {A V A1 V1 : xM} {tx : List xh_T} {cu : Value} {K : Nat → Nat} {C has : Nat → Bool}
theorem c_hear2 (hv : iv N B A1 V1 tx cu) {l s : Nat} (hs : s < 6) (hs5 : V1 81 5 = nI s) (r1 : A1 (l + 1) s = nI (mk5 (fun p => Nat.ble 2 (K p)))) (r2 : A1 (l + 2) s = nI (mk5 (fun p => K p == 1))) (hK : ∀ p, p < 5 → K p ≤ 3) (hh : hasC A1 l s has) (sg' : Int32) (sp : Bool) {cl th : Nat → Bool} (h1 : inP (N 1) cl) (h2 : inP (N 1) th) (h3 : ∀ p, p < 5 → (cl p && th p) = false) (c1 : Value) : ∃ A2, fX6_hear l sg' (nI (mk5 cl)) (nI (mk5 th)) A1 V1 c1 = some (A2, V1, c1) ∧ A2 (l + 1) s = wC (lrn B K cl th has sp) ∧ A2 (l + 2) s = hC' (lrn B K cl th has sp) ∧ (∀ b, b ≠ l + 1 → b ≠ l + 2 → b ≠ l + 3 → A2 b = A1 b) ∧ ∀ b j, j ≠ s → A2 b j = A1 b j := by
  obtain ⟨v1, v2, v3, v4, v5, v6, v7, v8, v9, v10, v11, v12, v13⟩ := id hv
  obtain ⟨x, x1, x2, -⟩ := c_able hs hs5 r1 hh
  have hkk : ∀ p, p < N 1 → B 2 p ≤ 5 := fun p hp => (v5 p hp).1.2.2
  have pw := fun p hp => lrn_pw (N := N) (B := B) (K := K) (cl := cl) (th := th) (has := has) (sp := sp) hp hkk (hK p hp) h1 h2 (h3 p hp)
  unfold fX6_hear
  rw [x1, bI_s, hs5, bC_in ⟨hs, by decide⟩, tC (by omega), x2, x2, r2]
  have cw0 : ∀ c h, fX2_wholeOf (nI (mk5 c)) 0 (nI (mk5 h)) A1 V1 = some (nI (mk5 (ho N B 0 2 c h))) := fun c h => c_wholeOf hv (w := 0) (by decide) c h
  have cw1 : ∀ c h, fX2_wholeOf (nI (mk5 c)) 1 (nI (mk5 h)) A1 V1 = some (nI (mk5 (ho N B 1 2 c h))) := fun c h => c_wholeOf hv (w := 1) (by decide) c h
  have ch0 : ∀ c h, fX2_halfOf (nI (mk5 c)) 0 (nI (mk5 h)) A1 V1 = some (nI (mk5 (ho N B 0 1 c h))) := fun c h => c_halfOf hv (w := 0) (by decide) c h
  have ch1 : ∀ c h, fX2_halfOf (nI (mk5 c)) 1 (nI (mk5 h)) A1 V1 = some (nI (mk5 (ho N B 1 1 c h))) := fun c h => c_halfOf hv (w := 1) (by decide) c h
  rw [cw0, bI_s, cw1, bI_s, ch0, bI_s, ch1, bI_s]
  rw [aw_n (show l + 1 ≠ l + 2 by omega), r1, m_or, m_or, m_or, m_or, m_sub, m_or]
  have hX := congrArg nI (mk5_c (fun p hp => (pw p hp).1))
  have hY := congrArg nI (mk5_c (fun p hp => (pw p hp).2.1))
  have fin : ∀ X Y Z : Int32, X = wC (lrn B K cl th has sp) → Y = hC' (lrn B K cl th has sp) → (aw (aw (aw A1 (l + 2) (nI s) Y) (l + 1) (nI s) X) (l + 3) (nI s) Z) (l + 1) s = wC (lrn B K cl th has sp) ∧ (aw (aw (aw A1 (l + 2) (nI s) Y) (l + 1) (nI s) X) (l + 3) (nI s) Z) (l + 2) s = hC' (lrn B K cl th has sp) ∧ (∀ b, b ≠ l + 1 → b ≠ l + 2 → b ≠ l + 3 → (aw (aw (aw A1 (l + 2) (nI s) Y) (l + 1) (nI s) X) (l + 3) (nI s) Z) b = A1 b) ∧ ∀ b j, j ≠ s → (aw (aw (aw A1 (l + 2) (nI s) Y) (l + 1) (nI s) X) (l + 3) (nI s) Z) b j = A1 b j := by
    intro X Y Z hX hY
    refine ⟨?_, ?_, ?_, ?_⟩
    · rw [aw_n (by omega), aw_s, tC (by omega), pk_us, hX]
    · rw [aw_n (by omega), aw_n (by omega), aw_s, tC (by omega), pk_us, hY]
    · intro b b1 b2 b3
      rw [aw_n b3, aw_n b1, aw_n b2]
    · intro b j hj
      by_cases b3 : b = l + 3
      · rw [b3, aw_s, tC (by omega), pk_un hj, aw_n (by omega), aw_n (by omega)]
      · rw [aw_n b3]
        by_cases b1 : b = l + 1
        · rw [b1, aw_s, tC (by omega), pk_un hj, aw_n (by omega)]
        · rw [aw_n b1]
          by_cases b2 : b = l + 2
          · rw [b2, aw_s, tC (by omega), pk_un hj]
          · rw [aw_n b2]
  split
  · split
    · refine ⟨_, rfl, ?_, ?_, ?_, ?_⟩
      · rw [aw_s, tC (by omega), pk_us]; exact hX
      · rw [aw_n (by omega), aw_s, tC (by omega), pk_us]; exact hY
      · intro b b1 b2 b3
        rw [aw_n b1, aw_n b2]
      · intro b j hj
        by_cases b1 : b = l + 1
        · rw [b1, aw_s, tC (by omega), pk_un hj, aw_n (by omega)]
        · rw [aw_n b1]
          by_cases b2 : b = l + 2
          · rw [b2, aw_s, tC (by omega), pk_un hj]
          · rw [aw_n b2]
    · obtain ⟨f1, f2, f3, f4⟩ := fin _ _ _ hX hY
      exact ⟨_, rfl, f1, f2, f3, f4⟩
  · obtain ⟨f1, f2, f3, f4⟩ := fin _ _ _ hX hY
    exact ⟨_, rfl, f1, f2, f3, f4⟩
/-- what is said of a lesson -/
def lsn (tx : List xh_T) (f0 : Nat → Int32) (t s r k w b : Nat) : Bool := sy tx f0 t 0 (nms k w b s r 0) && sy tx f0 t 1 (nms k w b s r 0)
def cOK (tx : List xh_T) (f0 : Nat → Int32) (t s r : Nat) (A : xM) : Prop := ∀ k w b, k ≤ 5 → w ≤ 5 → b ≤ 5 → A 94 ((k * 6 + w) * 6 + b) = -1 ∨ A 94 ((k * 6 + w) * 6 + b) = nI (lsn tx f0 t s r k w b).toNat
def n83 (A : xM) (s r : Nat) : Prop := A 83 3 = nI s ∧ A 83 4 = nI r ∧ A 83 5 = nI 0
theorem cOK_u {f0 : Nat → Int32} {t s r : Nat} (h : cOK tx f0 t s r A1) {A2 : xM} (e : A2 94 = A1 94) {k w b : Nat} (hk : k ≤ 5) (hw : w ≤ 5) (hb : b ≤ 5) {x : Int32} (hx : x = nI (lsn tx f0 t s r k w b).toNat) : cOK tx f0 t s r (aw A2 94 (nI ((k * 6 + w) * 6 + b)) x) := by
  intro k' w' b' h1 h2 h3
  rw [aw_s, tC (by omega), e]
  by_cases q : (k' * 6 + w') * 6 + b' = (k * 6 + w) * 6 + b
  · have q1 : k' = k := by omega
    have q2 : w' = w := by omega
    have q3 : b' = b := by omega
    rw [q, pk_us, hx, q1, q2, q3]
    exact Or.inr rfl
  · rw [pk_un q]
    exact h k' w' b' h1 h2 h3
theorem c_lesson (hv : iv N B A V tx cu) (ha : agr A V A1 V1) {s r k w b : Nat} (hn : n83 A1 s r) (hc : cOK tx (A 131) (N 3) s r A1) (hk : k ≤ 5) (hw : w ≤ 5) (hb : b ≤ 5) : ∃ A2, fX3_isLesson tx (nI k) (nI w) (nI b) A1 V1 (.ref (tref (N 3))) = some (nI (lsn tx (A 131) (N 3) s r k w b).toNat, A2, V1, .ref (tref (N 3))) ∧ (∀ q, q ≠ 82 → q ≠ 83 → q ≠ 94 → A2 q = A1 q) ∧ n83 A2 s r ∧ cOK tx (A 131) (N 3) s r A2 := by
  obtain ⟨v1, v2, v3, v4, v5, v6, v7, v8, v9, v10, v11, v12, v13⟩ := id hv
  obtain ⟨⟨s1, s2, s3⟩, ⟨p1, p2, p3⟩, -, ⟨t1, t2, t3⟩, ⟨l1, l2, l3⟩, -⟩ := v1
  have ix : (nI k * 6 + nI w) * 6 + nI b = nI ((k * 6 + w) * 6 + b) := by
    rw [show (6 : Int32) = nI 6 from rfl, pk_mul, nI_add, pk_mul, nI_add]
  have fin : ∀ (A' : xM) (bl : Bool), (if aw A' 94 (nI ((k * 6 + w) * 6 + b)) (nI bl.toNat) 94 ((k * 6 + w) * 6 + b) = (1 : Int32) then (some ((1 : Int32), aw A' 94 (nI ((k * 6 + w) * 6 + b)) (nI bl.toNat), V1, Value.ref (tref (N 3))) : Option (Int32 × xS)) else some ((0 : Int32), aw A' 94 (nI ((k * 6 + w) * 6 + b)) (nI bl.toNat), V1, Value.ref (tref (N 3)))) = some (nI bl.toNat, aw A' 94 (nI ((k * 6 + w) * 6 + b)) (nI bl.toNat), V1, Value.ref (tref (N 3))) := by
    intro A' bl
    rw [aw_s, tC (by omega), pk_us]
    cases bl
    · rw [nbf, if_neg (by decide)]
    · rw [nbt, if_pos rfl]
  unfold fX3_isLesson
  rw [ix, if_neg (by simp (disch := omega) only [ltI, leI, eqI, tI, tI1, ti_0, ti_1, ti_2, ti_3, ti_4, ti_5, ti_6, ti_7, ti_8, ti_9, ti_10, ti_11, ti_12, ti_14, ti_18, ti_30, ti_39, ti_40, ti_41, ti_45, ti_50, ti_59, ti_97, ti_99, ti_100, ti_122, ti_160, ti_243, ti_255, ti_399, ti_999, ti_1000, ti_1024, ti_99999, tm_1, tm_2, tm_3, tm_4, tm_5, tm_7, tm_11, tm_12, tm_13, tm_14, tm_100, if_pos, if_neg, if_true, if_false, bC_in, bI_s, bS_s, bX_s, bY_s, sO, tC]; omega), if_pos (by show nI _ < nI 216; simp (disch := omega) only [ltI, leI, eqI, tI, tI1, ti_0, ti_1, ti_2, ti_3, ti_4, ti_5, ti_6, ti_7, ti_8, ti_9, ti_10, ti_11, ti_12, ti_14, ti_18, ti_30, ti_39, ti_40, ti_41, ti_45, ti_50, ti_59, ti_97, ti_99, ti_100, ti_122, ti_160, ti_243, ti_255, ti_399, ti_999, ti_1000, ti_1024, ti_99999, tm_1, tm_2, tm_3, tm_4, tm_5, tm_7, tm_11, tm_12, tm_13, tm_14, tm_100, if_pos, if_neg, if_true, if_false, bC_in, bI_s, bS_s, bX_s, bY_s, sO, tC]; omega), bC_in ⟨by omega, by decide⟩, tC (by omega)]
  by_cases q : A1 94 ((k * 6 + w) * 6 + b) = -1
  rotate_left
  · have e := (hc k w b hk hw hb).resolve_left q
    rw [if_neg q, e]
    refine ⟨A1, ?_, fun _ _ _ _ => rfl, hn, hc⟩
    cases lsn tx (A 131) (N 3) s r k w b
    · rw [nbf, if_neg (by decide)]
    · rw [nbt, if_pos rfl]
  rw [if_pos q]
  have hnm : ∀ m, m < 6 → (aw (aw (aw A1 83 (0 : Int32) (nI k)) 83 (1 : Int32) (nI w)) 83 (2 : Int32) (nI b)) 83 m = nms k w b s r 0 m := by
    intro m hm
    match m, hm with
    | 0, _ => rfl
    | 1, _ => rfl
    | 2, _ => rfl
    | 3, _ => exact hn.1
    | 4, _ => exact hn.2.1
    | 5, _ => exact hn.2.2
  have ha2 : agr A V (aw (aw (aw A1 83 (0 : Int32) (nI k)) 83 (1 : Int32) (nI w)) 83 (2 : Int32) (nI b)) V1 := agr_w (agr_w (agr_w ha rfl) rfl) rfl
  obtain ⟨A2, x1, x2⟩ := c_says (part := 0) hv ha2 l3 (by decide) hnm
  have x1 : fX6_says tx 0 (aw (aw (aw A1 83 (0 : Int32) (nI k)) 83 (1 : Int32) (nI w)) 83 (2 : Int32) (nI b)) V1 (.ref (tref (N 3))) = some (nI (sy tx (A 131) (N 3) 0 (nms k w b s r 0)).toNat, A2, V1, .ref (tref (N 3))) := x1
  have ha3 : agr A V A2 V1 := agr_1 ha2 (r := 82) rfl x2
  have hnm2 : ∀ m, m < 6 → A2 83 m = nms k w b s r 0 m := fun m hm => by rw [x2 83 (by decide)]; exact hnm m hm
  have e93 : A2 94 = A1 94 := by rw [x2 94 (by decide)]; rfl
  have ot : ∀ q, q ≠ 82 → q ≠ 83 → A2 q = A1 q := fun q h1 h2 => (x2 q h1).trans (by rw [aw_n h2, aw_n h2, aw_n h2])
  unfold fX6_before
  rw [bS_s, x1, bX_s]
  cases h0 : sy tx (A 131) (N 3) 0 (nms k w b s r 0) with
  | false =>
    have el : lsn tx (A 131) (N 3) s r k w b = false := by unfold lsn; rw [h0]; rfl
    rw [nbf, if_pos rfl]
    refine ⟨aw A2 94 (nI ((k * 6 + w) * 6 + b)) 0, ?_, fun q h1 h2 h3 => by rw [aw_n h3]; exact ot q h1 h2, ⟨by rw [aw_n (by decide)]; exact hnm2 3 (by decide), by rw [aw_n (by decide)]; exact hnm2 4 (by decide), by rw [aw_n (by decide)]; exact hnm2 5 (by decide)⟩, cOK_u hc e93 hk hw hb (by rw [el]; rfl)⟩
    rw [el]
    exact fin A2 false
  | true =>
    rw [nbt, if_neg (by decide)]
    obtain ⟨A4, y1, y2⟩ := c_says (part := 1) hv ha3 l3 (by decide) hnm2
    have y1 : fX6_says tx 1 A2 V1 (.ref (tref (N 3))) = some (nI (sy tx (A 131) (N 3) 1 (nms k w b s r 0)).toNat, A4, V1, .ref (tref (N 3))) := y1
    have el : lsn tx (A 131) (N 3) s r k w b = sy tx (A 131) (N 3) 1 (nms k w b s r 0) := by unfold lsn; rw [h0]; rfl
    have f93 : A4 94 = A1 94 := by rw [y2 94 (by decide)]; exact e93
    have n4 : n83 A4 s r := ⟨by rw [y2 83 (by decide)]; exact hnm2 3 (by decide), by rw [y2 83 (by decide)]; exact hnm2 4 (by decide), by rw [y2 83 (by decide)]; exact hnm2 5 (by decide)⟩
    rw [y1, bX_s]
    cases h1 : sy tx (A 131) (N 3) 1 (nms k w b s r 0) with
    | false =>
      rw [h1] at el
      rw [nbf, if_pos rfl]
      refine ⟨aw A4 94 (nI ((k * 6 + w) * 6 + b)) 0, ?_, fun q h1 h2 h3 => by rw [aw_n h3, y2 q h1]; exact ot q h1 h2, ⟨by rw [aw_n (by decide)]; exact n4.1, by rw [aw_n (by decide)]; exact n4.2.1, by rw [aw_n (by decide)]; exact n4.2.2⟩, cOK_u hc f93 hk hw hb (by rw [el]; rfl)⟩
      rw [el]
      exact fin A4 false
    | true =>
      rw [h1] at el
      rw [nbt, if_neg (by decide)]
      refine ⟨aw A4 94 (nI ((k * 6 + w) * 6 + b)) 1, ?_, fun q h1 h2 h3 => by rw [aw_n h3, y2 q h1]; exact ot q h1 h2, ⟨by rw [aw_n (by decide)]; exact n4.1, by rw [aw_n (by decide)]; exact n4.2.1, by rw [aw_n (by decide)]; exact n4.2.2⟩, cOK_u hc f93 hk hw hb (by rw [el]; rfl)⟩
      rw [el]
      exact fin A4 true
end CL
