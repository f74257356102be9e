/-! FEASTS, and asks. -/
def K0 (B : Nat → Nat → Nat) (s : Nat) : Nat → Nat := fun p => B 5 (6 * p + s)
def mf (N : Nat → Nat) (B : Nat → Nat → Nat) (tx : List xh_T) (f0 : Nat → Int32) (s r : Nat) (C : Nat → Bool) : Bool := myp B tx f0 (N 3) s r 0 (K0 B s) C
theorem law_ok {tx : List xh_T} {t : Nat} (h : t ≤ tx.length) (h5 : tx.length ≤ 5) : (xq_in (nI t) 6 && Nat.ble (nI t).toNatClampNeg tx.length) = true := by
  rw [xin (by omega) (by decide), tC (by omega), Nat.ble_eq.mpr h]
  rfl
theorem law_ok2 {tx : List xh_T} {t : Nat} (h : t ≤ tx.length) (h5 : tx.length ≤ 5) : (xq_in (nI t) 6 && Nat.ble t tx.length) = true := by
  rw [xin (by omega) (by decide), Nat.ble_eq.mpr h]
  rfl
section FE
variable {N : Nat → Nat} {B : Nat → Nat → Nat} {A V A1 V1 : xM} {tx : List xh_T} {cu : Value} {C : Nat → Bool}
theorem c_maf (hv : iv N B A V tx cu) (ha : agr A V A1 V1) (c1 : Value) (hC : inP (N 1) C) {s : Nat} (hs : s < 6) (r : Nat) : ∃ A2 V2, fX8_mayAtFirst tx (nI s) (nI r) (nI (mk5 C)) A1 V1 c1 = some (nI (mf N B tx (A 131) s r C).toNat, A2, V2, .ref (tref (N 3))) ∧ agr A V A2 V2 ∧ (∀ b, b ≠ 82 → b ≠ 83 → A2 b = A1 b) ∧ V2 = up2 V1 81 5 (nI s) ∧ ∀ m, m < 6 → A2 83 m = nms (ct (kn (K0 B s) C)) (ct (sgs B (K0 B s) C)) (ct C) s r 0 m := by
  obtain ⟨v1, v2, v3, v4, v5, v6, v7, v8, v9, v10, v11, v12, v13⟩ := id hv
  obtain ⟨-, -, -, ⟨t1, t2, t3⟩, ⟨l1, l2, l3⟩, -⟩ := v1
  have e16 : V1 64 16 = nI (N 3) := (ha.2 64 16 rfl).trans l1
  have e74 : A1 74 = A 74 := ha.1 74 rfl
  unfold fX8_mayAtFirst
  rw [e16, bC_t (law_ok l3 t3), tC (by omega)]
  unfold fX6_begin
  rw [bS_s]
  have ha2 : agr A V (aw (aw (aw A1 83 (3 : Int32) (nI s)) 83 (4 : Int32) (nI r)) 83 (5 : Int32) (0 : Int32)) (up2 V1 81 5 (nI s)) := agr_v (agr_w (agr_w (agr_w ha rfl) rfl) rfl) rfl
  obtain ⟨A2, w1, w2, w3⟩ := c_may (K := K0 B s) (l := 73) (r := r) (e := 0) hv ha2 hC l3 hs (up2_s _ _ _ _) (by rw [aw_n (by decide), aw_n (by decide), aw_n (by decide)]; show A1 74 s = _; rw [e74]; exact (v7.2.1 s hs).1) rfl rfl rfl
  rw [w1, bX_s, bC_b]
  refine ⟨A2, _, rfl, ⟨fun a q => ?_, ha2.2⟩, fun b b1 b2 => ?_, rfl, w3⟩
  · rw [w2 a (fun z => by subst z; cases q) (fun z => by subst z; cases q)]
    exact ha2.1 a q
  · rw [w2 b b1 b2, aw_n b2, aw_n b2, aw_n b2]
theorem r_take_L {l s : Nat} (hl : l ≠ 152) (hs : s < 6) (h5 : N 1 ≤ 5) (h4 : V1 132 4 = nI (N 1)) (c1 : Value) (ex : xM → xM → Value → Option xS) : ∀ k i n (A1 : xM), i + k = N 1 → k < n → ∃ A2, fX9_take_L2 l (nI s) ex n (nI i) A1 V1 c1 = ex A2 V1 c1 ∧ (∀ p, i ≤ p → p < N 1 → A2 152 p = A1 l (6 * p + s)) ∧ (∀ p, p < i → A2 152 p = A1 152 p) ∧ ∀ b, b ≠ 152 → A2 b = A1 b := by
  intro k
  induction k with
  | zero =>
    intro i n A1 hi hn
    obtain ⟨n, rfl⟩ : ∃ m, n = m + 1 := ⟨n - 1, by omega⟩
    refine ⟨A1, ?_, fun p h1 h2 => by omega, fun _ _ => rfl, fun _ _ => rfl⟩
    rw [fX9_take_L2, if_pos (by simp (disch := omega) only [ltI, leI, eqI, tI, tI1, ti_0, ti_1, ti_2, ti_3, ti_4, ti_5, ti_6, ti_7, ti_8, ti_9, ti_10, ti_11, ti_12, ti_14, ti_18, ti_30, ti_39, ti_40, ti_41, ti_45, ti_50, ti_59, ti_97, ti_99, ti_100, ti_122, ti_160, ti_243, ti_255, ti_399, ti_999, ti_1000, ti_1024, ti_99999, tm_1, tm_2, tm_3, tm_4, tm_5, tm_7, tm_11, tm_12, tm_13, tm_14, tm_100, if_pos, if_neg, if_true, if_false, bC_in, bI_s, bS_s, bX_s, bY_s, sO, tC, h4]; omega)]
  | succ k ih =>
    intro i n A1 hi hn
    obtain ⟨n, rfl⟩ : ∃ m, n = m + 1 := ⟨n - 1, by omega⟩
    have i6 : (6 : Int32) * nI i + nI s = nI (6 * i + s) := by rw [show (6 : Int32) = nI 6 from rfl, pk_mul, nI_add]
    obtain ⟨A2, w1, w2, w3, w4⟩ := ih (i + 1) n (aw A1 152 (nI i) (A1 l (6 * i + s))) (by omega) (by omega)
    refine ⟨A2, ?_, fun p h1 h2 => ?_, fun p hp => ?_, fun b hb => (w4 b hb).trans (aw_n hb)⟩
    · rw [fX9_take_L2, if_neg (by simp (disch := omega) only [ltI, leI, eqI, tI, tI1, ti_0, ti_1, ti_2, ti_3, ti_4, ti_5, ti_6, ti_7, ti_8, ti_9, ti_10, ti_11, ti_12, ti_14, ti_18, ti_30, ti_39, ti_40, ti_41, ti_45, ti_50, ti_59, ti_97, ti_99, ti_100, ti_122, ti_160, ti_243, ti_255, ti_399, ti_999, ti_1000, ti_1024, ti_99999, tm_1, tm_2, tm_3, tm_4, tm_5, tm_7, tm_11, tm_12, tm_13, tm_14, tm_100, if_pos, if_neg, if_true, if_false, bC_in, bI_s, bS_s, bX_s, bY_s, sO, tC, h4]; omega), i6, bC_in ⟨by omega, by decide⟩, bC_in ⟨by omega, by decide⟩, sO, tC (by omega)]
      exact w1
    · by_cases q : p = i
      · subst q
        rw [w3 p (by omega), aw_s, tC (by omega), pk_us]
      · rw [w2 p (by omega) h2, aw_n hl]
    · rw [w3 p (by omega), aw_s, tC (by omega), pk_un (by omega)]
theorem r_take {l s : Nat} (hl : l ≠ 152) (hs : s < 6) (h5 : N 1 ≤ 5) (h4 : V1 132 4 = nI (N 1)) (c1 : Value) : ∃ A2, fX9_take l (nI s) A1 V1 c1 = some (A2, V1, c1) ∧ (∀ p, p < N 1 → A2 152 p = A1 l (6 * p + s)) ∧ ∀ b, b ≠ 152 → A2 b = A1 b := by
  obtain ⟨A2, w1, w2, w3, w4⟩ := r_take_L hl hs h5 h4 c1 (fun (A8 V9 : xM) (c10 : Value) => some (A8, V9, c10)) (N 1) 0 FU A1 (by omega) (fu_gt (by omega))
  exact ⟨A2, w1, fun p hp => w2 p (Nat.zero_le _) hp, w4⟩
theorem r_maf (hv : iv N B A V tx cu) (ha : agr A V A1 V1) (c1 : Value) (hC : inP (N 1) C) {s : Nat} (hs : s < 6) (r : Nat) : ∃ A2 V2, fX9_mayBefore (nI s) (nI r) (nI (mk5 C)) A1 V1 c1 = some (nI (mf N B tx (A 131) s r C).toNat, A2, V2, c1) ∧ agr A V A2 V2 := by
  obtain ⟨v1, v2, v3, v4, v5, v6, v7, v8, v9, v10, v11, v12, v13⟩ := id hv
  obtain ⟨-, ⟨p1, p2, p3⟩, -, ⟨t1, t2, t3⟩, ⟨l1, l2, l3⟩, -⟩ := v1
  have e16 : V1 132 16 = nI (N 3) := (ha.2 132 16 rfl).trans l2
  have e4 : V1 132 4 = nI (N 1) := (ha.2 132 4 rfl).trans p2
  have e138 : A1 139 = A 139 := ha.1 139 rfl
  obtain ⟨A2, w1, w2, w3⟩ := r_take (A1 := A1) (l := 139) (by decide) hs p3 e4 c1
  have ha2 : agr A V A2 V1 := agr_1 ha (r := 152) rfl w3
  obtain ⟨A3, V3, x1, x2, -, -, x5, -⟩ := r_may (K := K0 B s) (s := s) (r := r) (e := 0) hv ha2 c1 hC l3 (fun p hp => ⟨by rw [w2 p hp, e138]; exact v7.2.2 _ (by omega), (v7.1 p s (by omega) hs).1⟩)
  have x1 : fX9_may (nI (N 3)) (nI s) (nI r) (nI (mk5 C)) 0 A2 V1 c1 = some (nI (mf N B tx (A 131) s r C).toNat, A3, V3, c1) := x1
  refine ⟨A3, V3, ?_, ⟨fun a q => ?_, fun a j q => ?_⟩⟩
  · unfold fX9_mayBefore
    rw [w1, bS_s, e16, x1, bX_s, bC_b]
  · rw [x2 a (fun z => by subst z; cases q) (fun z => by subst z; cases q)]
    exact ha2.1 a q
  · rw [x5 a j (by rintro ⟨rfl, rfl | rfl⟩ <;> cases q)]
    exact ha2.2 a j q
/-- bits gathered -/
def fb (f : Nat → Bool) : Nat → Nat
  | 0 => 0
  | i + 1 => fb f i + (if f i = true then 2 ^ i else 0)
theorem fb_lt (f : Nat → Bool) : ∀ i, fb f i < 2 ^ i
  | 0 => Nat.one_pos
  | i + 1 => by
    have := fb_lt f i
    rw [fb, Nat.pow_succ]
    split <;> omega
theorem fb_or : ∀ i, i < 6 → ∀ x, x < 2 ^ i → nI x ||| (1 : Int32) <<< (nI i &&& 31) = nI (x + 2 ^ i) := by decide +kernel
theorem fb_t {f : Nat → Bool} {i : Nat} (hi : i < 6) (h : f i = true) : nI (fb f i) ||| (1 : Int32) <<< (nI i &&& 31) = nI (fb f (i + 1)) := by
  rw [fb_or i hi _ (fb_lt f i), fb, if_pos h]
theorem fb_f {f : Nat → Bool} {i : Nat} (h : f i = false) : fb f (i + 1) = fb f i := by
  rw [fb, if_neg (by rw [h]; decide), Nat.add_zero]
theorem or0 (x : Int32) : x ||| 0 = x := Int32.or_zero
theorem c_feast (hv : iv N B A V tx cu) (hC : inP (N 1) C) (r : Nat) (ex : Int32 → xM → xM → Value → Option (Int32 × xS)) : ∀ k i n (A1 V1 : xM) (c1 : Value), agr A V A1 V1 → i + k = N 0 → k < n → ∃ A2 V2 c2, fX8_feast_L23 tx (nI r) (nI (mk5 C)) ex n (nI (fb (fun s => mf N B tx (A 131) s r C) i)) (nI i) A1 V1 c1 = ex (nI (fb (fun s => mf N B tx (A 131) s r C) (N 0))) A2 V2 c2 ∧ agr A V A2 V2 := by
  obtain ⟨⟨s1, s2, s3⟩, -⟩ := id hv.1
  intro k
  induction k with
  | zero =>
    intro i n A1 V1 c1 ha hi hn
    obtain ⟨n, rfl⟩ : ∃ m, n = m + 1 := ⟨n - 1, by omega⟩
    have : i = N 0 := by omega
    have e := (ha.2 64 13 rfl).trans s1
    refine ⟨A1, V1, c1, ?_, ha⟩
    rw [fX8_feast_L23, this, if_pos (by simp (disch := omega) only [ltI, leI, eqI, tI, tI1, ti_0, ti_1, ti_2, ti_3, ti_4, ti_5, ti_6, ti_7, ti_8, ti_9, ti_10, ti_11, ti_12, ti_14, ti_18, ti_30, ti_39, ti_40, ti_41, ti_45, ti_50, ti_59, ti_97, ti_99, ti_100, ti_122, ti_160, ti_243, ti_255, ti_399, ti_999, ti_1000, ti_1024, ti_99999, tm_1, tm_2, tm_3, tm_4, tm_5, tm_7, tm_11, tm_12, tm_13, tm_14, tm_100, if_pos, if_neg, if_true, if_false, bC_in, bI_s, bS_s, bX_s, bY_s, sO, tC, e]; omega)]
  | succ k ih =>
    intro i n A1 V1 c1 ha hi hn
    obtain ⟨n, rfl⟩ : ∃ m, n = m + 1 := ⟨n - 1, by omega⟩
    have e := (ha.2 64 13 rfl).trans s1
    obtain ⟨A2, V2, w1, w2, -⟩ := c_maf hv ha c1 hC (s := i) (by omega) r
    rw [fX8_feast_L23, if_neg (by simp (disch := omega) only [ltI, leI, eqI, tI, tI1, ti_0, ti_1, ti_2, ti_3, ti_4, ti_5, ti_6, ti_7, ti_8, ti_9, ti_10, ti_11, ti_12, ti_14, ti_18, ti_30, ti_39, ti_40, ti_41, ti_45, ti_50, ti_59, ti_97, ti_99, ti_100, ti_122, ti_160, ti_243, ti_255, ti_399, ti_999, ti_1000, ti_1024, ti_99999, tm_1, tm_2, tm_3, tm_4, tm_5, tm_7, tm_11, tm_12, tm_13, tm_14, tm_100, if_pos, if_neg, if_true, if_false, bC_in, bI_s, bS_s, bX_s, bY_s, sO, tC, e]; omega), if_neg (by simp (disch := omega) only [ltI, leI, eqI, tI, tI1, ti_0, ti_1, ti_2, ti_3, ti_4, ti_5, ti_6, ti_7, ti_8, ti_9, ti_10, ti_11, ti_12, ti_14, ti_18, ti_30, ti_39, ti_40, ti_41, ti_45, ti_50, ti_59, ti_97, ti_99, ti_100, ti_122, ti_160, ti_243, ti_255, ti_399, ti_999, ti_1000, ti_1024, ti_99999, tm_1, tm_2, tm_3, tm_4, tm_5, tm_7, tm_11, tm_12, tm_13, tm_14, tm_100, if_pos, if_neg, if_true, if_false, bC_in, bI_s, bS_s, bX_s, bY_s, sO, tC]; omega), w1, bX_s, sO]
    have t := ih (i + 1) n A2 V2 (.ref (tref (N 3))) w2 (by omega) (by omega)
    cases hm : mf N B tx (A 131) i r C with
    | false =>
      rw [nbf, if_pos rfl]
      rw [fb_f (f := fun s => mf N B tx (A 131) s r C) hm] at t
      exact t
    | true =>
      rw [nbt, if_neg (by decide), fb_t (f := fun s => mf N B tx (A 131) s r C) (by omega) hm]
      exact t
theorem r_feast (hv : iv N B A V tx cu) (hC : inP (N 1) C) (r : Nat) (ex : Int32 → xM → xM → Value → Option (Int32 × xS)) : ∀ k i n (A1 V1 : xM) (c1 : Value), agr A V A1 V1 → i + k = N 0 → k < n → ∃ A2 V2 c2, fX9_feast_L25 (nI r) (nI (mk5 C)) ex n (nI (fb (fun s => mf N B tx (A 131) s r C) i)) (nI i) A1 V1 c1 = ex (nI (fb (fun s => mf N B tx (A 131) s r C) (N 0))) A2 V2 c2 ∧ agr A V A2 V2 := by
  obtain ⟨⟨s1, s2, s3⟩, -⟩ := id hv.1
  intro k
  induction k with
  | zero =>
    intro i n A1 V1 c1 ha hi hn
    obtain ⟨n, rfl⟩ : ∃ m, n = m + 1 := ⟨n - 1, by omega⟩
    have : i = N 0 := by omega
    have e := (ha.2 132 2 rfl).trans s2
    refine ⟨A1, V1, c1, ?_, ha⟩
    rw [fX9_feast_L25, this, if_pos (by simp (disch := omega) only [ltI, leI, eqI, tI, tI1, ti_0, ti_1, ti_2, ti_3, ti_4, ti_5, ti_6, ti_7, ti_8, ti_9, ti_10, ti_11, ti_12, ti_14, ti_18, ti_30, ti_39, ti_40, ti_41, ti_45, ti_50, ti_59, ti_97, ti_99, ti_100, ti_122, ti_160, ti_243, ti_255, ti_399, ti_999, ti_1000, ti_1024, ti_99999, tm_1, tm_2, tm_3, tm_4, tm_5, tm_7, tm_11, tm_12, tm_13, tm_14, tm_100, if_pos, if_neg, if_true, if_false, bC_in, bI_s, bS_s, bX_s, bY_s, sO, tC, e]; omega)]
  | succ k ih =>
    intro i n A1 V1 c1 ha hi hn
    obtain ⟨n, rfl⟩ : ∃ m, n = m + 1 := ⟨n - 1, by omega⟩
    have e := (ha.2 132 2 rfl).trans s2
    obtain ⟨A2, V2, w1, w2⟩ := r_maf hv ha c1 hC (s := i) (by omega) r
    rw [fX9_feast_L25, if_neg (by simp (disch := omega) only [ltI, leI, eqI, tI, tI1, ti_0, ti_1, ti_2, ti_3, ti_4, ti_5, ti_6, ti_7, ti_8, ti_9, ti_10, ti_11, ti_12, ti_14, ti_18, ti_30, ti_39, ti_40, ti_41, ti_45, ti_50, ti_59, ti_97, ti_99, ti_100, ti_122, ti_160, ti_243, ti_255, ti_399, ti_999, ti_1000, ti_1024, ti_99999, tm_1, tm_2, tm_3, tm_4, tm_5, tm_7, tm_11, tm_12, tm_13, tm_14, tm_100, if_pos, if_neg, if_true, if_false, bC_in, bI_s, bS_s, bX_s, bY_s, sO, tC, e]; omega), w1, bX_s, sO, or0]
    have t := ih (i + 1) n A2 V2 c1 w2 (by omega) (by omega)
    cases hm : mf N B tx (A 131) i r C with
    | false =>
      rw [nbf, if_pos rfl]
      rw [fb_f (f := fun s => mf N B tx (A 131) s r C) hm] at t
      exact t
    | true =>
      rw [nbt, if_neg (by decide), fb_t (f := fun s => mf N B tx (A 131) s r C) (by omega) hm]
      exact t
theorem bt_p {n c : Nat} (hn : n ≤ 5) (hc : c < 2 ^ n) : inP n (bt c) := fun p hp q => by
  by_cases h : p < n
  · exact h
  · rw [bt_f n hn c hc p hp (by omega)] at q; cases q
end FE
section OPS52
variable {LL : Nat} {xs : Nat → Int32} {d : Nat}
theorem op_asks (hd : 70 ≤ d) (a b c e : Int32) : iv_op (xk_ro LL xs) d 77 158 [.int a, .int b, .int c, .int e] := by
  refine op_mk (fc := fun tx A V cu => fX8_asks tx a b c e A V cu) (fm := fun tx A V cu => fX9_asks a b c e A V cu) (fun tx A V cu r A' V' c' q => sX8_asks (by omega) q) (fun tx A V cu r A' V' c' q => sX9_asks (by omega) q) ?_
  intro N B A V tx cu hv
  obtain ⟨-, -, -, ⟨t1, t2, t3⟩, ⟨l1, l2, l3⟩, -⟩ := id hv.1
  unfold fX8_asks fX9_asks
  rcases ix3 a 3 (by omega) with h | h | ⟨i, hi, rfl⟩
  · exact ⟨-2, A, V, cu, by simp (disch := omega) only [ltI, leI, eqI, tI, tI1, ti_0, ti_1, ti_2, ti_3, ti_4, ti_5, ti_6, ti_7, ti_8, ti_9, ti_10, ti_11, ti_12, ti_14, ti_18, ti_30, ti_39, ti_40, ti_41, ti_45, ti_50, ti_59, ti_97, ti_99, ti_100, ti_122, ti_160, ti_243, ti_255, ti_399, ti_999, ti_1000, ti_1024, ti_99999, tm_1, tm_2, tm_3, tm_4, tm_5, tm_7, tm_11, tm_12, tm_13, tm_14, tm_100, if_pos, if_neg, if_true, if_false, bC_in, bI_s, bS_s, bX_s, bY_s, sO, tC], A, V, cu, by simp (disch := omega) only [ltI, leI, eqI, tI, tI1, ti_0, ti_1, ti_2, ti_3, ti_4, ti_5, ti_6, ti_7, ti_8, ti_9, ti_10, ti_11, ti_12, ti_14, ti_18, ti_30, ti_39, ti_40, ti_41, ti_45, ti_50, ti_59, ti_97, ti_99, ti_100, ti_122, ti_160, ti_243, ti_255, ti_399, ti_999, ti_1000, ti_1024, ti_99999, tm_1, tm_2, tm_3, tm_4, tm_5, tm_7, tm_11, tm_12, tm_13, tm_14, tm_100, if_pos, if_neg, if_true, if_false, bC_in, bI_s, bS_s, bX_s, bY_s, sO, tC], N, B, hv⟩
  · exact ⟨-2, A, V, cu, by simp (disch := omega) only [ltI, leI, eqI, tI, tI1, ti_0, ti_1, ti_2, ti_3, ti_4, ti_5, ti_6, ti_7, ti_8, ti_9, ti_10, ti_11, ti_12, ti_14, ti_18, ti_30, ti_39, ti_40, ti_41, ti_45, ti_50, ti_59, ti_97, ti_99, ti_100, ti_122, ti_160, ti_243, ti_255, ti_399, ti_999, ti_1000, ti_1024, ti_99999, tm_1, tm_2, tm_3, tm_4, tm_5, tm_7, tm_11, tm_12, tm_13, tm_14, tm_100, if_pos, if_neg, if_true, if_false, bC_in, bI_s, bS_s, bX_s, bY_s, sO, tC], A, V, cu, by simp (disch := omega) only [ltI, leI, eqI, tI, tI1, ti_0, ti_1, ti_2, ti_3, ti_4, ti_5, ti_6, ti_7, ti_8, ti_9, ti_10, ti_11, ti_12, ti_14, ti_18, ti_30, ti_39, ti_40, ti_41, ti_45, ti_50, ti_59, ti_97, ti_99, ti_100, ti_122, ti_160, ti_243, ti_255, ti_399, ti_999, ti_1000, ti_1024, ti_99999, tm_1, tm_2, tm_3, tm_4, tm_5, tm_7, tm_11, tm_12, tm_13, tm_14, tm_100, if_pos, if_neg, if_true, if_false, bC_in, bI_s, bS_s, bX_s, bY_s, sO, tC], N, B, hv⟩
  rcases ix3 b 1000 (by omega) with h | h | ⟨w, hw, rfl⟩
  · exact ⟨-2, A, V, cu, by simp (disch := omega) only [ltI, leI, eqI, tI, tI1, ti_0, ti_1, ti_2, ti_3, ti_4, ti_5, ti_6, ti_7, ti_8, ti_9, ti_10, ti_11, ti_12, ti_14, ti_18, ti_30, ti_39, ti_40, ti_41, ti_45, ti_50, ti_59, ti_97, ti_99, ti_100, ti_122, ti_160, ti_243, ti_255, ti_399, ti_999, ti_1000, ti_1024, ti_99999, tm_1, tm_2, tm_3, tm_4, tm_5, tm_7, tm_11, tm_12, tm_13, tm_14, tm_100, if_pos, if_neg, if_true, if_false, bC_in, bI_s, bS_s, bX_s, bY_s, sO, tC], A, V, cu, by simp (disch := omega) only [ltI, leI, eqI, tI, tI1, ti_0, ti_1, ti_2, ti_3, ti_4, ti_5, ti_6, ti_7, ti_8, ti_9, ti_10, ti_11, ti_12, ti_14, ti_18, ti_30, ti_39, ti_40, ti_41, ti_45, ti_50, ti_59, ti_97, ti_99, ti_100, ti_122, ti_160, ti_243, ti_255, ti_399, ti_999, ti_1000, ti_1024, ti_99999, tm_1, tm_2, tm_3, tm_4, tm_5, tm_7, tm_11, tm_12, tm_13, tm_14, tm_100, if_pos, if_neg, if_true, if_false, bC_in, bI_s, bS_s, bX_s, bY_s, sO, tC], N, B, hv⟩
  · exact ⟨-2, A, V, cu, by simp (disch := omega) only [ltI, leI, eqI, tI, tI1, ti_0, ti_1, ti_2, ti_3, ti_4, ti_5, ti_6, ti_7, ti_8, ti_9, ti_10, ti_11, ti_12, ti_14, ti_18, ti_30, ti_39, ti_40, ti_41, ti_45, ti_50, ti_59, ti_97, ti_99, ti_100, ti_122, ti_160, ti_243, ti_255, ti_399, ti_999, ti_1000, ti_1024, ti_99999, tm_1, tm_2, tm_3, tm_4, tm_5, tm_7, tm_11, tm_12, tm_13, tm_14, tm_100, if_pos, if_neg, if_true, if_false, bC_in, bI_s, bS_s, bX_s, bY_s, sO, tC], A, V, cu, by simp (disch := omega) only [ltI, leI, eqI, tI, tI1, ti_0, ti_1, ti_2, ti_3, ti_4, ti_5, ti_6, ti_7, ti_8, ti_9, ti_10, ti_11, ti_12, ti_14, ti_18, ti_30, ti_39, ti_40, ti_41, ti_45, ti_50, ti_59, ti_97, ti_99, ti_100, ti_122, ti_160, ti_243, ti_255, ti_399, ti_999, ti_1000, ti_1024, ti_99999, tm_1, tm_2, tm_3, tm_4, tm_5, tm_7, tm_11, tm_12, tm_13, tm_14, tm_100, if_pos, if_neg, if_true, if_false, bC_in, bI_s, bS_s, bX_s, bY_s, sO, tC], N, B, hv⟩
  by_cases c0 : c.toInt < 0
  · exact ⟨-2, A, V, cu, by simp (disch := omega) only [ltI, leI, eqI, tI, tI1, ti_0, ti_1, ti_2, ti_3, ti_4, ti_5, ti_6, ti_7, ti_8, ti_9, ti_10, ti_11, ti_12, ti_14, ti_18, ti_30, ti_39, ti_40, ti_41, ti_45, ti_50, ti_59, ti_97, ti_99, ti_100, ti_122, ti_160, ti_243, ti_255, ti_399, ti_999, ti_1000, ti_1024, ti_99999, tm_1, tm_2, tm_3, tm_4, tm_5, tm_7, tm_11, tm_12, tm_13, tm_14, tm_100, if_pos, if_neg, if_true, if_false, bC_in, bI_s, bS_s, bX_s, bY_s, sO, tC], A, V, cu, by simp (disch := omega) only [ltI, leI, eqI, tI, tI1, ti_0, ti_1, ti_2, ti_3, ti_4, ti_5, ti_6, ti_7, ti_8, ti_9, ti_10, ti_11, ti_12, ti_14, ti_18, ti_30, ti_39, ti_40, ti_41, ti_45, ti_50, ti_59, ti_97, ti_99, ti_100, ti_122, ti_160, ti_243, ti_255, ti_399, ti_999, ti_1000, ti_1024, ti_99999, tm_1, tm_2, tm_3, tm_4, tm_5, tm_7, tm_11, tm_12, tm_13, tm_14, tm_100, if_pos, if_neg, if_true, if_false, bC_in, bI_s, bS_s, bX_s, bY_s, sO, tC], N, B, hv⟩
  obtain ⟨j, hj, rfl⟩ := nI_of (x := c) (by rw [ltI, ti_0]; exact c0)
  have d10 : nI j / 10 = nI (j / 10) := pk_div hj (by decide) (by decide)
  have m10 : nI j - nI j / 10 * 10 = nI (j % 10) := pk_rem hj (by decide) (by decide)
  have tj : (nI j).toInt = (j : Int) := nI_toInt hj
  have tj2 : (nI (j / 10)).toInt = ((j / 10 : Nat) : Int) := nI_toInt (by omega)
  rw [m10, d10]
  by_cases c6 : 60 ≤ j
  · exact ⟨-2, A, V, cu, by simp (disch := omega) only [ltI, leI, eqI, tI, tI1, ti_0, ti_1, ti_2, ti_3, ti_4, ti_5, ti_6, ti_7, ti_8, ti_9, ti_10, ti_11, ti_12, ti_14, ti_18, ti_30, ti_39, ti_40, ti_41, ti_45, ti_50, ti_59, ti_97, ti_99, ti_100, ti_122, ti_160, ti_243, ti_255, ti_399, ti_999, ti_1000, ti_1024, ti_99999, tm_1, tm_2, tm_3, tm_4, tm_5, tm_7, tm_11, tm_12, tm_13, tm_14, tm_100, if_pos, if_neg, if_true, if_false, bC_in, bI_s, bS_s, bX_s, bY_s, sO, tC, tj, tj2], A, V, cu, by simp (disch := omega) only [ltI, leI, eqI, tI, tI1, ti_0, ti_1, ti_2, ti_3, ti_4, ti_5, ti_6, ti_7, ti_8, ti_9, ti_10, ti_11, ti_12, ti_14, ti_18, ti_30, ti_39, ti_40, ti_41, ti_45, ti_50, ti_59, ti_97, ti_99, ti_100, ti_122, ti_160, ti_243, ti_255, ti_399, ti_999, ti_1000, ti_1024, ti_99999, tm_1, tm_2, tm_3, tm_4, tm_5, tm_7, tm_11, tm_12, tm_13, tm_14, tm_100, if_pos, if_neg, if_true, if_false, bC_in, bI_s, bS_s, bX_s, bY_s, sO, tC, tj, tj2], N, B, hv⟩
  by_cases c4 : 4 ≤ j % 10
  · exact ⟨-2, A, V, cu, by simp (disch := omega) only [ltI, leI, eqI, tI, tI1, ti_0, ti_1, ti_2, ti_3, ti_4, ti_5, ti_6, ti_7, ti_8, ti_9, ti_10, ti_11, ti_12, ti_14, ti_18, ti_30, ti_39, ti_40, ti_41, ti_45, ti_50, ti_59, ti_97, ti_99, ti_100, ti_122, ti_160, ti_243, ti_255, ti_399, ti_999, ti_1000, ti_1024, ti_99999, tm_1, tm_2, tm_3, tm_4, tm_5, tm_7, tm_11, tm_12, tm_13, tm_14, tm_100, if_pos, if_neg, if_true, if_false, bC_in, bI_s, bS_s, bX_s, bY_s, sO, tC, tj, tj2], A, V, cu, by simp (disch := omega) only [ltI, leI, eqI, tI, tI1, ti_0, ti_1, ti_2, ti_3, ti_4, ti_5, ti_6, ti_7, ti_8, ti_9, ti_10, ti_11, ti_12, ti_14, ti_18, ti_30, ti_39, ti_40, ti_41, ti_45, ti_50, ti_59, ti_97, ti_99, ti_100, ti_122, ti_160, ti_243, ti_255, ti_399, ti_999, ti_1000, ti_1024, ti_99999, tm_1, tm_2, tm_3, tm_4, tm_5, tm_7, tm_11, tm_12, tm_13, tm_14, tm_100, if_pos, if_neg, if_true, if_false, bC_in, bI_s, bS_s, bX_s, bY_s, sO, tC, tj, tj2], N, B, hv⟩
  rcases ix3 e 100 (by omega) with h | h | ⟨y, hy, rfl⟩
  · exact ⟨-2, A, V, cu, by simp (disch := omega) only [ltI, leI, eqI, tI, tI1, ti_0, ti_1, ti_2, ti_3, ti_4, ti_5, ti_6, ti_7, ti_8, ti_9, ti_10, ti_11, ti_12, ti_14, ti_18, ti_30, ti_39, ti_40, ti_41, ti_45, ti_50, ti_59, ti_97, ti_99, ti_100, ti_122, ti_160, ti_243, ti_255, ti_399, ti_999, ti_1000, ti_1024, ti_99999, tm_1, tm_2, tm_3, tm_4, tm_5, tm_7, tm_11, tm_12, tm_13, tm_14, tm_100, if_pos, if_neg, if_true, if_false, bC_in, bI_s, bS_s, bX_s, bY_s, sO, tC, tj, tj2], A, V, cu, by simp (disch := omega) only [ltI, leI, eqI, tI, tI1, ti_0, ti_1, ti_2, ti_3, ti_4, ti_5, ti_6, ti_7, ti_8, ti_9, ti_10, ti_11, ti_12, ti_14, ti_18, ti_30, ti_39, ti_40, ti_41, ti_45, ti_50, ti_59, ti_97, ti_99, ti_100, ti_122, ti_160, ti_243, ti_255, ti_399, ti_999, ti_1000, ti_1024, ti_99999, tm_1, tm_2, tm_3, tm_4, tm_5, tm_7, tm_11, tm_12, tm_13, tm_14, tm_100, if_pos, if_neg, if_true, if_false, bC_in, bI_s, bS_s, bX_s, bY_s, sO, tC, tj, tj2], N, B, hv⟩
  · exact ⟨-2, A, V, cu, by simp (disch := omega) only [ltI, leI, eqI, tI, tI1, ti_0, ti_1, ti_2, ti_3, ti_4, ti_5, ti_6, ti_7, ti_8, ti_9, ti_10, ti_11, ti_12, ti_14, ti_18, ti_30, ti_39, ti_40, ti_41, ti_45, ti_50, ti_59, ti_97, ti_99, ti_100, ti_122, ti_160, ti_243, ti_255, ti_399, ti_999, ti_1000, ti_1024, ti_99999, tm_1, tm_2, tm_3, tm_4, tm_5, tm_7, tm_11, tm_12, tm_13, tm_14, tm_100, if_pos, if_neg, if_true, if_false, bC_in, bI_s, bS_s, bX_s, bY_s, sO, tC, tj, tj2], A, V, cu, by simp (disch := omega) only [ltI, leI, eqI, tI, tI1, ti_0, ti_1, ti_2, ti_3, ti_4, ti_5, ti_6, ti_7, ti_8, ti_9, ti_10, ti_11, ti_12, ti_14, ti_18, ti_30, ti_39, ti_40, ti_41, ti_45, ti_50, ti_59, ti_97, ti_99, ti_100, ti_122, ti_160, ti_243, ti_255, ti_399, ti_999, ti_1000, ti_1024, ti_99999, tm_1, tm_2, tm_3, tm_4, tm_5, tm_7, tm_11, tm_12, tm_13, tm_14, tm_100, if_pos, if_neg, if_true, if_false, bC_in, bI_s, bS_s, bX_s, bY_s, sO, tC, tj, tj2], N, B, hv⟩
  have w100 : nI w / 100 = nI (w / 100) := pk_div (by omega) (by decide) (by decide)
  have w10 : nI w / 10 = nI (w / 10) := pk_div (by omega) (by decide) (by decide)
  have wm : nI w - nI w / 10 * 10 = nI (w % 10) := pk_rem (by omega) (by decide) (by decide)
  have wm2 : nI (w / 10) - nI (w / 10) / 10 * 10 = nI (w / 10 % 10) := pk_rem (by omega) (by decide) (by decide)
  rw [wm, w10, wm2, w100]
  have nmc : ∀ m, m < 6 → (aw (aw (aw (aw (aw (aw A 83 (3 : Int32) (nI (j / 10))) 83 (4 : Int32) (nI (j % 10))) 83 (5 : Int32) (nI y)) 83 (0 : Int32) (nI (w / 100))) 83 (1 : Int32) (nI (w / 10 % 10))) 83 (2 : Int32) (nI (w % 10))) 83 m = nms (w / 100) (w / 10 % 10) (w % 10) (j / 10) (j % 10) y m := by
    intro m hm
    match m, hm with
    | 0, _ => rfl
    | 1, _ => rfl
    | 2, _ => rfl
    | 3, _ => rfl
    | 4, _ => rfl
    | 5, _ => rfl
  have hac : agr A V (aw (aw (aw (aw (aw (aw A 83 (3 : Int32) (nI (j / 10))) 83 (4 : Int32) (nI (j % 10))) 83 (5 : Int32) (nI y)) 83 (0 : Int32) (nI (w / 100))) 83 (1 : Int32) (nI (w / 10 % 10))) 83 (2 : Int32) (nI (w % 10))) (up2 V 81 5 (nI (j / 10))) := agr_v (agr_w (agr_w (agr_w (agr_w (agr_w (agr_w (agr_r A V) rfl) rfl) rfl) rfl) rfl) rfl) rfl
  obtain ⟨A1, x1, x2⟩ := c_says (part := i) hv hac l3 hi nmc
  have ha1 := agr_1 hac (r := 82) rfl x2
  have hv1 : iv N B A1 (up2 V 81 5 (nI (j / 10))) tx (.ref (tref (N 3))) := iv_agr ha1 hv
  have nmr : ∀ m, m < 6 → (aw (aw (aw (aw (aw (aw A1 151 (0 : Int32) (nI (w / 100))) 151 (1 : Int32) (nI (w / 10 % 10))) 151 (2 : Int32) (nI (w % 10))) 151 (3 : Int32) (nI (j / 10))) 151 (4 : Int32) (nI (j % 10))) 151 (5 : Int32) (nI y)) 151 m = nms (w / 100) (w / 10 % 10) (w % 10) (j / 10) (j % 10) y m := by
    intro m hm
    match m, hm with
    | 0, _ => rfl
    | 1, _ => rfl
    | 2, _ => rfl
    | 3, _ => rfl
    | 4, _ => rfl
    | 5, _ => rfl
  have har : agr A1 (up2 V 81 5 (nI (j / 10))) (aw (aw (aw (aw (aw (aw A1 151 (0 : Int32) (nI (w / 100))) 151 (1 : Int32) (nI (w / 10 % 10))) 151 (2 : Int32) (nI (w % 10))) 151 (3 : Int32) (nI (j / 10))) 151 (4 : Int32) (nI (j % 10))) 151 (5 : Int32) (nI y)) (up2 V 81 5 (nI (j / 10))) := agr_w (agr_w (agr_w (agr_w (agr_w (agr_w (agr_r A1 _) rfl) rfl) rfl) rfl) rfl) rfl
  obtain ⟨A2, y1, y2⟩ := r_says (part := i) hv1 har (.ref (tref (N 3))) l3 hi nmr
  have e130 : A1 131 = A 131 := ha1.1 131 rfl
  rw [e130] at y1
  refine ⟨nI (sy tx (A 131) (N 3) i (nms (w / 100) (w / 10 % 10) (w % 10) (j / 10) (j % 10) y)).toNat, A1, up2 V 81 5 (nI (j / 10)), .ref (tref (N 3)), ?_, A2, up2 V 81 5 (nI (j / 10)), .ref (tref (N 3)), ?_, N, B, iv_agr (agr_1 har (r := 150) rfl y2) hv1⟩
  · simp (disch := omega) only [ltI, leI, eqI, tI, tI1, ti_0, ti_1, ti_2, ti_3, ti_4, ti_5, ti_6, ti_7, ti_8, ti_9, ti_10, ti_11, ti_12, ti_14, ti_18, ti_30, ti_39, ti_40, ti_41, ti_45, ti_50, ti_59, ti_97, ti_99, ti_100, ti_122, ti_160, ti_243, ti_255, ti_399, ti_999, ti_1000, ti_1024, ti_99999, tm_1, tm_2, tm_3, tm_4, tm_5, tm_7, tm_11, tm_12, tm_13, tm_14, tm_100, if_pos, if_neg, if_true, if_false, bC_in, bI_s, bS_s, bX_s, bY_s, sO, tC, tj, tj2, l1]
    rw [bC_t (law_ok2 l3 t3)]
    unfold fX6_begin fX6_before
    rw [bS_s, bS_s, x1, bX_s]
    cases sy tx (A 131) (N 3) i (nms (w / 100) (w / 10 % 10) (w % 10) (j / 10) (j % 10) y) <;> rfl
  · have e16 : up2 V 81 5 (nI (j / 10)) 132 16 = nI (N 3) := by rw [up2_n (by omega)]; exact l2
    simp (disch := omega) only [ltI, leI, eqI, tI, tI1, ti_0, ti_1, ti_2, ti_3, ti_4, ti_5, ti_6, ti_7, ti_8, ti_9, ti_10, ti_11, ti_12, ti_14, ti_18, ti_30, ti_39, ti_40, ti_41, ti_45, ti_50, ti_59, ti_97, ti_99, ti_100, ti_122, ti_160, ti_243, ti_255, ti_399, ti_999, ti_1000, ti_1024, ti_99999, tm_1, tm_2, tm_3, tm_4, tm_5, tm_7, tm_11, tm_12, tm_13, tm_14, tm_100, if_pos, if_neg, if_true, if_false, bC_in, bI_s, bS_s, bX_s, bY_s, sO, tC, tj, tj2, e16]
    rw [y1, bX_s]
    cases sy tx (A 131) (N 3) i (nms (w / 100) (w / 10 % 10) (w % 10) (j / 10) (j % 10) y) <;> rfl
theorem op_feast (hd : 75 ≤ d) (a b : Int32) : iv_op (xk_ro LL xs) d 90 183 [.int a, .int b] := by
  refine op_mk (fc := fun tx A V cu => fX8_feast tx a b A V cu) (fm := fun tx A V cu => fX9_feast a b A V cu) (fun tx A V cu r A' V' c' q => sX8_feast (by omega) q) (fun tx A V cu r A' V' c' q => sX9_feast (by omega) q) ?_
  intro N B A V tx cu hv
  obtain ⟨⟨s1, s2, s3⟩, ⟨p1, p2, p3⟩, -⟩ := id hv.1
  have hsp := sh_p (N 1) (by omega)
  have h32 := p2_32 _ p3
  unfold fX8_feast fX9_feast
  rcases ix3 a 4 (by omega) with h | h | ⟨r, hr, rfl⟩
  · exact ⟨-2, A, V, cu, by simp (disch := omega) only [ltI, leI, eqI, tI, tI1, ti_0, ti_1, ti_2, ti_3, ti_4, ti_5, ti_6, ti_7, ti_8, ti_9, ti_10, ti_11, ti_12, ti_14, ti_18, ti_30, ti_39, ti_40, ti_41, ti_45, ti_50, ti_59, ti_97, ti_99, ti_100, ti_122, ti_160, ti_243, ti_255, ti_399, ti_999, ti_1000, ti_1024, ti_99999, tm_1, tm_2, tm_3, tm_4, tm_5, tm_7, tm_11, tm_12, tm_13, tm_14, tm_100, if_pos, if_neg, if_true, if_false, bC_in, bI_s, bS_s, bX_s, bY_s, sO, tC], A, V, cu, by simp (disch := omega) only [ltI, leI, eqI, tI, tI1, ti_0, ti_1, ti_2, ti_3, ti_4, ti_5, ti_6, ti_7, ti_8, ti_9, ti_10, ti_11, ti_12, ti_14, ti_18, ti_30, ti_39, ti_40, ti_41, ti_45, ti_50, ti_59, ti_97, ti_99, ti_100, ti_122, ti_160, ti_243, ti_255, ti_399, ti_999, ti_1000, ti_1024, ti_99999, tm_1, tm_2, tm_3, tm_4, tm_5, tm_7, tm_11, tm_12, tm_13, tm_14, tm_100, if_pos, if_neg, if_true, if_false, bC_in, bI_s, bS_s, bX_s, bY_s, sO, tC], N, B, hv⟩
  · exact ⟨-2, A, V, cu, by simp (disch := omega) only [ltI, leI, eqI, tI, tI1, ti_0, ti_1, ti_2, ti_3, ti_4, ti_5, ti_6, ti_7, ti_8, ti_9, ti_10, ti_11, ti_12, ti_14, ti_18, ti_30, ti_39, ti_40, ti_41, ti_45, ti_50, ti_59, ti_97, ti_99, ti_100, ti_122, ti_160, ti_243, ti_255, ti_399, ti_999, ti_1000, ti_1024, ti_99999, tm_1, tm_2, tm_3, tm_4, tm_5, tm_7, tm_11, tm_12, tm_13, tm_14, tm_100, if_pos, if_neg, if_true, if_false, bC_in, bI_s, bS_s, bX_s, bY_s, sO, tC], A, V, cu, by simp (disch := omega) only [ltI, leI, eqI, tI, tI1, ti_0, ti_1, ti_2, ti_3, ti_4, ti_5, ti_6, ti_7, ti_8, ti_9, ti_10, ti_11, ti_12, ti_14, ti_18, ti_30, ti_39, ti_40, ti_41, ti_45, ti_50, ti_59, ti_97, ti_99, ti_100, ti_122, ti_160, ti_243, ti_255, ti_399, ti_999, ti_1000, ti_1024, ti_99999, tm_1, tm_2, tm_3, tm_4, tm_5, tm_7, tm_11, tm_12, tm_13, tm_14, tm_100, if_pos, if_neg, if_true, if_false, bC_in, bI_s, bS_s, bX_s, bY_s, sO, tC], N, B, hv⟩
  rw [p1]
  rcases ppl b p3 with ⟨h1, c, hc, rfl⟩ | ⟨h1, h2⟩
  · have hC := bt_p p3 hc
    have ec := bt_mk c (by omega)
    obtain ⟨A1, V1, c1, w1, w2⟩ := c_feast hv hC r (fun (l3_12 : Int32) (A17 V18 : xM) (c19 : Value) => some (l3_12, A17, V18, c19)) (N 0) 0 FU A V cu (agr_r A V) (by omega) (fu_gt (by omega))
    have hv1 : iv N B A1 V1 tx c1 := iv_agr w2 hv
    obtain ⟨A2, V2, c2, y1, y2⟩ := r_feast hv1 hC r (fun (l3_12 : Int32) (A17 V18 : xM) (c19 : Value) => some (l3_12, A17, V18, c19)) (N 0) 0 FU A1 V1 c1 (agr_r A1 V1) (by omega) (fu_gt (by omega))
    rw [w2.1 131 rfl] at y1
    rw [ec] at w1 y1
    have e4 : V1 132 4 = nI (N 1) := (w2.2 132 4 rfl).trans p2
    refine ⟨nI (fb (fun s => mf N B tx (A 131) s r (bt c)) (N 0)), A1, V1, c1, ?_, A2, V2, c2, ?_, N, B, iv_agr y2 hv1⟩
    · rw [if_neg (by simp (disch := omega) only [ltI, leI, eqI, tI, tI1, ti_0, ti_1, ti_2, ti_3, ti_4, ti_5, ti_6, ti_7, ti_8, ti_9, ti_10, ti_11, ti_12, ti_14, ti_18, ti_30, ti_39, ti_40, ti_41, ti_45, ti_50, ti_59, ti_97, ti_99, ti_100, ti_122, ti_160, ti_243, ti_255, ti_399, ti_999, ti_1000, ti_1024, ti_99999, tm_1, tm_2, tm_3, tm_4, tm_5, tm_7, tm_11, tm_12, tm_13, tm_14, tm_100, if_pos, if_neg, if_true, if_false, bC_in, bI_s, bS_s, bX_s, bY_s, sO, tC]; omega), if_neg (by simp (disch := omega) only [ltI, leI, eqI, tI, tI1, ti_0, ti_1, ti_2, ti_3, ti_4, ti_5, ti_6, ti_7, ti_8, ti_9, ti_10, ti_11, ti_12, ti_14, ti_18, ti_30, ti_39, ti_40, ti_41, ti_45, ti_50, ti_59, ti_97, ti_99, ti_100, ti_122, ti_160, ti_243, ti_255, ti_399, ti_999, ti_1000, ti_1024, ti_99999, tm_1, tm_2, tm_3, tm_4, tm_5, tm_7, tm_11, tm_12, tm_13, tm_14, tm_100, if_pos, if_neg, if_true, if_false, bC_in, bI_s, bS_s, bX_s, bY_s, sO, tC]; omega), if_pos h1]
      exact w1
    · rw [e4, hsp]
      simp (disch := omega) only [ltI, leI, eqI, tI, tI1, ti_0, ti_1, ti_2, ti_3, ti_4, ti_5, ti_6, ti_7, ti_8, ti_9, ti_10, ti_11, ti_12, ti_14, ti_18, ti_30, ti_39, ti_40, ti_41, ti_45, ti_50, ti_59, ti_97, ti_99, ti_100, ti_122, ti_160, ti_243, ti_255, ti_399, ti_999, ti_1000, ti_1024, ti_99999, tm_1, tm_2, tm_3, tm_4, tm_5, tm_7, tm_11, tm_12, tm_13, tm_14, tm_100, if_pos, if_neg, if_true, if_false, bC_in, bI_s, bS_s, bX_s, bY_s, sO, tC]
      exact y1
  · refine ⟨-2, A, V, cu, ?_, A, V, cu, ?_, N, B, hv⟩
    · rw [if_neg (by simp (disch := omega) only [ltI, leI, eqI, tI, tI1, ti_0, ti_1, ti_2, ti_3, ti_4, ti_5, ti_6, ti_7, ti_8, ti_9, ti_10, ti_11, ti_12, ti_14, ti_18, ti_30, ti_39, ti_40, ti_41, ti_45, ti_50, ti_59, ti_97, ti_99, ti_100, ti_122, ti_160, ti_243, ti_255, ti_399, ti_999, ti_1000, ti_1024, ti_99999, tm_1, tm_2, tm_3, tm_4, tm_5, tm_7, tm_11, tm_12, tm_13, tm_14, tm_100, if_pos, if_neg, if_true, if_false, bC_in, bI_s, bS_s, bX_s, bY_s, sO, tC]; omega), if_neg (by simp (disch := omega) only [ltI, leI, eqI, tI, tI1, ti_0, ti_1, ti_2, ti_3, ti_4, ti_5, ti_6, ti_7, ti_8, ti_9, ti_10, ti_11, ti_12, ti_14, ti_18, ti_30, ti_39, ti_40, ti_41, ti_45, ti_50, ti_59, ti_97, ti_99, ti_100, ti_122, ti_160, ti_243, ti_255, ti_399, ti_999, ti_1000, ti_1024, ti_99999, tm_1, tm_2, tm_3, tm_4, tm_5, tm_7, tm_11, tm_12, tm_13, tm_14, tm_100, if_pos, if_neg, if_true, if_false, bC_in, bI_s, bS_s, bX_s, bY_s, sO, tC]; omega), if_neg h1]
    · rw [p2, hsp]
      generalize 2 ^ N 1 = M at *
      rcases h2 with h2 | h2
      · simp (disch := omega) only [ltI, leI, eqI, tI, tI1, ti_0, ti_1, ti_2, ti_3, ti_4, ti_5, ti_6, ti_7, ti_8, ti_9, ti_10, ti_11, ti_12, ti_14, ti_18, ti_30, ti_39, ti_40, ti_41, ti_45, ti_50, ti_59, ti_97, ti_99, ti_100, ti_122, ti_160, ti_243, ti_255, ti_399, ti_999, ti_1000, ti_1024, ti_99999, tm_1, tm_2, tm_3, tm_4, tm_5, tm_7, tm_11, tm_12, tm_13, tm_14, tm_100, if_pos, if_neg, if_true, if_false, bC_in, bI_s, bS_s, bX_s, bY_s, sO, tC]
      · by_cases h3 : b.toInt < 0
        · simp (disch := omega) only [ltI, leI, eqI, tI, tI1, ti_0, ti_1, ti_2, ti_3, ti_4, ti_5, ti_6, ti_7, ti_8, ti_9, ti_10, ti_11, ti_12, ti_14, ti_18, ti_30, ti_39, ti_40, ti_41, ti_45, ti_50, ti_59, ti_97, ti_99, ti_100, ti_122, ti_160, ti_243, ti_255, ti_399, ti_999, ti_1000, ti_1024, ti_99999, tm_1, tm_2, tm_3, tm_4, tm_5, tm_7, tm_11, tm_12, tm_13, tm_14, tm_100, if_pos, if_neg, if_true, if_false, bC_in, bI_s, bS_s, bX_s, bY_s, sO, tC]
        · simp (disch := omega) only [ltI, leI, eqI, tI, tI1, ti_0, ti_1, ti_2, ti_3, ti_4, ti_5, ti_6, ti_7, ti_8, ti_9, ti_10, ti_11, ti_12, ti_14, ti_18, ti_30, ti_39, ti_40, ti_41, ti_45, ti_50, ti_59, ti_97, ti_99, ti_100, ti_122, ti_160, ti_243, ti_255, ti_399, ti_999, ti_1000, ti_1024, ti_99999, tm_1, tm_2, tm_3, tm_4, tm_5, tm_7, tm_11, tm_12, tm_13, tm_14, tm_100, if_pos, if_neg, if_true, if_false, bC_in, bI_s, bS_s, bX_s, bY_s, sO, tC]
end OPS52
