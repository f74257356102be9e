/-! image, back -/
theorem r_cpy {l0 l1 m : Nat} (h01 : l0 ≠ l1) (h0 : ysz l0 = m) (h1 : ysz l1 = m) (hm : m < 4000) (A V : xM) (cu : Value) : ∃ A2, fX9_copy l0 l1 A V cu = some (A2, V, cu) ∧ (∀ i, i < m → A2 l1 i = A l0 i) ∧ ∀ b, b ≠ l1 → A2 b = A b := by
  have L : ∀ k i n (A : xM), i + k = m → k < n → ∃ A2, fX9_copy_L2 l0 l1 (fun (A7 V8 : xM) (c9 : Value) => some (A7, V8, c9)) n (nI i) A V cu = some (A2, V, cu) ∧ (∀ j, i ≤ j → j < m → A2 l1 j = A l0 j) ∧ (∀ j, j < i → A2 l1 j = A l1 j) ∧ ∀ b, b ≠ l1 → A2 b = A b := by
    intro k
    induction k with
    | zero =>
      intro i n A hi hn
      obtain ⟨n, rfl⟩ : ∃ m, n = m + 1 := ⟨n - 1, by omega⟩
      refine ⟨A, ?_, fun j h1 h2 => by omega, fun _ _ => rfl, fun _ _ => rfl⟩
      rw [fX9_copy_L2, h0, show Int32.ofNat m = nI m from rfl, if_pos (show nI m ≤ nI i by simp (disch := omega) only [ltI, leI, eqI, tI, tI1, ti_0, ti_1, ti_2, ti_3, ti_4, ti_5, ti_6, ti_7, ti_8, ti_9, ti_10, ti_11, ti_12, ti_14, ti_18, ti_30, ti_39, ti_40, ti_41, ti_45, ti_50, ti_59, ti_97, ti_99, ti_100, ti_122, ti_160, ti_243, ti_255, ti_399, ti_999, ti_1000, ti_1024, ti_99999, tm_1, tm_2, tm_3, tm_4, tm_5, tm_7, tm_11, tm_12, tm_13, tm_14, tm_100, if_pos, if_neg, if_true, if_false, bC_in, bI_s, bS_s, bX_s, bY_s, sO, tC]; omega)]
    | succ k ih =>
      intro i n A hi hn
      obtain ⟨n, rfl⟩ : ∃ m, n = m + 1 := ⟨n - 1, by omega⟩
      obtain ⟨A2, w1, w2, w3, w4⟩ := ih (i + 1) n (aw A l1 (nI i) (A l0 i)) (by omega) (by omega)
      refine ⟨A2, ?_, fun j g1 g2 => ?_, fun j g1 => ?_, fun b hb => (w4 b hb).trans (aw_n hb)⟩
      · rw [fX9_copy_L2, h0, h1, show Int32.ofNat m = nI m from rfl, if_neg (show ¬ nI m ≤ nI i by simp (disch := omega) only [ltI, leI, eqI, tI, tI1, ti_0, ti_1, ti_2, ti_3, ti_4, ti_5, ti_6, ti_7, ti_8, ti_9, ti_10, ti_11, ti_12, ti_14, ti_18, ti_30, ti_39, ti_40, ti_41, ti_45, ti_50, ti_59, ti_97, ti_99, ti_100, ti_122, ti_160, ti_243, ti_255, ti_399, ti_999, ti_1000, ti_1024, ti_99999, tm_1, tm_2, tm_3, tm_4, tm_5, tm_7, tm_11, tm_12, tm_13, tm_14, tm_100, if_pos, if_neg, if_true, if_false, bC_in, bI_s, bS_s, bX_s, bY_s, sO, tC]; omega), bC_in ⟨by omega, by omega⟩, bC_in ⟨by omega, by omega⟩, tC (by omega), sO]
        exact w1
      · by_cases q : j = i
        · subst q
          rw [w3 j (by omega), aw_s, tC (by omega), pk_us]
        · rw [w2 j (by omega) g2, aw_n h01]
      · rw [w3 j (by omega), aw_s, tC (by omega), pk_un (by omega)]
  obtain ⟨A2, w1, w2, w3, w4⟩ := L m 0 FU A (by omega) (fu_gt (by omega))
  exact ⟨A2, w1, fun i hi => w2 i (Nat.zero_le _) hi, w4⟩
theorem cpy4 {f g : Nat → Int32} {q : Nat} (hq : q < 4) : va_cpy f g (0 : Int32).toNatClampNeg (0 : Int32).toNatClampNeg (4 : Int32).toNatClampNeg q = f q := by
  show va_cpy f g 0 0 4 q = f q
  rw [pk_cpy_in (Nat.zero_le _) (by omega)]
  exact congrArg f (by omega)
section IM
variable {N : Nat → Nat} {B : Nat → Nat → Nat} {A V A1 V1 A' V' : xM} {tx : List xh_T} {cu cu' : Value} {LL : Nat} {xs : Nat → Int32} {d : Nat}
def ib9 (N : Nat → Nat) : Nat → Nat
  | 1 => N 1
  | 2 => N 0
  | 3 => N 2
  | 4 => N 3
  | _ => 0
theorem op_image (hd : 70 ≤ d) : iv_op (xk_ro LL xs) d 104 208 [] := by
  refine op_mk (fc := fun tx A V cu => fX8_image A V cu) (fm := fun tx A V cu => fX9_image A V cu) (fun tx A V cu r A' V' c' q => sX8_image (by omega) q) (fun tx A V cu r A' V' c' q => sX9_image (by omega) q) ?_
  intro N B A V tx cu hv
  obtain ⟨v1, v2, v3, v4, v5, v6, v7, v8, v9, v10, v11, v12, v13⟩ := id hv
  obtain ⟨⟨s1, s2, s3⟩, ⟨p1, p2, p3⟩, ⟨e1, e2, e3⟩, ⟨t1, t2, t3⟩, ⟨l1, l2, l3⟩, ⟨z1, z2, z3⟩⟩ := v1
  have hq := sh_q (N 1) (by omega)
  obtain ⟨A1, w1, w2, w3⟩ := c_take (l0 := 116) (l2 := 73) (by omega) A (up2 V 115 3 (1 : Int32)) cu
  obtain ⟨V1, hV1⟩ : ∃ V1 : xM, V1 = up2 (up2 (up2 (up2 V 115 3 1) 115 4 (nI (2 ^ N 1 - 1))) 115 5 (nI (N 2))) 115 6 (nI (N 3)) := ⟨_, rfl⟩
  obtain ⟨A2, hA2⟩ : ∃ A2 : xM, A2 = va_up (va_up A1 120 (va_cpy (A1 99) (A1 120) (0 : Int32).toNatClampNeg (0 : Int32).toNatClampNeg (4 : Int32).toNatClampNeg)) 121 (va_cpy (A1 100) (A1 121) (0 : Int32).toNatClampNeg (0 : Int32).toNatClampNeg (4 : Int32).toNatClampNeg) := ⟨_, rfl⟩
  have hc : fX8_image A V cu = some (nI (N 2), A2, V1, cu) := by
    unfold fX8_image
    rw [w1, bS_s]
    simp (disch := omega) only [up2_n, up2_s, va_up_ne, p1, e1, l1, hq, ← hA2, ← hV1]
  obtain ⟨A3, x1, x2, x3⟩ := r_cpy (l0 := 133) (l1 := 157) (m := 16) (by decide) rfl rfl (by decide) A2 (up2 V1 132 43 (1 : Int32)) cu
  obtain ⟨A4, y1, y2, y3⟩ := r_cpy (l0 := 134) (l1 := 158) (m := 4) (by decide) rfl rfl (by decide) A3 (up2 V1 132 43 (1 : Int32)) cu
  obtain ⟨A5, u1, u2, u3⟩ := r_cpy (l0 := 139) (l1 := 159) (m := 30) (by decide) rfl rfl (by decide) A4 (up2 V1 132 43 (1 : Int32)) cu
  obtain ⟨V2, hV2⟩ : ∃ V2 : xM, V2 = up2 (up2 (up2 (up2 (up2 V1 132 43 1) 132 47 (nI (N 1))) 132 48 (nI (N 0))) 132 49 (nI (N 2))) 132 50 (nI (N 3)) := ⟨_, rfl⟩
  have eV1 : ∀ k, V1 132 k = V 132 k := fun k => by rw [hV1, up2_n (by omega), up2_n (by omega), up2_n (by omega), up2_n (by omega)]
  have hr : fX9_image A2 V1 cu = some (nI (N 2), A5, V2, cu) := by
    unfold fX9_image
    rw [x1, bS_s, y1, bS_s, u1, bS_s]
    simp (disch := omega) only [up2_n, up2_s, eV1, p2, s2, e2, l2, ← hV2]
  have cA : ∀ a, ¬ (117 ≤ a ∧ a ≤ 121) → ¬ (157 ≤ a ∧ a ≤ 159) → A5 a = A a := fun a h1 h2 => by
    rw [u3 a (by omega), y3 a (by omega), x3 a (by omega), hA2, va_up_ne _ _ (by omega), va_up_ne _ _ (by omega), w3 a (by omega) (by omega) (by omega)]
  have cV : ∀ a k, ¬ (a = 115 ∧ 3 ≤ k ∧ k ≤ 6) → ¬ (a = 132 ∧ (k = 43 ∨ (47 ≤ k ∧ k ≤ 50))) → V2 a k = V a k := fun a k h1 h2 => by
    rw [hV2, up2_n (by omega), up2_n (by omega), up2_n (by omega), up2_n (by omega), up2_n (by omega), hV1, up2_n (by omega), up2_n (by omega), up2_n (by omega), up2_n (by omega)]
  refine ⟨nI (N 2), A2, V1, cu, hc, A5, V2, cu, hr, N, va_up (va_up (va_up (va_up B 6 (B 0)) 7 (B 1)) 8 (B 5)) 9 (ib9 N), iv_but_imag (A := A) (V := V) (cu := cu) (fun a q => cA a (fun z => ?_) (fun z => ?_)) (fun a k q => cV a k (fun z => ?_) (fun z => ?_)) hv ?_⟩
  · have : a = 117 ∨ a = 118 ∨ a = 119 ∨ a = 120 ∨ a = 121 := by omega
    rcases this with rfl | rfl | rfl | rfl | rfl <;> cases q
  · have : a = 157 ∨ a = 158 ∨ a = 159 := by omega
    rcases this with rfl | rfl | rfl <;> cases q
  · obtain ⟨rfl, z1, z2⟩ := z
    have : k = 3 ∨ k = 4 ∨ k = 5 ∨ k = 6 := by omega
    rcases this with rfl | rfl | rfl | rfl <;> cases q
  · obtain ⟨rfl, z⟩ := z
    have : k = 43 ∨ k = 47 ∨ k = 48 ∨ k = 49 ∨ k = 50 := by omega
    rcases this with rfl | rfl | rfl | rfl | rfl <;> cases q
  have b43 : V2 132 43 = 1 := by rw [hV2, up2_n (by omega), up2_n (by omega), up2_n (by omega), up2_n (by omega), up2_s]
  have b47 : V2 132 47 = nI (N 1) := by rw [hV2, up2_n (by omega), up2_n (by omega), up2_n (by omega), up2_s]
  have b48 : V2 132 48 = nI (N 0) := by rw [hV2, up2_n (by omega), up2_n (by omega), up2_s]
  have b49 : V2 132 49 = nI (N 2) := by rw [hV2, up2_n (by omega), up2_s]
  have b50 : V2 132 50 = nI (N 3) := by rw [hV2, up2_s]
  have d114 : ∀ k, V2 115 k = V1 115 k := fun k => by rw [hV2, up2_n (by omega), up2_n (by omega), up2_n (by omega), up2_n (by omega), up2_n (by omega)]
  have b3 : V2 115 3 = 1 := by rw [d114, hV1, up2_n (by omega), up2_n (by omega), up2_n (by omega), up2_s]
  have b4 : V2 115 4 = nI (2 ^ N 1 - 1) := by rw [d114, hV1, up2_n (by omega), up2_n (by omega), up2_s]
  have b5 : V2 115 5 = nI (N 2) := by rw [d114, hV1, up2_n (by omega), up2_s]
  have b6 : V2 115 6 = nI (N 3) := by rw [d114, hV1, up2_s]
  have c119 : ∀ q, q < 4 → A5 120 q = A 99 q := fun q hq => by
    rw [u3 120 (by decide), y3 120 (by decide), x3 120 (by decide), hA2, va_up_ne _ _ (by decide), va_up_self, cpy4 hq, w3 99 (by decide) (by decide) (by decide)]
  have c120 : ∀ q, q < 4 → A5 121 q = A 100 q := fun q hq => by
    rw [u3 121 (by decide), y3 121 (by decide), x3 121 (by decide), hA2, va_up_self, cpy4 hq, w3 100 (by decide) (by decide) (by decide)]
  have cB : ∀ a, a < 117 ∨ 121 < a → A2 a = A a := fun a h => by rw [hA2, va_up_ne _ _ (by omega), va_up_ne _ _ (by omega), w3 a (by omega) (by omega) (by omega)]
  have c156 : ∀ i, i < 16 → A5 157 i = A 133 i := fun i hi => by rw [u3 157 (by decide), y3 157 (by decide), x2 i hi, cB 133 (by omega)]
  have c157 : ∀ i, i < 4 → A5 158 i = A 134 i := fun i hi => by rw [u3 158 (by decide), y2 i hi, x3 134 (by decide), cB 134 (by omega)]
  have c158 : ∀ i, i < 30 → A5 159 i = A 139 i := fun i hi => by rw [u2 i hi, y3 139 (by decide), x3 139 (by decide), cB 139 (by omega)]
  have ck : ∀ u j, i13 j → u < 6 → A5 (116 + j) u = A (73 + j) u := fun u j hj hu => by
    have : 117 ≤ 116 + j ∧ 116 + j ≤ 119 := by rcases hj with rfl | rfl | rfl <;> omega
    rw [u3 _ (by omega), y3 _ (by omega), x3 _ (by omega), hA2, va_up_ne _ _ (by omega), va_up_ne _ _ (by omega), w2 u j hj hu]
  refine ⟨b3.trans b43.symm, Or.inr ⟨b3, v2.1, fun q hq => ?_, fun q r hq hr => ?_, fun r hr => ?_, v7.1, fun u hu => ⟨?_, ?_, ?_⟩, fun j hj => ?_, ⟨b4, b47, Nat.le_refl _⟩, ⟨b48, Nat.le_refl _⟩, ⟨b5, b49, e3⟩, ⟨b6, b50, l3⟩⟩⟩
  · rw [c119 q hq]; exact v2.2.1 q hq
  · rw [c156 _ (by omega)]; exact v2.2.2 q r hq hr
  · rw [c120 r hr, c157 r hr]; exact v3 r hr
  · exact (ck u 1 (Or.inl rfl) hu).trans (v7.2.1 u hu).1
  · exact (ck u 2 (Or.inr (Or.inl rfl)) hu).trans (v7.2.1 u hu).2.1
  · exact (ck u 3 (Or.inr (Or.inr rfl)) hu).trans (v7.2.1 u hu).2.2
  · rw [c158 j hj]; exact v7.2.2 j hj
theorem msk : ∀ n, n ≤ 5 → nI (2 ^ n - 1) = nI (mk5 (fun p => Nat.blt p n)) := by
  have : ∀ n, n < 6 → nI (2 ^ n - 1) = nI (mk5 (fun p => Nat.blt p n)) := by decide +kernel
  intro n hn
  exact this n (by omega)
theorem r_back1 {p ns : Nat} (hp : p < 5) (hns : ns ≤ 6) (V : xM) (h48 : V 132 48 = nI ns) (cu : Value) (ex : xM → xM → Value → Option (Int32 × xS)) : ∀ k t n (A : xM), t + k = 6 → k < n → ∃ A2, fX9_back_L44 (nI p) ex n (nI t) A V cu = ex A2 V cu ∧ (∀ u, t ≤ u → u < 6 → A2 139 (6 * p + u) = if u < ns then A 159 (6 * p + u) else 0) ∧ (∀ j, ¬ (6 * p + t ≤ j ∧ j < 6 * p + 6) → A2 139 j = A 139 j) ∧ ∀ b, b ≠ 139 → A2 b = A b := by
  intro k
  induction k with
  | zero =>
    intro t n A ht hn
    obtain ⟨n, rfl⟩ : ∃ m, n = m + 1 := ⟨n - 1, by omega⟩
    refine ⟨A, ?_, fun u h1 h2 => by omega, fun _ _ => rfl, fun _ _ => rfl⟩
    rw [fX9_back_L44, if_pos (by simp (disch := omega) only [ltI, leI, eqI, tI, tI1, ti_0, ti_1, ti_2, ti_3, ti_4, ti_5, ti_6, ti_7, ti_8, ti_9, ti_10, ti_11, ti_12, ti_14, ti_18, ti_30, ti_39, ti_40, ti_41, ti_45, ti_50, ti_59, ti_97, ti_99, ti_100, ti_122, ti_160, ti_243, ti_255, ti_399, ti_999, ti_1000, ti_1024, ti_99999, tm_1, tm_2, tm_3, tm_4, tm_5, tm_7, tm_11, tm_12, tm_13, tm_14, tm_100, if_pos, if_neg, if_true, if_false, bC_in, bI_s, bS_s, bX_s, bY_s, sO, tC]; omega)]
  | succ k ih =>
    intro t n A ht hn
    obtain ⟨n, rfl⟩ : ∃ m, n = m + 1 := ⟨n - 1, by omega⟩
    have i6 : (6 : Int32) * nI p + nI t = nI (6 * p + t) := by rw [show (6 : Int32) = nI 6 from rfl, pk_mul, nI_add]
    have go : ∀ x, x = (if t < ns then A 159 (6 * p + t) else 0) → ∃ A2, fX9_back_L44 (nI p) ex n (nI (t + 1)) (aw A 139 (nI (6 * p + t)) x) V cu = ex A2 V cu ∧ (∀ u, t ≤ u → u < 6 → A2 139 (6 * p + u) = if u < ns then A 159 (6 * p + u) else 0) ∧ (∀ j, ¬ (6 * p + t ≤ j ∧ j < 6 * p + 6) → A2 139 j = A 139 j) ∧ ∀ b, b ≠ 139 → A2 b = A b := by
      intro x hx
      obtain ⟨A2, w1, w2, w3, w4⟩ := ih (t + 1) n (aw A 139 (nI (6 * p + t)) x) (by omega) (by omega)
      refine ⟨A2, w1, fun u h1 h2 => ?_, fun j h1 => ?_, fun b hb => (w4 b hb).trans (aw_n hb)⟩
      · by_cases q : u = t
        · subst q
          rw [w3 _ (by omega), aw_s, tC (by omega), pk_us, hx]
        · rw [w2 u (by omega) h2, aw_n (by decide)]
      · rw [w3 j (by omega), aw_s, tC (by omega), pk_un (by omega)]
    rw [fX9_back_L44, if_neg (by simp (disch := omega) only [ltI, leI, eqI, tI, tI1, ti_0, ti_1, ti_2, ti_3, ti_4, ti_5, ti_6, ti_7, ti_8, ti_9, ti_10, ti_11, ti_12, ti_14, ti_18, ti_30, ti_39, ti_40, ti_41, ti_45, ti_50, ti_59, ti_97, ti_99, ti_100, ti_122, ti_160, ti_243, ti_255, ti_399, ti_999, ti_1000, ti_1024, ti_99999, tm_1, tm_2, tm_3, tm_4, tm_5, tm_7, tm_11, tm_12, tm_13, tm_14, tm_100, if_pos, if_neg, if_true, if_false, bC_in, bI_s, bS_s, bX_s, bY_s, sO, tC]; omega), h48, i6, bC_in ⟨by omega, by decide⟩, bC_in ⟨by omega, by decide⟩, tC (by omega), sO]
    by_cases q : t < ns
    · rw [if_neg (by simp (disch := omega) only [ltI, leI, eqI, tI, tI1, ti_0, ti_1, ti_2, ti_3, ti_4, ti_5, ti_6, ti_7, ti_8, ti_9, ti_10, ti_11, ti_12, ti_14, ti_18, ti_30, ti_39, ti_40, ti_41, ti_45, ti_50, ti_59, ti_97, ti_99, ti_100, ti_122, ti_160, ti_243, ti_255, ti_399, ti_999, ti_1000, ti_1024, ti_99999, tm_1, tm_2, tm_3, tm_4, tm_5, tm_7, tm_11, tm_12, tm_13, tm_14, tm_100, if_pos, if_neg, if_true, if_false, bC_in, bI_s, bS_s, bX_s, bY_s, sO, tC]; omega)]
      exact go _ (by rw [if_pos q])
    · rw [if_pos (by simp (disch := omega) only [ltI, leI, eqI, tI, tI1, ti_0, ti_1, ti_2, ti_3, ti_4, ti_5, ti_6, ti_7, ti_8, ti_9, ti_10, ti_11, ti_12, ti_14, ti_18, ti_30, ti_39, ti_40, ti_41, ti_45, ti_50, ti_59, ti_97, ti_99, ti_100, ti_122, ti_160, ti_243, ti_255, ti_399, ti_999, ti_1000, ti_1024, ti_99999, tm_1, tm_2, tm_3, tm_4, tm_5, tm_7, tm_11, tm_12, tm_13, tm_14, tm_100, if_pos, if_neg, if_true, if_false, bC_in, bI_s, bS_s, bX_s, bY_s, sO, tC]; omega)]
      exact go _ (by rw [if_neg q])
theorem r_back2 {np ns : Nat} (hnp : np ≤ 5) (hns : ns ≤ 6) (V : xM) (h47 : V 132 47 = nI np) (h48 : V 132 48 = nI ns) (cu : Value) (ex : xM → xM → Value → Option (Int32 × xS)) : ∀ k p n (A : xM), p + k = np → k < n → ∃ A2, fX9_back_L34 ex n (nI p) A V cu = ex A2 V cu ∧ (∀ r u, p ≤ r → r < np → u < 6 → A2 139 (6 * r + u) = if u < ns then A 159 (6 * r + u) else 0) ∧ (∀ j, ¬ (6 * p ≤ j ∧ j < 6 * np) → A2 139 j = A 139 j) ∧ ∀ b, b ≠ 139 → A2 b = A b := by
  intro k
  induction k with
  | zero =>
    intro p n A ht hn
    obtain ⟨n, rfl⟩ : ∃ m, n = m + 1 := ⟨n - 1, by omega⟩
    refine ⟨A, ?_, fun r u h1 h2 => by omega, fun _ _ => rfl, fun _ _ => rfl⟩
    rw [fX9_back_L34, h47, if_pos (by simp (disch := omega) only [ltI, leI, eqI, tI, tI1, ti_0, ti_1, ti_2, ti_3, ti_4, ti_5, ti_6, ti_7, ti_8, ti_9, ti_10, ti_11, ti_12, ti_14, ti_18, ti_30, ti_39, ti_40, ti_41, ti_45, ti_50, ti_59, ti_97, ti_99, ti_100, ti_122, ti_160, ti_243, ti_255, ti_399, ti_999, ti_1000, ti_1024, ti_99999, tm_1, tm_2, tm_3, tm_4, tm_5, tm_7, tm_11, tm_12, tm_13, tm_14, tm_100, if_pos, if_neg, if_true, if_false, bC_in, bI_s, bS_s, bX_s, bY_s, sO, tC]; omega)]
  | succ k ih =>
    intro p n A ht hn
    obtain ⟨n, rfl⟩ : ∃ m, n = m + 1 := ⟨n - 1, by omega⟩
    obtain ⟨A1, x1, x2, x3, x4⟩ := r_back1 (p := p) (by omega) hns V h48 cu (fun (A7 V8 : xM) (c9 : Value) => fX9_back_L34 ex n (nI (p + 1)) A7 V8 c9) 6 0 FU A (by omega) (fu_gt (by omega))
    obtain ⟨A2, w1, w2, w3, w4⟩ := ih (p + 1) n A1 (by omega) (by omega)
    refine ⟨A2, ?_, fun r u h1 h2 h3 => ?_, fun j h1 => ?_, fun b hb => (w4 b hb).trans (x4 b hb)⟩
    · rw [fX9_back_L34, h47, if_neg (by simp (disch := omega) only [ltI, leI, eqI, tI, tI1, ti_0, ti_1, ti_2, ti_3, ti_4, ti_5, ti_6, ti_7, ti_8, ti_9, ti_10, ti_11, ti_12, ti_14, ti_18, ti_30, ti_39, ti_40, ti_41, ti_45, ti_50, ti_59, ti_97, ti_99, ti_100, ti_122, ti_160, ti_243, ti_255, ti_399, ti_999, ti_1000, ti_1024, ti_99999, tm_1, tm_2, tm_3, tm_4, tm_5, tm_7, tm_11, tm_12, tm_13, tm_14, tm_100, if_pos, if_neg, if_true, if_false, bC_in, bI_s, bS_s, bX_s, bY_s, sO, tC]; omega), sO]
      exact Eq.trans x1 w1
    · by_cases q : r = p
      · subst q
        rw [w3 _ (by omega), x2 u (Nat.zero_le _) h3]
      · rw [w2 r u (by omega) h2 h3, x4 159 (by decide)]
    · rw [w3 j (by omega), x3 j (by omega)]
def bF (B : Nat → Nat → Nat) : Nat → Nat := fun j => if j / 6 < B 9 1 then B 8 j else B 5 j
theorem op_back (hd : 70 ≤ d) : iv_op (xk_ro LL xs) d 105 209 [] := by
  refine op_mk (fc := fun tx A V cu => fX8_back A V cu) (fm := fun tx A V cu => fX9_back A V cu) (fun tx A V cu r A' V' c' q => sX8_back (by omega) q) (fun tx A V cu r A' V' c' q => sX9_back (by omega) q) ?_
  intro N B A V tx cu hv
  obtain ⟨v1, v2, v3, v4, v5, v6, v7, v8, v9, v10, v11, v12, v13⟩ := id hv
  obtain ⟨⟨s1, s2, s3⟩, ⟨p1, p2, p3⟩, ⟨e1, e2, e3⟩, ⟨t1, t2, t3⟩, ⟨l1, l2, l3⟩, ⟨z1, z2, z3⟩⟩ := v1
  obtain ⟨i1, i2⟩ := v11
  unfold fX8_back fX9_back
  rcases i2 with i2 | ⟨i2, i3, i4, i5, i6, i7, i8, i9, ⟨i10, i11, i12⟩, ⟨j13, i14⟩, ⟨i15, i16, i17⟩, ⟨i18, i19, i20⟩⟩
  · refine ⟨-3, A, V, cu, by rw [if_pos i2], A, V, cu, by rw [if_pos (i1.symm.trans i2)], N, B, hv⟩
  have c0 : ¬ V 115 3 = 0 := by rw [i2]; decide
  have c0' : ¬ V 132 43 = 0 := by rw [← i1, i2]; decide
  have hmin : ∀ x y : Nat, x ≤ 12 → y ≤ 12 → (bif decide (nI x < nI y) then nI x else nI y) = nI (min y x) := by
    intro x y hx hy
    by_cases q : x < y
    · rw [decide_eq_true (show nI x < nI y by simp (disch := omega) only [ltI, leI, eqI, tI, tI1, ti_0, ti_1, ti_2, ti_3, ti_4, ti_5, ti_6, ti_7, ti_8, ti_9, ti_10, ti_11, ti_12, ti_14, ti_18, ti_30, ti_39, ti_40, ti_41, ti_45, ti_50, ti_59, ti_97, ti_99, ti_100, ti_122, ti_160, ti_243, ti_255, ti_399, ti_999, ti_1000, ti_1024, ti_99999, tm_1, tm_2, tm_3, tm_4, tm_5, tm_7, tm_11, tm_12, tm_13, tm_14, tm_100, if_pos, if_neg, if_true, if_false, bC_in, bI_s, bS_s, bX_s, bY_s, sO, tC]; omega), show min y x = x by omega]; rfl
    · rw [decide_eq_false (show ¬ nI x < nI y by simp (disch := omega) only [ltI, leI, eqI, tI, tI1, ti_0, ti_1, ti_2, ti_3, ti_4, ti_5, ti_6, ti_7, ti_8, ti_9, ti_10, ti_11, ti_12, ti_14, ti_18, ti_30, ti_39, ti_40, ti_41, ti_45, ti_50, ti_59, ti_97, ti_99, ti_100, ti_122, ti_160, ti_243, ti_255, ti_399, ti_999, ti_1000, ti_1024, ti_99999, tm_1, tm_2, tm_3, tm_4, tm_5, tm_7, tm_11, tm_12, tm_13, tm_14, tm_100, if_pos, if_neg, if_true, if_false, bC_in, bI_s, bS_s, bX_s, bY_s, sO, tC]; omega), show min y x = y by omega]; rfl
  obtain ⟨A1, w1, w2, w3⟩ := c_takeOf (l0 := 73) (l2 := 116) (by omega) (V 115 4) A V cu
  obtain ⟨V1, hV1⟩ : ∃ V1 : xM, V1 = up2 (up2 V 64 14 (nI (min (N 2) (B 9 3)))) 64 16 (nI (B 9 4)) := ⟨_, rfl⟩
  obtain ⟨A2, hA2⟩ : ∃ A2 : xM, A2 = va_up (va_up A1 99 (va_cpy (A1 120) (A1 99) (0 : Int32).toNatClampNeg (0 : Int32).toNatClampNeg (4 : Int32).toNatClampNeg)) 100 (va_cpy (A1 121) (A1 100) (0 : Int32).toNatClampNeg (0 : Int32).toNatClampNeg (4 : Int32).toNatClampNeg) := ⟨_, rfl⟩
  have eV1 : ∀ a k, ¬ (a = 64 ∧ (k = 14 ∨ k = 16)) → V1 a k = V a k := fun a k h => by rw [hV1, up2_n (by omega), up2_n (by omega)]
  obtain ⟨A3, x1, x2, x3⟩ := r_cpy (l0 := 157) (l1 := 133) (m := 16) (by decide) rfl rfl (by decide) A2 V1 cu
  obtain ⟨A4, y1, y2, y3⟩ := r_cpy (l0 := 158) (l1 := 134) (m := 4) (by decide) rfl rfl (by decide) A3 V1 cu
  obtain ⟨A5, u1, u2, u3, u4⟩ := r_back2 (np := B 9 1) (ns := B 9 2) (by omega) (by omega) V1 ((eV1 132 47 (by omega)).trans i11) ((eV1 132 48 (by omega)).trans j13) cu (fun (A23 V24 : xM) (c25 : Value) => some (((up2 (up2 V24 132 9 (bif decide ((V24 132 49) < (V24 132 9)) then (V24 132 49) else (V24 132 9))) 132 16 ((up2 V24 132 9 (bif decide ((V24 132 49) < (V24 132 9)) then (V24 132 49) else (V24 132 9))) 132 50)) 132 9), A23, (up2 (up2 V24 132 9 (bif decide ((V24 132 49) < (V24 132 9)) then (V24 132 49) else (V24 132 9))) 132 16 ((up2 V24 132 9 (bif decide ((V24 132 49) < (V24 132 9)) then (V24 132 49) else (V24 132 9))) 132 50)), c25)) (B 9 1) 0 FU A4 (by omega) (fu_gt (by omega))
  obtain ⟨V2, hV2⟩ : ∃ V2 : xM, V2 = up2 (up2 V1 132 9 (nI (min (N 2) (B 9 3)))) 132 16 (nI (B 9 4)) := ⟨_, rfl⟩
  have cA : ∀ a, ¬ (74 ≤ a ∧ a ≤ 76) → a ≠ 99 → a ≠ 100 → a ≠ 133 → a ≠ 134 → a ≠ 139 → A5 a = A a := fun a h1 h2 h3 h4 h5 h6 => by
    rw [u4 a h6, y3 a h5, x3 a h4, hA2, va_up_ne _ _ h3, va_up_ne _ _ h2, w3 a (by omega) (by omega) (by omega)]
  have cV : ∀ a k, ¬ (a = 64 ∧ (k = 14 ∨ k = 16)) → ¬ (a = 132 ∧ (k = 9 ∨ k = 16)) → V2 a k = V a k := fun a k h1 h2 => by
    rw [hV2, up2_n (by omega), up2_n (by omega), eV1 a k h1]
  have d14 : V2 64 14 = nI (min (N 2) (B 9 3)) := by rw [hV2, up2_n (by omega), up2_n (by omega), hV1, up2_n (by omega), up2_s]
  have d16 : V2 64 16 = nI (B 9 4) := by rw [hV2, up2_n (by omega), up2_n (by omega), hV1, up2_s]
  have d9 : V2 132 9 = nI (min (N 2) (B 9 3)) := by rw [hV2, up2_n (by omega), up2_s]
  have d161 : V2 132 16 = nI (B 9 4) := by rw [hV2, up2_s]
  refine ⟨nI (min (N 2) (B 9 3)), A2, V1, cu, ?_, A5, V2, cu, ?_, va_up (va_up N 2 (min (N 2) (B 9 3))) 3 (B 9 4), va_up (va_up (va_up B 0 (B 6)) 1 (B 7)) 5 (bF B), iv_but_back (A := A) (V := V) (cu := cu) (fun a q => cA a (fun z => ?_) (fun z => ?_) (fun z => ?_) (fun z => ?_) (fun z => ?_) (fun z => ?_)) (fun a k q => cV a k (fun z => ?_) (fun z => ?_)) hv ?_ ?_ ?_ ?_ ?_⟩
  · rw [if_neg c0, w1, bS_s]
    simp (disch := omega) only [up2_n, up2_s, va_up_ne, e1, i15, i18, hmin, ← hA2, ← hV1]
  · rw [if_neg (by rw [eV1 132 43 (by omega)]; exact c0'), x1, bS_s, y1, bS_s]
    refine Eq.trans u1 ?_
    simp (disch := omega) only [up2_n, up2_s, eV1, e2, i16, i19, hmin, ← hV2]
  · have : a = 74 ∨ a = 75 ∨ a = 76 := by omega
    rcases this with rfl | rfl | rfl <;> cases q
  · subst z; cases q
  · subst z; cases q
  · subst z; cases q
  · subst z; cases q
  · subst z; cases q
  · obtain ⟨rfl, rfl | rfl⟩ := z <;> cases q
  · obtain ⟨rfl, rfl | rfl⟩ := z <;> cases q
  · exact ⟨⟨(cV 64 13 (by omega) (by omega)).trans s1, (cV 132 2 (by omega) (by omega)).trans s2, s3⟩, ⟨(cV 65 3 (by omega) (by omega)).trans p1, (cV 132 4 (by omega) (by omega)).trans p2, p3⟩, ⟨d14, d9, show min (N 2) (B 9 3) ≤ 12 by omega⟩, ⟨(cV 64 15 (by omega) (by omega)).trans t1, (cV 132 15 (by omega) (by omega)).trans t2, t3⟩, ⟨d16, d161, i20⟩, ⟨(cV 95 1 (by omega) (by omega)).trans z1, (cV 132 14 (by omega) (by omega)).trans z2, z3⟩⟩
  · refine ⟨i3, fun q hq => ?_, fun q r hq hr => ?_⟩
    · show A5 99 q = nI (B 6 q)
      rw [u4 99 (by decide), y3 99 (by decide), x3 99 (by decide), hA2, va_up_ne _ _ (by decide), va_up_self, cpy4 hq, w3 120 (by decide) (by decide) (by decide)]
      exact i4 q hq
    · show A5 133 (4 * q + r) = nI (B 6 q / 2 ^ r % 2)
      rw [u4 133 (by decide), y3 133 (by decide), x2 _ (by omega), hA2, va_up_ne _ _ (by decide), va_up_ne _ _ (by decide), w3 157 (by decide) (by decide) (by decide)]
      exact i5 q r hq hr
  · intro r hr
    show A5 100 r = nI (B 7 r) ∧ A5 134 r = nI (B 7 r) ∧ 1 ≤ B 7 r ∧ B 7 r ≤ 5
    rw [u4 100 (by decide), y3 100 (by decide), x3 100 (by decide), hA2, va_up_self, cpy4 hr, w3 121 (by decide) (by decide) (by decide), u4 134 (by decide), y2 r hr, x3 158 (by decide), hA2, va_up_ne _ _ (by decide), va_up_ne _ _ (by decide), w3 158 (by decide) (by decide) (by decide)]
    exact i6 r hr
  · have hmk := msk (B 9 1) (by omega)
    have cc : ∀ u j, i13 j → u < 6 → A5 (73 + j) u = ((A (73 + j) u &&& (V 115 4 ^^^ (-1))) ||| (A (116 + j) u &&& V 115 4)) := fun u j hj hu => by
      have : 74 ≤ 73 + j ∧ 73 + j ≤ 76 := by rcases hj with rfl | rfl | rfl <;> omega
      rw [u4 _ (by omega), y3 _ (by omega), x3 _ (by omega), hA2, va_up_ne _ _ (by omega), va_up_ne _ _ (by omega), w2 u j hj hu]
    have mix : ∀ (f g h : Nat → Bool), (∀ p, p < 5 → h p = if p < B 9 1 then g p else f p) → ((nI (mk5 f) &&& (V 115 4 ^^^ (-1))) ||| (nI (mk5 g) &&& V 115 4)) = nI (mk5 h) := by
      intro f g h hh
      rw [i10, hmk, m_sub, m_and, m_or]
      refine congrArg nI (mk5_c (fun p hp => ?_))
      rw [hh p hp]
      by_cases q : p < B 9 1
      · rw [if_pos q, Nat.blt_eq.mpr q]; simp
      · rw [if_neg q, blt_f (by omega)]; simp
    have bf : ∀ p u, u < 6 → bF B (6 * p + u) = if p < B 9 1 then B 8 (6 * p + u) else B 5 (6 * p + u) := fun p u hu => by
      unfold bF
      rw [show (6 * p + u) / 6 = p by omega]
    refine ⟨fun p u hp hu => ?_, fun u hu => ?_, fun j hj => ?_⟩
    · show bF B (6 * p + u) ≤ 3 ∧ (N 1 ≤ p ∨ N 0 ≤ u → bF B (6 * p + u) = 0)
      rw [bf p u hu]
      by_cases q : p < B 9 1
      · rw [if_pos q]
        exact ⟨(i7 p u hp hu).1, fun z => (i7 p u hp hu).2 (by omega)⟩
      · rw [if_neg q]
        exact v7.1 p u hp hu
    · show A5 74 u = nI (mk5 (fun p => Nat.ble 2 (bF B (6 * p + u)))) ∧ A5 75 u = nI (mk5 (fun p => bF B (6 * p + u) == 1)) ∧ A5 76 u = nI (mk5 (fun p => bF B (6 * p + u) == 3))
      refine ⟨?_, ?_, ?_⟩
      · rw [show A5 74 u = _ from cc u 1 (Or.inl rfl) hu, show A (73 + 1) u = _ from (v7.2.1 u hu).1, show A (116 + 1) u = _ from (i8 u hu).1]
        exact mix _ _ _ (fun p hp => by rw [bf p u hu]; split <;> rfl)
      · rw [show A5 75 u = _ from cc u 2 (Or.inr (Or.inl rfl)) hu, show A (73 + 2) u = _ from (v7.2.1 u hu).2.1, show A (116 + 2) u = _ from (i8 u hu).2.1]
        exact mix _ _ _ (fun p hp => by rw [bf p u hu]; split <;> rfl)
      · rw [show A5 76 u = _ from cc u 3 (Or.inr (Or.inr rfl)) hu, show A (73 + 3) u = _ from (v7.2.1 u hu).2.2, show A (116 + 3) u = _ from (i8 u hu).2.2]
        exact mix _ _ _ (fun p hp => by rw [bf p u hu]; split <;> rfl)
    · show A5 139 j = nI (bF B j)
      have ej : j = 6 * (j / 6) + j % 6 := by omega
      have a4 : ∀ i, A4 139 i = A 139 i := fun i => by rw [y3 139 (by decide), x3 139 (by decide), hA2, va_up_ne _ _ (by decide), va_up_ne _ _ (by decide), w3 139 (by decide) (by decide) (by decide)]
      have a158 : ∀ i, A4 159 i = A 159 i := fun i => by rw [y3 159 (by decide), x3 159 (by decide), hA2, va_up_ne _ _ (by decide), va_up_ne _ _ (by decide), w3 159 (by decide) (by decide) (by decide)]
      unfold bF
      by_cases q : j / 6 < B 9 1
      · rw [if_pos q]
        have := u2 (j / 6) (j % 6) (Nat.zero_le _) q (by omega)
        rw [← ej] at this
        rw [this, a158]
        by_cases q2 : j % 6 < B 9 2
        · rw [if_pos q2]; exact i9 j hj
        · rw [if_neg q2]
          have := (i7 (j / 6) (j % 6) (by omega) (by omega)).2 (Or.inr (by omega))
          rw [← ej] at this
          rw [this]
          rfl
      · rw [if_neg q, u3 j (by omega), a4]
        exact v7.2.2 j hj
  · have eq : ∀ a, (102 ≤ a ∧ a ≤ 113) ∨ a = 140 ∨ a = 141 ∨ a = 142 → A5 a = A a := fun a h => cA a (by omega) (by omega) (by omega) (by omega) (by omega) (by omega)
    unfold iv_even
    rw [eq 140 (by omega), eq 141 (by omega), eq 142 (by omega), eq 102 (by omega), eq 103 (by omega), eq 104 (by omega), eq 105 (by omega), eq 106 (by omega), eq 107 (by omega), eq 108 (by omega), eq 109 (by omega), eq 110 (by omega), eq 111 (by omega), eq 112 (by omega), eq 113 (by omega)]
    refine ⟨v8.1, fun e he => v8.2 e ?_⟩
    have he : e < min (N 2) (B 9 3) := he
    omega
end IM
