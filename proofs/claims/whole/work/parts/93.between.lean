/-! TEXT: the reference's between, closes, ahead. -/
theorem dA_len (r : Nat) : ∀ (W out : List Int32), (dA r W out).2.length + (dA r W out).1.length = out.length + W.length
  | [], out => rfl
  | x :: W, out => by
    rw [dA]
    by_cases q : x ≠ 40 ∧ r ≤ rk x
    · rw [if_pos q, dA_len r W (out ++ [-x]), List.length_append, List.length_singleton, List.length_cons]
      omega
    · rw [if_neg q]
theorem dA_nO (r : Nat) : ∀ (W out : List Int32), nO (dA r W out).1 ≤ nO W
  | [], out => Nat.le_refl _
  | x :: W, out => by
    rw [dA]
    by_cases q : x ≠ 40 ∧ r ≤ rk x
    · rw [if_pos q, nO]
      have := dA_nO r W (out ++ [-x])
      omega
    · rw [if_neg q]
      exact Nat.le_refl _
def n40 : List Int32 → Nat
  | [] => 0
  | x :: W => (if x = 40 then 1 else 0) + n40 W
theorem dA_n40 (r : Nat) : ∀ (W out : List Int32), n40 (dA r W out).1 = n40 W
  | [], out => rfl
  | x :: W, out => by
    rw [dA]
    by_cases q : x ≠ 40 ∧ r ≤ rk x
    · rw [if_pos q, n40, if_neg q.1, dA_n40 r W (out ++ [-x]), Nat.zero_add]
    · rw [if_neg q]
theorem n40_nO : ∀ W : List Int32, n40 W ≤ nO W
  | [] => Nat.le_refl _
  | x :: W => by
    have := n40_nO W
    rw [n40, nO]
    by_cases q : x = 40
    · rw [if_pos q, if_pos (Or.inl q)]; omega
    · rw [if_neg q]; omega
theorem dA1_o : ∀ (W out : List Int32), (∀ x, x ∈ W → isW x = true) → 0 < n40 W → ∃ W2, (dA 1 W out).1 = 40 :: W2
  | [], out, _, h => (by cases h)
  | x :: W, out, hw, h => by
    rw [dA]
    by_cases q : x = 40
    · rw [if_neg (fun z => z.1 q), q]
      exact ⟨W, rfl⟩
    · have := (rank_w (fun _ _ => 0) (fun _ _ => 0) (hw x (List.mem_cons_self ..)) q).2.2.2.2.2.1
      rw [if_pos ⟨q, this⟩]
      rw [n40, if_neg q, Nat.zero_add] at h
      exact dA1_o W _ (fun y hy => hw y (List.mem_cons_of_mem _ hy)) h
theorem nar0 : vp_nar .boolean (0 : Int32) = nI false.toNat := by decide
theorem nar1 : vp_nar .boolean (1 : Int32) = nI true.toNat := by decide
def btw (op r : Int32) (A V : xM) (cu : Value) : Option (Int32 × xS) := bS (fX9_doAll r A V cu) (fun A33 V34 c35 => bS (fX9_await op A33 V34 c35) (fun A38 V39 c40 => if r = (4 : Int32) then (bC (xq_in (V39 132 28) 8) (some ((1 : Int32), (aw A38 149 (V39 132 28) (vp_nar .boolean (1 : Int32))), V39, c40))) else (if r ≤ (4 : Int32) then (bC (xq_in (V39 132 28) 8) (some ((1 : Int32), (aw A38 149 (V39 132 28) (vp_nar .boolean (0 : Int32))), V39, c40))) else (bC (xq_in (V39 132 28) 8) (if (A38 149 (V39 132 28).toNatClampNeg) = 0 then (some ((1 : Int32), (aw A38 149 (V39 132 28) (vp_nar .boolean (0 : Int32))), V39, c40)) else (some ((1 : Int32), (aw A38 149 (V39 132 28) (vp_nar .boolean (1 : Int32))), V39, c40)))))))
def btc (op r : Int32) (A V : xM) (cu : Value) : Option (Int32 × xS) := if r = (4 : Int32) then (bC (xq_in (V 132 28) 8) (if (A 149 (V 132 28).toNatClampNeg) = 0 then btw op r A V cu else (some ((0 : Int32), A, V, cu)))) else btw op r A V cu
section BT
variable {A V : xM} {cu : Value}
theorem k10 (A V : xM) : fX9_rank 10 A V = some 1 := by unfold fX9_rank; rw [if_pos rfl]
theorem k11 (A V : xM) : fX9_rank 11 A V = some 2 := by unfold fX9_rank; rw [if_neg (by decide), if_pos rfl]
theorem k13 (A V : xM) : fX9_rank 13 A V = some 4 := by unfold fX9_rank; rw [if_neg (by decide), if_neg (by decide), if_neg (by decide), if_pos rfl]
theorem k14 (A V : xM) : fX9_rank 14 A V = some 4 := by unfold fX9_rank; rw [if_neg (by decide), if_neg (by decide), if_neg (by decide), if_neg (by decide), if_pos rfl]
theorem k15 (A V : xM) : fX9_rank 15 A V = some 5 := by unfold fX9_rank; rw [if_neg (by decide), if_neg (by decide), if_neg (by decide), if_neg (by decide), if_neg (by decide), if_pos rfl]
theorem k16 (A V : xM) : fX9_rank 16 A V = some 5 := by unfold fX9_rank; rw [if_neg (by decide), if_neg (by decide), if_neg (by decide), if_neg (by decide), if_neg (by decide), if_neg (by decide), if_pos rfl]
theorem k17 (A V : xM) : fX9_rank 17 A V = some 6 := by unfold fX9_rank; rw [if_neg (by decide), if_neg (by decide), if_neg (by decide), if_neg (by decide), if_neg (by decide), if_neg (by decide), if_neg (by decide), if_pos rfl]
theorem bt_43 (h : V 132 20 = 4) (h2 : V 132 21 = 43) : fX9_between A V cu = btc 15 5 A V cu := by
  unfold fX9_between btc btw
  rw [if_pos h, if_pos h2]
  simp only [k15, bI_s]
theorem bt_45 (h : V 132 20 = 4) (h2 : V 132 21 = 45) : fX9_between A V cu = btc 16 5 A V cu := by
  unfold fX9_between btc btw
  rw [if_pos h, if_neg (by rw [h2]; decide), if_pos h2]
  simp only [k16, bI_s]
theorem bt_42 (h : V 132 20 = 4) (h2 : V 132 21 = 42) : fX9_between A V cu = btc 17 6 A V cu := by
  unfold fX9_between btc btw
  rw [if_pos h, if_neg (by rw [h2]; decide), if_neg (by rw [h2]; decide), if_pos h2]
  simp only [k17, bI_s]
theorem bt_60 (h : V 132 20 = 4) (h2 : V 132 21 = 60) : fX9_between A V cu = btc 13 4 A V cu := by
  unfold fX9_between btc btw
  rw [if_pos h, if_neg (by rw [h2]; decide), if_neg (by rw [h2]; decide), if_neg (by rw [h2]; decide), if_pos h2]
  simp only [k13, bI_s]
theorem bt_61 (h : V 132 20 = 4) (h2 : V 132 21 = 61) : fX9_between A V cu = btc 14 4 A V cu := by
  unfold fX9_between btc btw
  rw [if_pos h, if_neg (by rw [h2]; decide), if_neg (by rw [h2]; decide), if_neg (by rw [h2]; decide), if_neg (by rw [h2]; decide), if_pos h2]
  simp only [k14, bI_s]
theorem bt_13 (h : V 132 20 = 3) (h2 : V 132 21 = 4) : fX9_between A V cu = btc 11 2 A V cu := by
  unfold fX9_between btc btw
  rw [if_neg (by rw [h]; decide), if_pos h, if_pos h2]
  simp only [k11, bI_s]
theorem bt_12 (h : V 132 20 = 3) (h2 : V 132 21 = 3) : fX9_between A V cu = btc 10 1 A V cu := by
  unfold fX9_between btc btw
  rw [if_neg (by rw [h]; decide), if_pos h, if_neg (by rw [h2]; decide), if_pos h2]
  simp only [k10, bI_s]
theorem bt_no (h1 : V 132 20 = 4 → V 132 21 ≠ 43 ∧ V 132 21 ≠ 45 ∧ V 132 21 ≠ 42 ∧ V 132 21 ≠ 60 ∧ V 132 21 ≠ 61) (h2 : V 132 20 = 3 → V 132 21 ≠ 4 ∧ V 132 21 ≠ 3) : fX9_between A V cu = some (0, A, V, cu) := by
  unfold fX9_between
  by_cases h : V 132 20 = 4
  · obtain ⟨a1, a2, a3, a4, a5⟩ := h1 h
    rw [if_pos h, if_neg a1, if_neg a2, if_neg a3, if_neg a4, if_neg a5, if_neg (by rw [h]; decide)]
  · rw [if_neg h]
    by_cases h3 : V 132 20 = 3
    · obtain ⟨a1, a2⟩ := h2 h3
      rw [if_pos h3, if_neg a1, if_neg a2]
    · rw [if_neg h3]
end BT
section BU
variable {A V : xM} {cu : Value} {row : Nat} {W out : List Int32} {C : List Bool} {b : Bool}
theorem r_cmp (b' : Bool) (hC : C.length < 8) (h : rSt row A V W (b :: C) out) : rSt row (aw A 149 (nI C.length) (nI b'.toNat)) V W (b' :: C) out ∧ rFr row A V (aw A 149 (nI C.length) (nI b'.toNat)) V ∧ rTf A V (aw A 149 (nI C.length) (nI b'.toNat)) V := by
  obtain ⟨s26, s27, s28, s30, s31, sW, sC, sO, sI⟩ := h
  refine ⟨⟨s26, s27, s28, s30, s31, by rw [aw_n (by decide)]; exact sW, ⟨by rw [aw_s, tC (by omega), pk_us], by rw [aw_s, tC (by omega)]; exact ck_u (Nat.le_refl _) sC.2⟩, fun j hj => by rw [aw_n (by decide)]; exact sO j hj, sI⟩, ⟨fun b h1 h2 h3 => aw_n h3, fun i hi => by rw [aw_n (by decide)], fun _ _ _ => rfl⟩, aw_n (by decide), rfl, rfl, rfl, rfl, rfl⟩
theorem op_w {x : Int32} (h : isOp x = true) : isW x = true ∧ x ≠ 40 ∧ x ≠ 14 ∧ x ≠ 15 ∧ (isCmp x = true ↔ rk x = 4) := by
  have h' := h
  unfold isOp isSum isCmp at h'
  simp only [Bool.or_eq_true, decide_eq_true_eq] at h'
  rcases h' with ((((h' | h') | h') | (h' | h')) | h') | h' <;> subst h' <;> decide
theorem r_btw (hrow : row < 18) {x : Int32} (hx : isOp x = true) (hb : isCmp x = true → b = false) (h : rSt row A V W (b :: C) out) (hl : out.length + W.length ≤ 160) (hC : C.length < 8) : ∃ A2 V2, btc (rop x) (nI (rk x)) A V cu = some (1, A2, V2, cu) ∧ rSt row A2 V2 (x :: (dA (rk x) W out).1) ((isCmp x || (decide (4 < rk x) && b)) :: C) (dA (rk x) W out).2 ∧ rFr row A V A2 V2 ∧ rTf A V A2 V2 := by
  obtain ⟨o1, o2, o3, o4, o5⟩ := op_w hx
  have hk7 := (rank_w A V o1 o2).2.2.2.2.2.2
  have main : ∃ A2 V2, btw (rop x) (nI (rk x)) A V cu = some (1, A2, V2, cu) ∧ rSt row A2 V2 (x :: (dA (rk x) W out).1) ((isCmp x || (decide (4 < rk x) && b)) :: C) (dA (rk x) W out).2 ∧ rFr row A V A2 V2 ∧ rTf A V A2 V2 := by
    unfold btw fX9_doAll
    obtain ⟨A1, V1, x1, x2, x3, x4⟩ := r_doAll (cu := cu) hrow hk7 (fun (A30 V31 : xM) (c32 : Value) => some (A30, V31, c32)) W out FU A V hl (fu_gt (by omega)) h
    rw [x1, bS_s]
    have hlen := dA_len (rk x) W out
    obtain ⟨W1, hW1⟩ : ∃ W1, W1 = (dA (rk x) W out).1 := ⟨_, rfl⟩
    obtain ⟨out1, hout1⟩ : ∃ out1, out1 = (dA (rk x) W out).2 := ⟨_, rfl⟩
    rw [← hW1, ← hout1] at x2 hlen
    rw [← hW1, ← hout1]
    obtain ⟨s26, s27, s28, s30, s31, sW, sC, sO, sI⟩ := x2
    obtain ⟨A2, V2, y1, y2, y3, y4⟩ := r_await (cu := cu) (A := A1) (V := V1) (W := W1) (by omega) x (rop x) rfl o1 s26 (by rw [s27, nO, if_neg (by rintro (y | y | y); exact o2 y; exact o3 y; exact o4 y), Nat.zero_add]) s28 s30 s31 sW sC sO sI
    rw [y1, bS_s]
    have y28 : V2 132 28 = nI C.length := y2.2.2.1
    have yb : A2 149 C.length = nI b.toNat := y2.2.2.2.2.2.2.1.1
    rw [y28, bC_in ⟨by omega, by decide⟩, bC_in ⟨by omega, by decide⟩, bC_in ⟨by omega, by decide⟩, tC (show C.length < 2 ^ 20 by omega), yb, nar0, nar1]
    have fin : ∀ b' : Bool, b' = (isCmp x || (decide (4 < rk x) && b)) → ∃ A3 V3, (some ((1 : Int32), aw A2 149 (nI C.length) (nI b'.toNat), V2, cu) : Option (Int32 × xS)) = some (1, A3, V3, cu) ∧ rSt row A3 V3 (x :: W1) ((isCmp x || (decide (4 < rk x) && b)) :: C) out1 ∧ rFr row A V A3 V3 ∧ rTf A V A3 V3 := by
      intro b' hb'
      obtain ⟨z1, z2, z3⟩ := r_cmp b' hC y2
      rw [← hb']
      exact ⟨_, _, rfl, z1, rFr_t x3 (rFr_t y3 z2), rTf_t x4 (rTf_t y4 z3)⟩
    by_cases q : rk x = 4
    · rw [if_pos (by rw [q]; rfl)]
      exact fin true (by rw [o5.mpr q]; rfl)
    · have hcf : isCmp x = false := by
        cases z : isCmp x with
        | false => rfl
        | true => exact absurd (o5.mp z) q
      rw [if_neg (show ¬ (nI (rk x) = 4) from fun z => q ((nI_eq (b := 4) (by omega) (by omega)).mp z))]
      by_cases q2 : rk x ≤ 4
      · rw [if_pos (by simp (disch := omega) only [ltI, leI, eqI, tI, tI1, ti_0, ti_1, ti_2, ti_3, ti_4, ti_5, ti_6, ti_7, ti_8, ti_9, ti_10, ti_11, ti_12, ti_14, ti_18, ti_30, ti_39, ti_40, ti_41, ti_45, ti_50, ti_59, ti_97, ti_99, ti_100, ti_122, ti_160, ti_243, ti_255, ti_399, ti_999, ti_1000, ti_1024, ti_99999, tm_1, tm_2, tm_3, tm_4, tm_5, tm_7, tm_11, tm_12, tm_13, tm_14, tm_100, if_pos, if_neg, if_true, if_false, bC_in, bI_s, bS_s, bX_s, bY_s, sO, tC]; omega)]
        exact fin false (by rw [hcf, decide_eq_false (by omega)]; rfl)
      · rw [if_neg (by simp (disch := omega) only [ltI, leI, eqI, tI, tI1, ti_0, ti_1, ti_2, ti_3, ti_4, ti_5, ti_6, ti_7, ti_8, ti_9, ti_10, ti_11, ti_12, ti_14, ti_18, ti_30, ti_39, ti_40, ti_41, ti_45, ti_50, ti_59, ti_97, ti_99, ti_100, ti_122, ti_160, ti_243, ti_255, ti_399, ti_999, ti_1000, ti_1024, ti_99999, tm_1, tm_2, tm_3, tm_4, tm_5, tm_7, tm_11, tm_12, tm_13, tm_14, tm_100, if_pos, if_neg, if_true, if_false, bC_in, bI_s, bS_s, bX_s, bY_s, sO, tC]; omega)]
        cases b with
        | false =>
          rw [if_pos (show nI false.toNat = 0 from rfl)]
          exact fin false (by rw [hcf, Bool.and_false]; rfl)
        | true =>
          rw [if_neg (by decide)]
          exact fin true (by rw [hcf, decide_eq_true (by omega)]; rfl)
  unfold btc
  by_cases q : rk x = 4
  · have hb0 := hb (o5.mpr q)
    have s28 : V 132 28 = nI C.length := h.2.2.1
    have sb : A 149 C.length = nI b.toNat := h.2.2.2.2.2.2.1.1
    rw [if_pos (by rw [q]; rfl), s28, bC_in ⟨by omega, by decide⟩, tC (show C.length < 2 ^ 20 by omega), sb, hb0, if_pos (show nI false.toNat = 0 from rfl)]
    rw [hb0] at main
    exact main
  · rw [if_neg (show ¬ (nI (rk x) = 4) from fun z => q ((nI_eq (b := 4) (by omega) (by omega)).mp z))]
    exact main
/-- compared already: it can't stand -/
theorem r_btn {x : Int32} (hx : rk x = 4) (hb : b = true) (h : rSt row A V W (b :: C) out) (hC : C.length < 8) : btc (rop x) (nI (rk x)) A V cu = some (0, A, V, cu) := by
  unfold btc
  have s28 : V 132 28 = nI C.length := h.2.2.1
  have sb : A 149 C.length = nI b.toNat := h.2.2.2.2.2.2.1.1
  rw [if_pos (by rw [hx]; rfl), s28, bC_in ⟨by omega, by decide⟩, tC (show C.length < 2 ^ 20 by omega), sb, hb, if_neg (by decide)]
theorem r_closes (hrow : row < 18) {b2 : Bool} (h20 : V 132 20 = 4) (h21 : V 132 21 = 41) (h : rSt row A V W (b :: b2 :: C) out) (hl : out.length + W.length ≤ 160) (hC : C.length < 8) (h4 : 0 < n40 W) : ∃ A2 V2, fX9_closes A V cu = some (1, A2, V2, cu) ∧ rSt row A2 V2 (dA 7 (dA 1 W out).1.tail (dA 1 W out).2).1 (b2 :: C) (dA 7 (dA 1 W out).1.tail (dA 1 W out).2).2 ∧ rFr row A V A2 V2 ∧ rTf A V A2 V2 := by
  unfold fX9_closes
  have s28 : V 132 28 = nI (C.length + 1) := h.2.2.1
  rw [if_pos h20, if_pos h21, s28, if_neg (fun z => by have := (nI_eq (b := 0) (by omega) (by omega)).mp z; omega)]
  unfold fX9_doAll
  obtain ⟨A1, V1, x1, x2, x3, x4⟩ := r_doAll (cu := cu) hrow (r := 1) (by omega) (fun (A30 V31 : xM) (c32 : Value) => some (A30, V31, c32)) W out FU A V hl (fu_gt (by omega)) h
  have x1 : fX9_doAll_L0 1 (fun (A30 V31 : xM) (c32 : Value) => some (A30, V31, c32)) FU A V cu = some (A1, V1, cu) := x1
  rw [x1, bS_s]
  have hlen := dA_len 1 W out
  obtain ⟨W2, hW2⟩ := dA1_o W out h.2.2.2.2.2.2.2.2 h4
  rw [hW2] at x2 hlen ⊢
  obtain ⟨out1, hout1⟩ : ∃ out1, out1 = (dA 1 W out).2 := ⟨_, rfl⟩
  rw [← hout1] at x2 hlen ⊢
  have hlen : out1.length + (W2.length + 1) = out.length + W.length := hlen
  obtain ⟨t26, t27, t28, t30, t31, tW, tc, tO, tI⟩ := x2
  have t26 : V1 132 26 = nI (W2.length + 1) := t26
  have t27 : V1 132 27 = nI (nO W2 + 1) := by rw [t27]; show nI (1 + nO W2) = _; rw [Nat.add_comm]
  have t28 : V1 132 28 = nI (C.length + 1) := t28
  rw [up2_n (show ¬ (132 = 132 ∧ 28 = 26) by omega), up2_n (show ¬ (132 = 132 ∧ 27 = 28) by omega), up2_n (show ¬ (132 = 132 ∧ 27 = 26) by omega), t26, t27, t28, nI_p1, nI_p1, nI_p1]
  have h1 : rSt row A1 (up2 (up2 (up2 V1 132 26 (nI W2.length)) 132 28 (nI C.length)) 132 27 (nI (nO W2))) W2 (b2 :: C) out1 := ⟨by rw [up2_n (by omega), up2_n (by omega), up2_s], up2_s _ _ _ _, by rw [up2_n (by omega), up2_s]; rfl, by rw [up2_n (by omega), up2_n (by omega), up2_n (by omega)]; exact t30, by rw [up2_n (by omega), up2_n (by omega), up2_n (by omega)]; exact t31, tW.2, tc.2, tO, fun y hy => tI y (List.mem_cons_of_mem _ hy)⟩
  obtain ⟨A3, V3, y1, y2, y3, y4⟩ := r_doAll (cu := cu) hrow (r := 7) (by omega) (fun (A30 V31 : xM) (c32 : Value) => some (A30, V31, c32)) W2 out1 FU A1 (up2 (up2 (up2 V1 132 26 (nI W2.length)) 132 28 (nI C.length)) 132 27 (nI (nO W2))) (by omega) (fu_gt (by omega)) h1
  have y1 : fX9_doAll_L0 7 (fun (A30 V31 : xM) (c32 : Value) => some (A30, V31, c32)) FU A1 (up2 (up2 (up2 V1 132 26 (nI W2.length)) 132 28 (nI C.length)) 132 27 (nI (nO W2))) cu = some (A3, V3, cu) := y1
  rw [y1, bS_s]
  refine ⟨A3, V3, rfl, y2, rFr_t x3 (rFr_t ⟨fun _ _ _ _ => rfl, fun _ _ => rfl, fun a j h => by rw [up2_n (by omega), up2_n (by omega), up2_n (by omega)]⟩ y3), rTf_t x4 (rTf_t ⟨rfl, ?_, ?_, ?_, ?_, ?_⟩ y4)⟩
  all_goals rw [up2_n (by omega), up2_n (by omega), up2_n (by omega)]
theorem closes_no (h : V 132 20 = 4 → V 132 21 = 41 → V 132 28 = 0) : fX9_closes A V cu = some (0, A, V, cu) := by
  unfold fX9_closes
  by_cases q : V 132 20 = 4
  · rw [if_pos q]
    by_cases q2 : V 132 21 = 41
    · rw [if_pos q2, if_pos (h q q2)]
    · rw [if_neg q2]
  · rw [if_neg q]
end BU
