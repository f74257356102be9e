/-! TEXT: the reference's rows as the machine's lists. -/
def rop (x : Int32) : Int32 := if x = 40 then 30 else tr (-x)
def isW (x : Int32) : Bool := decide (x = 40) || decide (x = 14) || decide (x = 15) || isOp x
def sk (f : Nat → Int32) : List Int32 → Prop
  | [] => True
  | x :: W => f W.length = rop x ∧ sk f W
def ck (f : Nat → Int32) : List Bool → Prop
  | [] => True
  | b :: C => f C.length = nI b.toNat ∧ ck f C
theorem sk_u {f : Nat → Int32} {i : Nat} {x : Int32} : ∀ {W : List Int32}, W.length ≤ i → sk f W → sk (upd f i x) W
  | [], _, _ => trivial
  | y :: W, h, hs => ⟨by have h : W.length + 1 ≤ i := h; rw [pk_un (by omega)]; exact hs.1, sk_u (by have h : W.length + 1 ≤ i := h; omega) hs.2⟩
theorem ck_u {f : Nat → Int32} {i : Nat} {x : Int32} : ∀ {C : List Bool}, C.length ≤ i → ck f C → ck (upd f i x) C
  | [], _, _ => trivial
  | y :: C, h, hs => ⟨by have h : C.length + 1 ≤ i := h; rw [pk_un (by omega)]; exact hs.1, ck_u (by have h : C.length + 1 ≤ i := h; omega) hs.2⟩
/-- what waits, what was compared, the steps, in the rows of the reference -/
def rSt (row : Nat) (A V : xM) (W : List Int32) (C : List Bool) (out : List Int32) : Prop := V 132 26 = nI W.length ∧ V 132 27 = nI (nO W) ∧ V 132 28 = nI (C.length - 1) ∧ V 132 30 = nI (160 * row) ∧ V 132 31 = nI out.length ∧ sk (A 148) W ∧ ck (A 149) C ∧ (∀ j, j < out.length → A 144 (160 * row + j) = tr (out.getD j 0)) ∧ ∀ x, x ∈ W → isW x = true
/-- what else a reading changes -/
def rFr (row : Nat) (A V A2 V2 : xM) : Prop := (∀ b, b ≠ 144 → b ≠ 148 → b ≠ 149 → A2 b = A b) ∧ (∀ i, i < 160 * row ∨ 160 * row + 160 ≤ i → A2 144 i = A 144 i) ∧ ∀ a j, ¬ (a = 132 ∧ (j = 19 ∨ j = 20 ∨ j = 21 ∨ j = 22 ∨ j = 26 ∨ j = 27 ∨ j = 28 ∨ j = 30 ∨ j = 31)) → V2 a j = V a j
theorem rFr_r (row : Nat) (A V : xM) : rFr row A V A V := ⟨fun _ _ _ _ => rfl, fun _ _ => rfl, fun _ _ _ => rfl⟩
theorem rFr_t {row : Nat} {A V A1 V1 A2 V2 : xM} (h : rFr row A V A1 V1) (h2 : rFr row A1 V1 A2 V2) : rFr row A V A2 V2 := ⟨fun b g1 g2 g3 => (h2.1 b g1 g2 g3).trans (h.1 b g1 g2 g3), fun i g => (h2.2.1 i g).trans (h.2.1 i g), fun a j g => (h2.2.2 a j g).trans (h.2.2 a j g)⟩
/-- what isn't the token -/
def rTf (A V A2 V2 : xM) : Prop := A2 143 = A 143 ∧ V2 132 14 = V 132 14 ∧ V2 132 19 = V 132 19 ∧ V2 132 20 = V 132 20 ∧ V2 132 21 = V 132 21 ∧ V2 132 22 = V 132 22
theorem rTf_t {A V A1 V1 A2 V2 : xM} (h : rTf A V A1 V1) (h2 : rTf A1 V1 A2 V2) : rTf A V A2 V2 := ⟨h2.1.trans h.1, h2.2.1.trans h.2.1, h2.2.2.1.trans h.2.2.1, h2.2.2.2.1.trans h.2.2.2.1, h2.2.2.2.2.1.trans h.2.2.2.2.1, h2.2.2.2.2.2.trans h.2.2.2.2.2⟩
theorem isW_c {x : Int32} (h : isW x = true) : x = 40 ∨ x = 14 ∨ x = 15 ∨ x = 43 ∨ x = 45 ∨ x = 42 ∨ x = 60 ∨ x = 61 ∨ x = 13 ∨ x = 12 := by
  unfold isW isOp isSum isCmp at h
  simp only [Bool.or_eq_true, decide_eq_true_eq] at h
  rcases h with ((h | h) | h) | ((((h | h) | h) | (h | h)) | h) | h <;> simp [h]
theorem rank_w {x : Int32} (A V : xM) (h : isW x = true) (h4 : x ≠ 40) : fX9_rank (rop x) A V = some (nI (rk x)) ∧ rop x ≠ 30 ∧ (rop x = 12 ↔ x = 14) ∧ (rop x = 18 ↔ x = 15) ∧ rop x = tr (-x) ∧ 1 ≤ rk x ∧ rk x ≤ 7 := by
  unfold fX9_rank
  rcases isW_c h with h | h | h | h | h | h | h | h | h | h
  · exact absurd h h4
  all_goals subst h; decide
theorem nI_p1 (w : Nat) : nI (w + 1) - 1 = nI w := by rw [show (1 : Int32) = nI 1 from rfl, nI_sub (by omega)]; rfl
section RE
variable {A V : xM} {cu : Value} {row : Nat} {W out : List Int32} {C : List Bool}
theorem r_emit (hrow : row < 18) (hl : out.length < 160) (s x : Int32) (hx : x = tr s) (h : rSt row A V W C out) : ∃ A2 V2, fX9_emit x A V cu = some (A2, V2, cu) ∧ rSt row A2 V2 W C (out ++ [s]) ∧ rFr row A V A2 V2 ∧ rTf A V A2 V2 := by
  obtain ⟨s26, s27, s28, s30, s31, sW, sC, sO, sI⟩ := h
  unfold fX9_emit
  rw [s30, s31, nI_add, bC_in ⟨by omega, by decide⟩, nI_1]
  refine ⟨_, _, rfl, ⟨by rw [up2_n (by omega)]; exact s26, by rw [up2_n (by omega)]; exact s27, by rw [up2_n (by omega)]; exact s28, by rw [up2_n (by omega)]; exact s30, by rw [up2_s, List.length_append]; rfl, by rw [aw_n (by decide)]; exact sW, by rw [aw_n (by decide)]; exact sC, fun j hj => ?_, sI⟩, ⟨fun b h1 h2 h3 => aw_n h1, fun i hi => ?_, fun a j h => up2_n (by omega)⟩, aw_n (by decide), up2_n (by omega), up2_n (by omega), up2_n (by omega), up2_n (by omega), up2_n (by omega)⟩
  · rw [List.length_append, List.length_singleton] at hj
    rw [aw_s, tC (by omega)]
    by_cases q : j = out.length
    · rw [q, pk_us, hx]
      simp
    · rw [pk_un (by omega), sO j (by omega)]
      simp [List.getElem?_append_left (show j < out.length by omega)]
  · rw [aw_s, tC (by omega), pk_un (by omega)]
theorem r_await (hl : W.length < 170) (x y : Int32) (hy : y = rop x) (hx : isW x = true) (s26 : V 132 26 = nI W.length) (s27 : V 132 27 = nI (nO (x :: W))) (s28 : V 132 28 = nI (C.length - 1)) (s30 : V 132 30 = nI (160 * row)) (s31 : V 132 31 = nI out.length) (sW : sk (A 148) W) (sC : ck (A 149) C) (sO : ∀ j, j < out.length → A 144 (160 * row + j) = tr (out.getD j 0)) (sI : ∀ x, x ∈ W → isW x = true) : ∃ A2 V2, fX9_await y A V cu = some (A2, V2, cu) ∧ rSt row A2 V2 (x :: W) C out ∧ rFr row A V A2 V2 ∧ rTf A V A2 V2 := by
  unfold fX9_await
  rw [s26, bC_in ⟨by omega, by decide⟩, nI_1]
  refine ⟨_, _, rfl, ⟨by rw [up2_s]; rfl, by rw [up2_n (by omega)]; exact s27, by rw [up2_n (by omega)]; exact s28, by rw [up2_n (by omega)]; exact s30, by rw [up2_n (by omega)]; exact s31, ⟨by rw [aw_s, tC (by omega), pk_us, hy], by rw [aw_s, tC (by omega)]; exact sk_u (Nat.le_refl _) sW⟩, by rw [aw_n (by decide)]; exact sC, fun j hj => by rw [aw_n (by decide)]; exact sO j hj, fun z hz => ?_⟩, ⟨fun b h1 h2 h3 => aw_n h2, fun i hi => by rw [aw_n (by decide)], fun a j h => up2_n (by omega)⟩, aw_n (by decide), up2_n (by omega), up2_n (by omega), up2_n (by omega), up2_n (by omega), up2_n (by omega)⟩
  rcases List.mem_cons.mp hz with q | q
  · rw [q]; exact hx
  · exact sI z q
theorem r_doAll (hrow : row < 18) {r : Nat} (hr : r ≤ 7) (ex : xM → xM → Value → Option xS) : ∀ (W out : List Int32) (n : Nat) (A V : xM), out.length + W.length ≤ 160 → W.length < n → rSt row A V W C out → ∃ A2 V2, fX9_doAll_L0 (nI r) ex n A V cu = ex A2 V2 cu ∧ rSt row A2 V2 (dA r W out).1 C (dA r W out).2 ∧ rFr row A V A2 V2 ∧ rTf A V A2 V2 := by
  intro W
  induction W with
  | nil =>
    intro out n A V hl hn h
    obtain ⟨n, rfl⟩ : ∃ m, n = m + 1 := ⟨n - 1, by omega⟩
    refine ⟨A, V, ?_, h, rFr_r _ _ _, rfl, rfl, rfl, rfl, rfl, rfl⟩
    rw [fX9_doAll_L0, h.1, if_pos (by decide)]
  | cons x W ih =>
    intro out n A V hl hn h
    obtain ⟨n, rfl⟩ : ∃ m, n = m + 1 := ⟨n - 1, by omega⟩
    have hl' : out.length + (W.length + 1) ≤ 160 := hl
    have hn' : W.length + 1 < n + 1 := hn
    obtain ⟨s26, s27, s28, s30, s31, sW, sC, sO, sI⟩ := id h
    have s26' : V 132 26 = nI (W.length + 1) := s26
    rw [fX9_doAll_L0, s26', nI_p1, if_neg (by simp (disch := omega) only [ltI, leI, eqI, tI, tI1, ti_0, ti_1, ti_2, ti_3, ti_4, ti_5, ti_6, ti_7, ti_8, ti_9, ti_10, ti_11, ti_12, ti_14, ti_18, ti_30, ti_39, ti_40, ti_41, ti_45, ti_50, ti_59, ti_97, ti_99, ti_100, ti_122, ti_160, ti_243, ti_255, ti_399, ti_999, ti_1000, ti_1024, ti_99999, tm_1, tm_2, tm_3, tm_4, tm_5, tm_7, tm_11, tm_12, tm_13, tm_14, tm_100, if_pos, if_neg, if_true, if_false, bC_in, bI_s, bS_s, bX_s, bY_s, sO, tC]; omega), bC_in ⟨by omega, by decide⟩, tC (by omega), sW.1]
    by_cases q : x = 40
    · have e : dA r (x :: W) out = (x :: W, out) := by rw [q]; exact dA_o
      rw [e]
      refine ⟨A, V, ?_, h, rFr_r _ _ _, rfl, rfl, rfl, rfl, rfl, rfl⟩
      rw [if_pos (by rw [q]; rfl)]
    obtain ⟨k1, k2, k3, k4, k5, k6, k7⟩ := rank_w A V (sI x (List.mem_cons_self ..)) q
    rw [if_neg k2, k1, bI_s]
    by_cases q2 : r ≤ rk x
    · rw [if_neg (by simp (disch := omega) only [ltI, leI, eqI, tI, tI1, ti_0, ti_1, ti_2, ti_3, ti_4, ti_5, ti_6, ti_7, ti_8, ti_9, ti_10, ti_11, ti_12, ti_14, ti_18, ti_30, ti_39, ti_40, ti_41, ti_45, ti_50, ti_59, ti_97, ti_99, ti_100, ti_122, ti_160, ti_243, ti_255, ti_399, ti_999, ti_1000, ti_1024, ti_99999, tm_1, tm_2, tm_3, tm_4, tm_5, tm_7, tm_11, tm_12, tm_13, tm_14, tm_100, if_pos, if_neg, if_true, if_false, bC_in, bI_s, bS_s, bX_s, bY_s, sO, tC]; omega)]
      have e : dA r (x :: W) out = dA r W (out ++ [-x]) := dA_s q q2
      rw [e]
      have go : ∀ z : Int32, nI (nO (x :: W)) - z = nI (nO W) → ∃ A2 V2, bC (xq_in ((up2 (up2 V 132 26 (nI W.length)) 132 27 (((up2 V 132 26 (nI W.length)) 132 27) - z)) 132 26) 170) (bS (fX9_emit (A 148 ((up2 (up2 V 132 26 (nI W.length)) 132 27 (((up2 V 132 26 (nI W.length)) 132 27) - z)) 132 26).toNatClampNeg) A (up2 (up2 V 132 26 (nI W.length)) 132 27 (((up2 V 132 26 (nI W.length)) 132 27) - z)) cu) (fun A11 V12 c13 => fX9_doAll_L0 (nI r) ex n A11 V12 c13)) = ex A2 V2 cu ∧ rSt row A2 V2 (dA r W (out ++ [-x])).1 C (dA r W (out ++ [-x])).2 ∧ rFr row A V A2 V2 ∧ rTf A V A2 V2 := by
        intro z hz
        rw [up2_n (show ¬ (132 = 132 ∧ 26 = 27) by omega), up2_n (show ¬ (132 = 132 ∧ 27 = 26) by omega), up2_s, s27, hz, bC_in ⟨by omega, by decide⟩, tC (by omega), sW.1]
        have h1 : rSt row A (up2 (up2 V 132 26 (nI W.length)) 132 27 (nI (nO W))) W C out := ⟨by rw [up2_n (by omega), up2_s], up2_s _ _ _ _, by rw [up2_n (by omega), up2_n (by omega)]; exact s28, by rw [up2_n (by omega), up2_n (by omega)]; exact s30, by rw [up2_n (by omega), up2_n (by omega)]; exact s31, sW.2, sC, sO, fun y hy => sI y (List.mem_cons_of_mem _ hy)⟩
        obtain ⟨A3, V3, y1, y2, y3, y4⟩ := r_emit (cu := cu) hrow (by omega) (-x) (rop x) k5 h1
        rw [y1, bS_s]
        obtain ⟨A4, V4, z1, z2, z3, z4⟩ := ih (out ++ [-x]) n A3 V3 (by rw [List.length_append, List.length_singleton]; omega) (by omega) y2
        refine ⟨A4, V4, z1, z2, rFr_t ?_ (rFr_t y3 z3), rTf_t ?_ (rTf_t y4 z4)⟩
        · exact ⟨fun _ _ _ _ => rfl, fun _ _ => rfl, fun a j h => by rw [up2_n (by omega), up2_n (by omega)]⟩
        · exact ⟨rfl, by rw [up2_n (by omega), up2_n (by omega)], by rw [up2_n (by omega), up2_n (by omega)], by rw [up2_n (by omega), up2_n (by omega)], by rw [up2_n (by omega), up2_n (by omega)], by rw [up2_n (by omega), up2_n (by omega)]⟩
      have e26 : (up2 V 132 26 (nI W.length)) 132 26 = nI W.length := up2_s _ _ _ _
      rw [e26, bC_in ⟨by omega, by decide⟩, tC (show W.length < 2 ^ 20 by omega), sW.1]
      by_cases q3 : x = 14
      · rw [if_pos (k3.mpr q3)]
        exact go 1 (by rw [q3]; show nI (1 + nO W) - 1 = _; rw [Nat.add_comm, nI_p1])
      · rw [if_neg (fun z => q3 (k3.mp z))]
        by_cases q4 : x = 15
        · rw [if_pos (k4.mpr q4)]
          exact go 1 (by rw [q4]; show nI (1 + nO W) - 1 = _; rw [Nat.add_comm, nI_p1])
        · rw [if_neg (fun z => q4 (k4.mp z))]
          exact go 0 (by rw [nO, if_neg (by rintro (y | y | y); exact q y; exact q3 y; exact q4 y), Nat.zero_add]; simp)
    · have e : dA r (x :: W) out = (x :: W, out) := by rw [dA, if_neg (fun z => q2 z.2)]
      rw [e]
      refine ⟨A, V, ?_, h, rFr_r _ _ _, rfl, rfl, rfl, rfl, rfl, rfl⟩
      rw [if_pos (by simp (disch := omega) only [ltI, leI, eqI, tI, tI1, ti_0, ti_1, ti_2, ti_3, ti_4, ti_5, ti_6, ti_7, ti_8, ti_9, ti_10, ti_11, ti_12, ti_14, ti_18, ti_30, ti_39, ti_40, ti_41, ti_45, ti_50, ti_59, ti_97, ti_99, ti_100, ti_122, ti_160, ti_243, ti_255, ti_399, ti_999, ti_1000, ti_1024, ti_99999, tm_1, tm_2, tm_3, tm_4, tm_5, tm_7, tm_11, tm_12, tm_13, tm_14, tm_100, if_pos, if_neg, if_true, if_false, bC_in, bI_s, bS_s, bX_s, bY_s, sO, tC]; omega)]
end RE
