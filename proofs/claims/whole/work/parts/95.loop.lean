/-! TEXT: a number is none below 0; the reference's loop. -/
theorem dv_b {t : Nat → Int32} {a : Nat} : ∀ k, k ≤ 4 → (∀ j, a ≤ j → j < a + k → isDi (t j) = true) → ∃ m, m < 10 ^ k ∧ dv t a k = nI m
  | 0, _, _ => ⟨0, by decide, rfl⟩
  | k + 1, hk, h => by
    obtain ⟨m, hm, e⟩ := dv_b k (by omega) (fun j h1 h2 => h j h1 (by omega))
    have hd := h (a + k) (by omega) (by omega)
    have hk4 : 10 ^ k ≤ 1000 := Nat.pow_le_pow_right (n := 10) (by decide) (show k ≤ 3 by omega)
    obtain ⟨d, hd1, hd2⟩ : ∃ d, d < 10 ∧ t (a + k) = nI (48 + d) := by
      unfold isDi at hd
      rw [Bool.and_eq_true] at hd
      have r2 : ¬ t (a + k) < 48 := by simpa using hd.1
      have r3 : ¬ 57 < t (a + k) := by simpa using hd.2
      rw [ltI] at r2 r3
      have r2 : ¬ (t (a + k)).toInt < 48 := r2
      have r3 : ¬ (57 : Int) < (t (a + k)).toInt := r3
      refine ⟨(t (a + k)).toInt.toNat - 48, by omega, ?_⟩
      rw [eqI, tI (by omega)]
      omega
    refine ⟨m * 10 + d, by rw [Nat.pow_succ]; omega, ?_⟩
    rw [dv, e, hd2, show (10 : Int32) = nI 10 from rfl, pk_mul, nI_add, show (48 : Int32) = nI 48 from rfl, nI_sub (by omega)]
    exact congrArg nI (by omega)
theorem tV_num {t : Nat → Int32} {n k : Nat} (h : tK t n k = 1) : ∃ m, m < 10000 ∧ tV t n k = nI m := by
  obtain ⟨b, hb⟩ : ∃ b, b = ps t n k := ⟨_, rfl⟩
  have hbn : b ≤ n := by rw [hb]; exact ps_le k
  unfold tK at h
  unfold tV
  rw [← hb] at h ⊢
  obtain ⟨sp, hsp⟩ : ∃ sp, sp = tkS t n b := ⟨_, rfl⟩
  have hs := tkS_b (t := t) hbn
  rw [← hsp] at hs
  by_cases hE : n ≤ sp
  · unfold tkK at h; rw [← hsp, if_pos hE] at h; omega
  by_cases q1 : isLe (t sp) = true
  · unfold tkK at h
    rw [← hsp, if_neg hE, if_pos q1] at h
    by_cases q : tkW t n b = 12
    · rw [if_pos q] at h; omega
    · rw [if_neg q] at h
      unfold wk at h
      by_cases z : tkW t n b < 6
      · rw [if_pos z] at h; omega
      · rw [if_neg z] at h; omega
  by_cases q2 : isDi (t sp) = true
  · have eE : tkE t n b = rn isDi t n sp := by unfold tkE; rw [← hsp, if_neg hE, if_neg q1, if_pos q2]
    obtain ⟨d1, d2, -, d4⟩ := rn_p (q := isDi) (t := t) (n := n) (n - sp) sp (by omega)
    unfold tkK at h
    rw [← hsp, if_neg hE, if_neg q1, if_pos q2, eE] at h
    have hl : rn isDi t n sp - sp ≤ 4 := by
      by_cases z : rn isDi t n sp - sp ≤ 4
      · exact z
      · rw [if_neg z] at h; omega
    unfold tkV
    rw [← hsp, if_neg q1, if_pos q2, eE]
    obtain ⟨m, hm, e⟩ := dv_b (t := t) (a := sp) (rn isDi t n sp - sp) hl (fun j h1 h2 => d4 j h1 (by omega))
    exact ⟨m, Nat.lt_of_lt_of_le hm (Nat.pow_le_pow_right (n := 10) (by decide) hl), e⟩
  · unfold tkK at h
    rw [← hsp, if_neg hE, if_neg q1, if_neg q2] at h
    by_cases z : isSg (t sp) = true
    · rw [if_pos z] at h; omega
    · rw [if_neg z] at h; omega
theorem tr_num {m : Nat} (hm : m < 10000) : tr (nI m) = -1 - nI m := by
  unfold tr
  rw [if_pos (by simp (disch := omega) only [ltI, leI, eqI, tI, tI1, ti_0, ti_1, ti_2, ti_3, ti_4, ti_5, ti_6, ti_7, ti_8, ti_9, ti_10, ti_11, ti_12, ti_14, ti_18, ti_30, ti_39, ti_40, ti_41, ti_45, ti_50, ti_59, ti_97, ti_99, ti_100, ti_122, ti_160, ti_243, ti_255, ti_399, ti_999, ti_1000, ti_1024, ti_99999, tm_1, tm_2, tm_3, tm_4, tm_5, tm_7, tm_11, tm_12, tm_13, tm_14, tm_100, if_pos, if_neg, if_true, if_false, bC_in, bI_s, bS_s, bX_s, bY_s, sO, tC]; omega)]
theorem tr_nam : ∀ w, w < 6 → tr (-(nI (w + 3))) = nI w := by decide
section RL
variable {A V : xM} {cu : Value} {l1 lw lm : Int32} {n : Nat} {ex : xM → xM → Value → Option (Int32 × xS)}
theorem L_num (hw : lw ≠ 0) (h : V 132 20 = 1) : fX9_readE_L40 l1 ex (n + 1) lw lm A V cu = bS (fX9_emit ((-1 : Int32) - (V 132 21)) A V cu) (fun A127 V128 c129 => bS (fX9_doAll (7 : Int32) A127 V128 c129) (fun A132 V133 c134 => bS (fX9_next A132 V133 c134) (fun A137 V138 c139 => fX9_readE_L40 l1 ex n (0 : Int32) lm A137 V138 c139))) := by
  rw [fX9_readE_L40, if_neg hw, if_pos h]
theorem L_nam (hw : lw ≠ 0) (h : V 132 20 = 2) : fX9_readE_L40 l1 ex (n + 1) lw lm A V cu = bS (fX9_emit (V 132 21) A V cu) (fun A127 V128 c129 => bS (fX9_doAll (7 : Int32) A127 V128 c129) (fun A132 V133 c134 => bS (fX9_next A132 V133 c134) (fun A137 V138 c139 => fX9_readE_L40 l1 ex n (0 : Int32) lm A137 V138 c139))) := by
  rw [fX9_readE_L40, if_neg hw, if_neg (by rw [h]; decide), if_pos h]
theorem L_min (hw : lw ≠ 0) (h : V 132 20 = 4) (h2 : V 132 21 = 45) : fX9_readE_L40 l1 ex (n + 1) lw lm A V cu = bX (fX9_ahead lm A V cu) (fun x159 A160 V161 c162 => if x159 = 0 then (some ((0 : Int32), A160, V161, c162)) else (bS (fX9_next A160 V161 c162) (fun A166 V167 c168 => fX9_readE_L40 l1 ex n lw (0 : Int32) A166 V167 c168))) := by
  rw [fX9_readE_L40, if_neg hw, if_neg (by rw [h]; decide), if_neg (by rw [h]; decide), if_pos h, if_pos h2]
theorem L_oth (hw : lw ≠ 0) (h1 : V 132 20 ≠ 1) (h2 : V 132 20 ≠ 2) (h : ¬ (V 132 20 = 4 ∧ V 132 21 = 45)) : fX9_readE_L40 l1 ex (n + 1) lw lm A V cu = bX (fX9_ahead lm A V cu) (fun x159 A160 V161 c162 => if x159 = 0 then (some ((0 : Int32), A160, V161, c162)) else (bS (fX9_next A160 V161 c162) (fun A166 V167 c168 => fX9_readE_L40 l1 ex n lw (1 : Int32) A166 V167 c168))) := by
  rw [fX9_readE_L40, if_neg hw, if_neg h1, if_neg h2]
  by_cases q : V 132 20 = 4
  · rw [if_pos q, if_neg (fun z => h ⟨q, z⟩)]
  · rw [if_neg q]
theorem L_end (hw : lw = 0) (h : V 132 20 = 4) (h2 : V 132 21 = 59) (h3 : V 132 28 = 0) : fX9_readE_L40 l1 ex (n + 1) lw lm A V cu = ex A V cu := by
  rw [fX9_readE_L40, if_pos hw, if_pos h, if_pos h2, if_pos h3]
theorem L_btw (hw : lw = 0) (h : ¬ (V 132 20 = 4 ∧ V 132 21 = 59 ∧ V 132 28 = 0)) : fX9_readE_L40 l1 ex (n + 1) lw lm A V cu = bX (fX9_between A V cu) (fun x5 A6 V7 c8 => if x5 = 0 then (bX (fX9_closes A6 V7 c8) (fun x11 A12 V13 c14 => if x11 = 0 then (some ((0 : Int32), A12, V13, c14)) else (bS (fX9_next A12 V13 c14) (fun A18 V19 c20 => fX9_readE_L40 l1 ex n lw lm A18 V19 c20)))) else (if (V7 132 20) = (3 : Int32) then (if (V7 132 21) = (4 : Int32) then (bS (fX9_next A6 V7 c8) (fun A25 V26 c27 => fX9_readE_L40 l1 ex n (1 : Int32) (1 : Int32) A25 V26 c27)) else (if (V7 132 21) = (3 : Int32) then (bS (fX9_next A6 V7 c8) (fun A31 V32 c33 => fX9_readE_L40 l1 ex n (1 : Int32) (1 : Int32) A31 V32 c33)) else (bS (fX9_next A6 V7 c8) (fun A36 V37 c38 => fX9_readE_L40 l1 ex n (1 : Int32) (0 : Int32) A36 V37 c38)))) else (bS (fX9_next A6 V7 c8) (fun A41 V42 c43 => fX9_readE_L40 l1 ex n (1 : Int32) (0 : Int32) A41 V42 c43)))) := by
  rw [fX9_readE_L40, if_pos hw]
  by_cases q : V 132 20 = 4
  · rw [if_pos q]
    by_cases q2 : V 132 21 = 59
    · rw [if_pos q2, if_neg (fun z => h ⟨q, q2, z⟩)]
    · rw [if_neg q2]
  · rw [if_neg q]
end RL
/-- what the reference's loop comes to -/
def rRes (nn row : Nat) (A V : xM) (cu : Value) (ex : xM → xM → Value → Option (Int32 × xS)) (k' : Nat) (ok : Bool) (l : List Int32) (x : Option (Int32 × xS)) : Prop := ∃ A2 V2, rFr row A V A2 V2 ∧ rTk nn A2 V2 k' ∧ (ok = false → x = some (0, A2, V2, cu)) ∧ (ok = true → x = ex A2 V2 cu ∧ ∃ W C out, rSt row A2 V2 W C out ∧ (dA 1 W out).2 = l ∧ out.length + W.length ≤ 160)
theorem rRes_t {nn row : Nat} {A V A1 V1 : xM} {cu : Value} {ex : xM → xM → Value → Option (Int32 × xS)} {k' : Nat} {ok : Bool} {l : List Int32} {x : Option (Int32 × xS)} (h : rFr row A V A1 V1) (h2 : rRes nn row A1 V1 cu ex k' ok l x) : rRes nn row A V cu ex k' ok l x := by
  obtain ⟨A2, V2, g1, g2⟩ := h2
  exact ⟨A2, V2, rFr_t h g1, g2⟩
section RM
variable {cu : Value} {nn row : Nat} {l1 : Int32} {ex : xM → xM → Value → Option (Int32 × xS)} {T : Nat → Int32}
theorem sg_op {x : Int32} (h : isOp x = true) : (isSg x = true ∧ x ≠ 59 ∧ ¬ (x = 12 ∨ x = 13)) ∨ x = nI (4 + 9) ∨ x = nI (3 + 9) := by
  unfold isOp isSum isCmp at h
  simp only [Bool.or_eq_true, decide_eq_true_eq] at h
  rcases h with ((((h | h) | h) | (h | h)) | h) | h <;> subst h <;> decide
/-- between at an operator -/
theorem r_bt_y {A V : xM} {k : Nat} (h : rTk nn A V k) (hp : isOp (cC (A 143) nn k) = true) : fX9_between A V cu = btc (rop (cC (A 143) nn k)) (nI (rk (cC (A 143) nn k))) A V cu := by
  obtain ⟨x, hx⟩ : ∃ x, cC (A 143) nn k = x := ⟨_, rfl⟩
  rw [hx] at hp ⊢
  have hp' := hp
  unfold isOp isSum isCmp at hp'
  simp only [Bool.or_eq_true, decide_eq_true_eq] at hp'
  rcases hp' with ((((h' | h') | h') | (h' | h')) | h') | h'
  · subst h'; obtain ⟨a, b⟩ := rt_s h (by decide) hx; exact bt_43 a b
  · subst h'; obtain ⟨a, b⟩ := rt_s h (by decide) hx; exact bt_45 a b
  · subst h'; obtain ⟨a, b⟩ := rt_s h (by decide) hx; exact bt_42 a b
  · subst h'; obtain ⟨a, b⟩ := rt_s h (by decide) hx; exact bt_60 a b
  · subst h'; obtain ⟨a, b⟩ := rt_s h (by decide) hx; exact bt_61 a b
  · subst h'; obtain ⟨a, b⟩ := rt_k (u := 4) h (by decide) hx; exact bt_13 a b
  · subst h'; obtain ⟨a, b⟩ := rt_k (u := 3) h (by decide) hx; exact bt_12 a b
theorem r_bt_n {A V : xM} {k : Nat} (h : rTk nn A V k) (hp : isOp (cC (A 143) nn k) = false) : fX9_between A V cu = some (0, A, V, cu) := by
  refine bt_no (fun q => ?_) (fun q => ?_)
  · rw [rt_4 h q]
    refine ⟨?_, ?_, ?_, ?_, ?_⟩ <;> intro z <;> rw [z] at hp <;> exact absurd hp (by decide)
  · obtain ⟨w, hw, e1, e2⟩ := rt_3 h q
    rw [e1]
    refine ⟨?_, ?_⟩
    · intro z
      have := (nI_eq (b := 4) (by omega) (by omega)).mp z
      rw [e2, this] at hp
      exact absurd hp (by decide)
    · intro z
      have := (nI_eq (b := 3) (by omega) (by omega)).mp z
      rw [e2, this] at hp
      exact absurd hp (by decide)
theorem r_loop (hn : nn ≤ 160) (hrow : row < 18) : ∀ F n w mn lw lm W b C out k A V k' ok l, F ≤ n → lw = nI (Bool.toNat w) → lm = nI (Bool.toNat mn) → A 143 = T → lets A → rTk nn A V k → rSt row A V W (b :: C) out → out.length + W.length ≤ k → k ≤ 160 → nO W ≤ 5 → C.length = n40 W → mE (cC T nn) (tV T nn) F w mn W (b :: C) out k = some (k', ok, l) → rRes nn row A V cu ex k' ok l (fX9_readE_L40 l1 ex n lw lm A V cu) := by
  intro F
  induction F with
  | zero => intro n w mn lw lm W b C out k A V k' ok l h1 h2 h3 h4 h5 h6 h7 h8 h9 h10 h11 e; rw [mE] at e; cases e
  | succ F ih =>
    intro n w mn lw lm W b C out k A V k' ok l hF hw hm hT hL hk hs hl h160 ho hC e
    obtain ⟨n, rfl⟩ : ∃ m, n = m + 1 := ⟨n - 1, by omega⟩
    have h40 := n40_nO W
    have hc := cC_end (t := T) hn
    -- a thing is there: it is written, what waits ahead of it is done
    have thing : ∀ s x : Int32, w = true → x = tr s → k < 160 → mE (cC T nn) (tV T nn) F false mn (dA 7 W (out ++ [s])).1 (b :: C) (dA 7 W (out ++ [s])).2 (k + 1) = some (k', ok, l) → rRes nn row A V cu ex k' ok l (bS (fX9_emit x A V cu) (fun A127 V128 c129 => bS (fX9_doAll (7 : Int32) A127 V128 c129) (fun A132 V133 c134 => bS (fX9_next A132 V133 c134) (fun A137 V138 c139 => fX9_readE_L40 l1 ex n (0 : Int32) lm A137 V138 c139)))) := by
      intro s x _ hx hk1 e
      obtain ⟨A1, V1, x1, x2, x3, x4⟩ := r_emit (cu := cu) hrow (by omega) s x hx hs
      rw [x1, bS_s]
      unfold fX9_doAll
      have hlen := dA_len 7 W (out ++ [s])
      rw [List.length_append, List.length_singleton] at hlen
      obtain ⟨A2, V2, y1, y2, y3, y4⟩ := r_doAll (cu := cu) hrow (r := 7) (by omega) (fun (A30 V31 : xM) (c32 : Value) => some (A30, V31, c32)) W (out ++ [s]) FU A1 V1 (by rw [List.length_append, List.length_singleton]; omega) (fu_gt (by omega)) x2
      have y1 : fX9_doAll_L0 7 (fun (A30 V31 : xM) (c32 : Value) => some (A30, V31, c32)) FU A1 V1 cu = some (A2, V2, cu) := y1
      rw [y1, bS_s]
      have fr := rFr_t x3 y3
      have T2 : A2 143 = T := by rw [fr.1 143 (by decide) (by decide) (by decide), hT]
      obtain ⟨V3, z1, z2, z3, z4⟩ := r_nx (cu := cu) (lets_f hL fr) hn (rTk_f hk (rTf_t x4 y4)) y2
      rw [z1, bS_s]
      have fr2 := rFr_t fr z4
      have b1 := dA_nO 7 W (out ++ [s])
      have b2 := dA_n40 7 W (out ++ [s])
      exact rRes_t fr2 (ih n false mn 0 lm _ b C _ (k + 1) A2 V3 k' ok l (by omega) rfl hm T2 (lets_f hL fr) z2 z3 (by omega) (by omega) (by omega) (by omega) e)
    -- the next token, and on
    have go : ∀ (A1 V1 : xM) (lw1 lm1 : Int32) (w1 mn1 : Bool) W1 b1 C1 out1, rFr row A V A1 V1 → rTf A V A1 V1 → rSt row A1 V1 W1 (b1 :: C1) out1 → lw1 = nI w1.toNat → lm1 = nI mn1.toNat → out1.length + W1.length ≤ k + 1 → k < 160 → nO W1 ≤ 5 → C1.length = n40 W1 → mE (cC T nn) (tV T nn) F w1 mn1 W1 (b1 :: C1) out1 (k + 1) = some (k', ok, l) → rRes nn row A V cu ex k' ok l (bS (fX9_next A1 V1 cu) (fun A166 V167 c168 => fX9_readE_L40 l1 ex n lw1 lm1 A166 V167 c168)) := by
      intro A1 V1 lw1 lm1 w1 mn1 W1 b1 C1 out1 fr tf st g1 g2 g3 g4 g5 g6 e
      obtain ⟨V3, z1, z2, z3, z4⟩ := r_nx (cu := cu) (lets_f hL fr) hn (rTk_f hk tf) st
      rw [z1, bS_s]
      have T2 : A1 143 = T := by rw [fr.1 143 (by decide) (by decide) (by decide), hT]
      exact rRes_t (rFr_t fr z4) (ih n w1 mn1 lw1 lm1 W1 b1 C1 out1 (k + 1) A1 V3 k' ok l (by omega) g1 g2 T2 (lets_f hL fr) z2 z3 g3 (by omega) g5 g6 e)
    have s27 : V 132 27 = nI (nO W) := hs.2.1
    have s28 : V 132 28 = nI C.length := hs.2.2.1
    have hkT : ∀ x, cC T nn k = x → cC (A 143) nn k = x := fun x h => by rw [hT]; exact h
    have bad : ∀ x : Option (Int32 × xS), x = some (0, A, V, cu) → (some (k, false, out) : pR) = some (k', ok, l) → rRes nn row A V cu ex k' ok l x := by
      intro x hx e
      obtain ⟨rfl, rfl, rfl⟩ := oke e
      exact ⟨A, V, rFr_r _ _ _, hk, fun _ => hx, fun z => (by cases z)⟩
    rw [mE] at e
    cases w with
    | true =>
      rw [if_pos rfl] at e
      have hw0 : lw ≠ 0 := by rw [hw]; decide
      by_cases q1 : cC T nn k = 2
      · rw [if_pos q1] at e
        have hk1 : k < 160 := lt160 hc (by rw [q1]; decide)
        have e1 := cC_2 (hkT _ q1)
        have h20 : V 132 20 = 1 := by rw [hk.2.1, e1]; rfl
        rw [L_num hw0 h20]
        obtain ⟨m, hm1, hm2⟩ := tV_num e1
        rw [hT] at hm2
        have h21 : V 132 21 = tV T nn k := by rw [hk.2.2.2.2 (by omega), hT]
        exact thing (tV T nn k) _ rfl (by rw [h21, hm2, tr_num hm1]) hk1 e
      rw [if_neg q1] at e
      by_cases q2 : 3 ≤ cC T nn k ∧ cC T nn k ≤ 8
      · rw [if_pos q2] at e
        have hk1 : k < 160 := lt160 hc (fun z => by rw [z] at q2; exact absurd q2.1 (by decide))
        obtain ⟨e1, u, hu, e2, e3⟩ := tok_n (t := T) (n := nn) (k := k) q2
        have h20 : V 132 20 = 2 := by rw [hk.2.1, hT, e1]; rfl
        have h21 : V 132 21 = nI u := by rw [hk.2.2.2.2 (by rw [hT]; omega), hT]; exact e2
        rw [L_nam hw0 h20]
        exact thing (-(cC T nn k)) _ rfl (by rw [h21, e3, tr_nam u hu]) hk1 e
      rw [if_neg q2] at e
      have n1 : V 132 20 ≠ 1 := fun z => q1 (by rw [← hT]; exact rt_1 hk z)
      have n2 : V 132 20 ≠ 2 := fun z => q2 (by rw [← hT]; exact rt_2 hk z)
      by_cases q3 : nO W < 5 ∧ cC T nn k = 45
      · rw [if_pos q3] at e
        have hk1 : k < 160 := lt160 hc (by rw [q3.2]; decide)
        obtain ⟨h20, h21⟩ := rt_s hk (by decide) (hkT _ q3.2)
        rw [L_min hw0 h20 h21, ah_45 h20 h21 (o5 s27 q3.1)]
        obtain ⟨A2, V2, y1, y2, y3, y4⟩ := r_aw1 (cu := cu) 15 18 (by decide) (by decide) (by rw [nO, if_pos (by decide), Nat.add_comm]) (by omega) hs
        rw [y1, bS_s, bX_s, if_neg (by decide)]
        exact go A2 V2 lw 0 true false (15 :: W) b C out y3 y4 y2 hw rfl (by rw [List.length_cons]; omega) hk1 (by rw [nO, if_pos (by decide)]; omega) (by rw [n40, if_neg (by decide), Nat.zero_add]; exact hC) e
      rw [if_neg q3] at e
      by_cases q4 : nO W < 5 ∧ cC T nn k = 40
      · rw [if_pos q4] at e
        have hk1 : k < 160 := lt160 hc (by rw [q4.2]; decide)
        obtain ⟨h20, h21⟩ := rt_s hk (by decide) (hkT _ q4.2)
        rw [L_oth hw0 n1 n2 (fun z => by rw [h21] at z; exact absurd z.2 (by decide))]
        obtain ⟨A2, V2, y1, y2, y3, y4⟩ := r_ah40 (cu := cu) (lm := lm) h20 h21 q4.1 (by omega) (by omega) hs
        rw [y1, bX_s, if_neg (by decide)]
        exact go A2 V2 lw 1 true true (40 :: W) false (b :: C) out y3 y4 y2 hw rfl (by rw [List.length_cons]; omega) hk1 (by rw [nO, if_pos (by decide)]; omega) (by rw [n40, if_pos rfl, List.length_cons, hC, Nat.add_comm]) e
      rw [if_neg q4] at e
      by_cases q5 : nO W < 5 ∧ cC T nn k = 14 ∧ mn = true
      · rw [if_pos q5] at e
        have hk1 : k < 160 := lt160 hc (by rw [q5.2.1]; decide)
        obtain ⟨h20, h21⟩ := rt_k (u := 5) hk (by decide) (hkT _ q5.2.1)
        rw [L_oth hw0 n1 n2 (fun z => by rw [h20] at z; exact absurd z.1 (by decide)), ah_14 (by rw [hm, q5.2.2]; decide) h20 h21 (o5 s27 q5.1)]
        obtain ⟨A2, V2, y1, y2, y3, y4⟩ := r_aw1 (cu := cu) 14 12 (by decide) (by decide) (by rw [nO, if_pos (by decide), Nat.add_comm]) (by omega) hs
        rw [y1, bS_s, bX_s, if_neg (by decide)]
        exact go A2 V2 lw 1 true true (14 :: W) b C out y3 y4 y2 hw rfl (by rw [List.length_cons]; omega) hk1 (by rw [nO, if_pos (by decide)]; omega) (by rw [n40, if_neg (by decide), Nat.zero_add]; exact hC) e
      rw [if_neg q5] at e
      have no : fX9_ahead lm A V cu = some (0, A, V, cu) := by
        have o55 : ∀ z : ¬ nO W < 5, V 132 27 = 5 := fun z => by rw [s27, show nO W = 5 by omega]; rfl
        refine ah_no (fun z1 z2 => o55 (fun y => q4 ⟨y, ?_⟩)) (fun z1 z2 => o55 (fun y => q3 ⟨y, ?_⟩)) (fun z0 z1 z2 => o55 (fun y => q5 ⟨y, ?_, ?_⟩))
        · rw [← hT, ← rt_4 hk z1, z2]
        · rw [← hT, ← rt_4 hk z1, z2]
        · obtain ⟨u, hu, e1, e2⟩ := rt_3 hk z1
          have := (nI_eq (b := 5) (by omega) (by omega)).mp (e1.symm.trans z2)
          rw [← hT, e2, this]
          rfl
        · cases mn with
          | true => rfl
          | false => exact absurd hm z0
      refine bad _ ?_ e
      by_cases q6 : V 132 20 = 4 ∧ V 132 21 = 45
      · rw [L_min hw0 q6.1 q6.2, no, bX_s, if_pos rfl]
      · rw [L_oth hw0 n1 n2 q6, no, bX_s, if_pos rfl]
    | false =>
      rw [if_neg (by decide)] at e
      have hw0 : lw = 0 := hw
      by_cases q1 : cC T nn k = 59 ∧ (b :: C).length = 1
      · rw [if_pos q1] at e
        obtain ⟨rfl, rfl, rfl⟩ := oke e
        obtain ⟨h20, h21⟩ := rt_s hk (by decide) (hkT _ q1.1)
        have hC0 : C.length = 0 := by have := q1.2; rw [List.length_cons] at this; omega
        exact ⟨A, V, rFr_r _ _ _, hk, fun z => (by cases z), fun _ => ⟨L_end hw0 h20 h21 (by rw [s28, hC0]; rfl), W, b :: C, out, hs, rfl, by omega⟩⟩
      rw [if_neg q1] at e
      have nb : ¬ (V 132 20 = 4 ∧ V 132 21 = 59 ∧ V 132 28 = 0) := by
        rintro ⟨z1, z2, z3⟩
        rw [s28] at z3
        have := (nI_eq (b := 0) (by omega) (by omega)).mp z3
        exact q1 ⟨by rw [← hT, ← rt_4 hk z1, z2], by rw [List.length_cons, this]⟩
      rw [L_btw hw0 nb]
      by_cases q2 : isOp (cC T nn k) = true
      · by_cases q3 : isCmp (cC T nn k) = true ∧ b = true
        · -- compared twice
          rw [if_neg (fun z => z.2 q3), if_neg (fun z => by rw [z.1] at q2; exact absurd q2 (by decide))] at e
          refine bad _ ?_ e
          have hcm := rk_c q3.1
          rw [r_bt_y hk (by rw [hT]; exact q2), hT, r_btn hcm.1 q3.2 hs (by omega), bX_s, if_pos rfl, closes_no (fun z1 z2 => ?_), bX_s, if_pos rfl]
          have : cC T nn k = 41 := by rw [← hT, ← rt_4 hk z1, z2]
          rw [this] at q2
          exact absurd q2 (by decide)
        · rw [if_pos ⟨q2, q3⟩] at e
          obtain ⟨x, hx⟩ : ∃ x, cC T nn k = x := ⟨_, rfl⟩
          have hk1 : k < 160 := lt160 hc (fun z => by rw [z] at q2; exact absurd q2 (by decide))
          rw [r_bt_y hk (by rw [hT]; exact q2), hT]
          have hb' : isCmp (cC T nn k) = true → b = false := fun z => by
            cases b with
            | false => rfl
            | true => exact absurd ⟨z, rfl⟩ q3
          obtain ⟨A2, V2, y1, y2, y3, y4⟩ := r_btw (cu := cu) hrow q2 hb' hs (by omega) (by omega)
          rw [y1, bX_s, if_neg (by decide)]
          have tk2 := rTk_f hk y4
          have T2 : A2 143 = T := by rw [y4.1, hT]
          have hlen := dA_len (rk (cC T nn k)) W out
          have b1 := dA_nO (rk (cC T nn k)) W out
          have b2 := dA_n40 (rk (cC T nn k)) W out
          obtain ⟨o1, o2, o3, o4, o5⟩ := op_w q2
          have go2 : ∀ lm1 : Int32, lm1 = nI (Bool.toNat (decide (cC T nn k = 12 ∨ cC T nn k = 13))) → rRes nn row A V cu ex k' ok l (bS (fX9_next A2 V2 cu) (fun A166 V167 c168 => fX9_readE_L40 l1 ex n 1 lm1 A166 V167 c168)) := fun lm1 hlm => go A2 V2 1 lm1 true _ _ _ C _ y3 y4 y2 rfl hlm (by rw [List.length_cons]; omega) hk1 (by rw [nO, if_neg (by rintro (y | y | y); exact o2 y; exact o3 y; exact o4 y)]; omega) (by rw [n40, if_neg o2, b2, Nat.zero_add]; exact hC) e
          rcases sg_op q2 with ⟨p1, p2, p3⟩ | p | p
          · obtain ⟨h20, h21⟩ := rt_s tk2 p1 (by rw [T2])
            rw [if_neg (by rw [h20]; decide)]
            exact go2 0 (by rw [decide_eq_false p3]; rfl)
          · obtain ⟨h20, h21⟩ := rt_k (u := 4) tk2 (by decide) (by rw [T2]; exact p)
            rw [if_pos h20, if_pos (show V2 132 21 = 4 from h21)]
            exact go2 1 (by rw [p]; decide)
          · obtain ⟨h20, h21⟩ := rt_k (u := 3) tk2 (by decide) (by rw [T2]; exact p)
            rw [if_pos h20, if_neg (by rw [h21]; decide), if_pos (show V2 132 21 = 3 from h21)]
            exact go2 1 (by rw [p]; decide)
      · rw [if_neg (fun z => q2 z.1)] at e
        have q2f : isOp (cC T nn k) = false := by simpa using q2
        rw [r_bt_n hk (by rw [hT]; exact q2f), bX_s, if_pos rfl]
        by_cases q3 : cC T nn k = 41 ∧ (b :: C).length ≠ 1
        · rw [if_pos q3] at e
          have hk1 : k < 160 := lt160 hc (by rw [q3.1]; decide)
          obtain ⟨h20, h21⟩ := rt_s hk (by decide) (hkT _ q3.1)
          cases C with
          | nil => exact absurd rfl q3.2
          | cons b2 C =>
            have hC' : C.length + 1 = n40 W := hC
            obtain ⟨A2, V2, y1, y2, y3, y4⟩ := r_closes (cu := cu) hrow h20 h21 hs (by omega) (by omega) (by omega)
            rw [y1, bX_s, if_neg (by decide)]
            obtain ⟨W2, hW2⟩ := dA1_o W out hs.2.2.2.2.2.2.2.2 (by omega)
            have l1 := dA_len 1 W out
            have l2 := dA_len 7 (dA 1 W out).1.tail (dA 1 W out).2
            have b1 := dA_nO 1 W out
            have b2 := dA_n40 1 W out
            have b3 := dA_nO 7 (dA 1 W out).1.tail (dA 1 W out).2
            have b4 := dA_n40 7 (dA 1 W out).1.tail (dA 1 W out).2
            rw [hW2] at l1 b1 b2
            have tl' : (dA 1 W out).1.tail = W2 := by rw [hW2]; rfl
            rw [tl'] at l2 b3 b4 y2 e
            rw [List.length_cons] at l1
            rw [nO] at b1
            rw [n40, if_pos rfl] at b2
            exact go A2 V2 lw lm false mn _ _ C _ y3 y4 y2 hw hm (by omega) hk1 (by omega) (by omega) e
        · rw [if_neg q3] at e
          refine bad _ ?_ e
          rw [closes_no (fun z1 z2 => ?_), bX_s, if_pos rfl]
          have h41 : cC T nn k = 41 := by rw [← hT, ← rt_4 hk z1, z2]
          have : C.length = 0 := by
            by_cases q9 : C.length = 0
            · exact q9
            · exact absurd ⟨h41, by rw [List.length_cons]; omega⟩ q3
          rw [s28, this]
          rfl
end RM
