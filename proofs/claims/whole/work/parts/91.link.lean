/-! TEXT: the machine reads as the descent does. -/
section LA
variable {c v : Nat → Int32}
theorem rk_c {x : Int32} (h : isCmp x = true) : rk x = 4 ∧ isOp x = true ∧ x ≠ 40 ∧ x ≠ 14 ∧ x ≠ 15 ∧ x ≠ 1 ∧ decide (x = 12 ∨ x = 13) = false := by
  unfold isCmp at h
  simp only [Bool.or_eq_true, decide_eq_true_eq] at h
  rcases h with h | h <;> subst h <;> decide
theorem opq_or : opq (fun x => decide (x = 12)) 1 true := ⟨by decide, fun x h => by have h : x = 12 := of_decide_eq_true h; subst h; decide⟩
theorem opq_and : opq (fun x => decide (x = 13)) 2 true := ⟨by decide, fun x h => by have h : x = 13 := of_decide_eq_true h; subst h; decide⟩
theorem opq_term : opq (fun x => decide (x = 42)) 6 false := ⟨by decide, fun x h => by have h : x = 42 := of_decide_eq_true h; subst h; decide⟩
theorem opq_sum : opq isSum 5 false := ⟨by decide, fun x h => by
  unfold isSum at h
  simp only [Bool.or_eq_true, decide_eq_true_eq] at h
  rcases h with h | h <;> subst h <;> decide⟩
/-- a level of operators of one rank -/
theorem l_lev (hc : ∀ k, 160 ≤ k → c k = 1) {n j j' o q : Nat} {op : Int32 → Bool} {low : Bool} (hLK : LK c v n j' o) (hO : ∀ k, k ≤ 160 → pO k (pP c v n j' o k)) (hop : opq op q low) (hlow : j' ≤ 33 ↔ low = true) (hj : j ≤ 33 ↔ j' ≤ 33) (hq1 : q < pq j') (hq2 : q ≤ qp j') (hq3 : pq j = q) (hq4 : qp j = q) (hfw : ∀ k b, fw c j' k b → op (c k) = false → fw c j k b) (he : ∀ k, pP c v (n + 1) j o k = pB (pP c v n j' o k) (fun k' l => pL c (pP c v n j' o) op 160 k' l)) : LK c v (n + 1) j o := by
  intro k W b C out mn hk ho hW h1 h2 k' ok l e
  rw [he] at e
  rw [hq3] at hW
  rw [hq4]
  obtain ⟨k1, ok1, l1, e1, g1, g2, g3⟩ := hO k hk
  obtain ⟨a1, a2⟩ := hLK k W b C out mn hk ho (tl_mono (by omega) hW) (fun y => h1 (hj.mpr y)) (fun y => h2 (by omega)) k1 ok1 l1 e1
  rw [e1] at e
  cases ok1 with
  | false =>
    obtain ⟨rfl, rfl, rfl⟩ := oke e
    exact ⟨fun z => (by cases z), a2⟩
  | true =>
    obtain ⟨g4, g5⟩ := g3 rfl
    obtain ⟨S, out1, b1, mn1, c1, c2, c3, c4⟩ := a1 rfl
    have e' : pL c (pP c v n j' o) op 160 k1 l1 = some (k', ok, l) := e
    obtain ⟨d1, d2⟩ := l_loop (C := C) hc hLK hO hop hlow hq1 hq2 hW ho 160 k1 l1 b1 S out1 mn1 g2 (by omega) (fun r hr => c1 r (by omega)) c3 k' ok l e'
    refine ⟨fun y => ?_, fun y G hG => ?_⟩
    · obtain ⟨f0, S3, out3, b3, mn3, f1, f2, f3, f4, f5⟩ := d1 y
      refine ⟨S3, out3, b3, mn3, f1, fun y => by rw [f2 (by omega), c2 (by omega)], hfw k' b3 f3 f4, fun G F hG => ?_⟩
      rw [c4 G (F + k' - k1) (by omega), f5 (F + k' - k1) F (by omega)]
    · rw [c4 G (G + k - k1) (by omega)]
      exact d2 y _ (by omega)
theorem l_all (hc : ∀ k, 160 ≤ k → c k = 1) : ∀ n j o, 31 ≤ j → j ≤ 36 → o ≤ 5 → 6 * (5 - o) + (37 - j) ≤ n → LK c v n j o := by
  intro n
  induction n with
  | zero => intro j o h1 h2 h3 h4; omega
  | succ n ih =>
    intro j o h1 h2 h3 h4
    have hP : ∀ j' o' k, 31 ≤ j' → j' ≤ 36 → o' ≤ 5 → 6 * (5 - o') + (37 - j') ≤ n → k ≤ 160 → pO k (pP c v n j' o' k) := fun j' o' k g1 g2 g3 g4 => pP_ok hc n j' o' k g1 g2 g3 g4
    by_cases j1 : j = 31
    · subst j1
      refine l_lev hc (ih 32 o (by omega) (by omega) h3 (by omega)) (fun k hk => hP 32 o k (by omega) (by omega) h3 (by omega) hk) opq_or (by decide) (by decide) (by decide) (by decide) rfl rfl (fun k b h y => ?_) (fun k => by rw [pP, if_pos rfl])
      exact ⟨fun _ => h.1 (by omega), fun _ => h.2.1 (by omega), fun _ => h.2.2.1 (by omega), fun _ => h.2.2.2.1 (by omega), fun _ => of_decide_eq_false y⟩
    by_cases j2 : j = 32
    · subst j2
      refine l_lev hc (ih 33 o (by omega) (by omega) h3 (by omega)) (fun k hk => hP 33 o k (by omega) (by omega) h3 (by omega) hk) opq_and (by decide) (by decide) (by decide) (by decide) rfl rfl (fun k b h y => ?_) (fun k => by rw [pP, if_neg (by decide), if_pos rfl])
      exact ⟨fun _ => h.1 (by omega), fun _ => h.2.1 (by omega), fun _ => h.2.2.1 (by omega), fun _ => of_decide_eq_false y, fun z => by omega⟩
    by_cases j4 : j = 34
    · subst j4
      refine l_lev hc (ih 35 o (by omega) (by omega) h3 (by omega)) (fun k hk => hP 35 o k (by omega) (by omega) h3 (by omega) hk) opq_sum (by decide) (by decide) (by decide) (by decide) rfl rfl (fun k b h y => ?_) (fun k => by rw [pP, if_neg (by decide), if_neg (by decide), if_neg (by decide), if_pos rfl])
      exact ⟨fun _ => h.1 (by omega), fun _ => y, fun z => by omega, fun z => by omega, fun z => by omega⟩
    by_cases j5 : j = 35
    · subst j5
      refine l_lev hc (ih 36 o (by omega) (by omega) h3 (by omega)) (fun k hk => hP 36 o k (by omega) (by omega) h3 (by omega) hk) opq_term (by decide) (by decide) (by decide) (by decide) rfl rfl (fun k b h y => ?_) (fun k => by rw [pP, if_neg (by decide), if_neg (by decide), if_neg (by decide), if_neg (by decide), if_pos rfl])
      exact ⟨fun _ => of_decide_eq_false y, fun z => by omega, fun z => by omega, fun z => by omega, fun z => by omega⟩
    by_cases j3 : j = 33
    · subst j3
      intro k W b C out mn hk ho hW hA hB k' ok l e
      obtain ⟨rfl, rfl⟩ := hA (by omega)
      rw [pP, if_neg (by decide), if_neg (by decide), if_pos rfl] at e
      by_cases q : c k = 14
      · rw [if_pos q] at e
        have hk1 : k < 160 := lt160 hc (by rw [q]; decide)
        by_cases q2 : o < 5
        · rw [if_pos q2] at e
          obtain ⟨k1, ok1, l1, e1, g1, g2, g3⟩ := hP 33 (o + 1) (k + 1) (by omega) (by omega) (by omega) (by omega) (by omega)
          obtain ⟨a1, a2⟩ := ih 33 (o + 1) (by omega) (by omega) (by omega) (by omega) (k + 1) (14 :: W) false C out true (by omega) (by rw [nO, if_pos (by decide), ho, Nat.add_comm]) (Or.inr (by decide)) (fun _ => ⟨rfl, rfl⟩) (fun y => by omega) k1 ok1 l1 e1
          rw [e1] at e
          cases ok1 with
          | false =>
            obtain ⟨rfl, rfl, rfl⟩ := oke e
            refine ⟨fun z => (by cases z), fun _ G hG => ?_⟩
            obtain ⟨G, rfl⟩ : ∃ G', G = G' + 1 := ⟨G - 1, by omega⟩
            rw [m_not q (by omega)]
            exact a2 rfl G (by omega)
          | true =>
            obtain ⟨rfl, rfl, rfl⟩ := oke e
            obtain ⟨S, out1, b1, mn1, c1, c2, c3, c4⟩ := a1 rfl
            refine ⟨fun _ => ⟨S, out1, b1, mn1, fun r hr => ?_, fun y => by omega, c3, fun G F hG => ?_⟩, fun z => (by cases z)⟩
            · have hr3 : r ≤ 3 := hr
              rw [c1 r hr, dA_s (by decide) (show r ≤ rk 14 from hr3), List.append_assoc]
            · obtain ⟨G, rfl⟩ : ∃ G', G = G' + 1 := ⟨G - 1, by omega⟩
              rw [m_not q (by omega)]
              exact c4 G F (by omega)
        · rw [if_neg q2] at e
          obtain ⟨rfl, rfl, rfl⟩ := oke e
          refine ⟨fun z => (by cases z), fun _ G hG => ?_⟩
          obtain ⟨G, rfl⟩ : ∃ G', G = G' + 1 := ⟨G - 1, by omega⟩
          exact ⟨_, m_bad (by rw [q]; decide) (by rw [q]; decide) (fun y => by omega) (fun y => by omega) (fun y => by omega)⟩
      · rw [if_neg q] at e
        obtain ⟨k1, ok1, l1, e1, g1, g2, g3⟩ := hP 34 o k (by omega) (by omega) h3 (by omega) hk
        obtain ⟨a1, a2⟩ := ih 34 o (by omega) (by omega) h3 (by omega) k W false C out true hk ho (tl_mono (show pq 33 ≤ pq 34 by decide) hW) (fun y => by omega) (fun _ _ => q) k1 ok1 l1 e1
        rw [e1] at e
        cases ok1 with
        | false =>
          obtain ⟨rfl, rfl, rfl⟩ := oke e
          exact ⟨fun z => (by cases z), a2⟩
        | true =>
          obtain ⟨g4, g5⟩ := g3 rfl
          obtain ⟨S, out1, b1, mn1, c1, c2, c3, c4⟩ := a1 rfl
          have hb1 : b1 = false := c2 (by omega)
          subst hb1
          have e : (if isCmp (c k1) = true then pB (pP c v n 34 o (k1 + 1)) (fun k2 l2 => some (k2, true, l1 ++ l2 ++ [-(c k1)])) else some (k1, true, l1)) = some (k', ok, l) := e
          by_cases q2 : isCmp (c k1) = true
          · rw [if_pos q2] at e
            obtain ⟨p1, p2, p3, p4, p5, p6, p7⟩ := rk_c q2
            have hk1 : k1 < 160 := lt160 hc p6
            have hW4 : tl 4 W := hW
            have st : ∀ F, mE c v (F + 1) false mn1 S (false :: C) out1 k1 = mE c v F true false (c k1 :: W) (true :: C) (out ++ l1) (k1 + 1) := fun F => by
              rw [m_op p2 (fun _ => rfl), q2, p1, p7, c1 4 (by decide), dA_tl hW4]
              rfl
            obtain ⟨k2, ok2, l2, e2, f1, f2, f3⟩ := hP 34 o (k1 + 1) (by omega) (by omega) h3 (by omega) (by omega)
            obtain ⟨a3, a4⟩ := ih 34 o (by omega) (by omega) h3 (by omega) (k1 + 1) (c k1 :: W) true C (out ++ l1) false (by omega) (by rw [nO, if_neg (by rintro (y | y | y); exact p3 y; exact p4 y; exact p5 y), ho, Nat.zero_add]) (Or.inr (by rw [p1]; decide)) (fun y => by omega) (fun _ y => (by cases y)) k2 ok2 l2 e2
            rw [e2] at e
            cases ok2 with
            | false =>
              obtain ⟨rfl, rfl, rfl⟩ := oke e
              refine ⟨fun z => (by cases z), fun _ G hG => ?_⟩
              obtain ⟨F, hF⟩ : ∃ F, G + k = (F + 1) + k1 := ⟨G + k - k1 - 1, by omega⟩
              rw [c4 G (F + 1) hF, st]
              exact a4 rfl F (by omega)
            | true =>
              obtain ⟨rfl, rfl, rfl⟩ := oke e
              obtain ⟨S2, out2, b2, mn2, y1, y2, y3, y4⟩ := a3 rfl
              have hb2 : b2 = true := y2 (by omega)
              subst hb2
              refine ⟨fun _ => ⟨S2, out2, true, mn2, fun r hr => ?_, fun y => by omega, ⟨fun _ => y3.1 (by omega), fun _ => y3.2.1 (by omega), fun _ _ => rfl, fun y => by omega, fun y => by omega⟩, fun G F hG => ?_⟩, fun z => (by cases z)⟩
              · have hr3 : r ≤ 3 := hr
                rw [y1 r (Nat.le_trans hr (by decide)), dA_s p3 (by omega)]
                simp only [List.append_assoc]
              · obtain ⟨F1, hF⟩ : ∃ F, G + k = (F + 1) + k1 := ⟨G + k - k1 - 1, by have := (f3 rfl).2; omega⟩
                rw [c4 G (F1 + 1) hF, st]
                exact y4 F1 F (by omega)
          · rw [if_neg q2] at e
            obtain ⟨rfl, rfl, rfl⟩ := oke e
            exact ⟨fun _ => ⟨S, out1, false, mn1, fun r hr => c1 r (Nat.le_trans hr (by decide)), fun y => by omega, ⟨fun _ => c3.1 (by omega), fun _ => c3.2.1 (by omega), fun _ y => absurd y q2, fun y => by omega, fun y => by omega⟩, c4⟩, fun z => (by cases z)⟩
    have j6 : j = 36 := by omega
    subst j6
    intro k W b C out mn hk ho hW hA hB k' ok l e
    rw [pP, if_neg (by decide), if_neg (by decide), if_neg (by decide), if_neg (by decide), if_neg (by decide), if_pos rfl] at e
    have fw6 : ∀ k b, fw c 36 k b := fun k b => ⟨fun y => by omega, fun y => by omega, fun y => by omega, fun y => by omega, fun y => by omega⟩
    by_cases q1 : c k = 2
    · rw [if_pos q1] at e
      obtain ⟨rfl, rfl, rfl⟩ := oke e
      refine ⟨fun _ => ⟨(dA 7 W (out ++ [v k])).1, (dA 7 W (out ++ [v k])).2, b, mn, fun r hr => dA_dA hr W _, fun _ => rfl, fw6 _ _, fun G F hG => ?_⟩, fun z => (by cases z)⟩
      obtain ⟨G, rfl⟩ : ∃ G', G = G' + 1 := ⟨G - 1, by omega⟩
      rw [m_num q1, show G = F by omega]
    rw [if_neg q1] at e
    by_cases q2 : 3 ≤ c k ∧ c k ≤ 8
    · rw [if_pos q2] at e
      obtain ⟨rfl, rfl, rfl⟩ := oke e
      refine ⟨fun _ => ⟨(dA 7 W (out ++ [-(c k)])).1, (dA 7 W (out ++ [-(c k)])).2, b, mn, fun r hr => dA_dA hr W _, fun _ => rfl, fw6 _ _, fun G F hG => ?_⟩, fun z => (by cases z)⟩
      obtain ⟨G, rfl⟩ : ∃ G', G = G' + 1 := ⟨G - 1, by omega⟩
      rw [m_nam q1 q2, show G = F by omega]
    rw [if_neg q2] at e
    by_cases q3 : c k = 45 ∧ o < 5
    · rw [if_pos q3] at e
      have hk1 : k < 160 := lt160 hc (by rw [q3.1]; decide)
      obtain ⟨k1, ok1, l1, e1, g1, g2, g3⟩ := hP 36 (o + 1) (k + 1) (by omega) (by omega) (by omega) (by omega) (by omega)
      obtain ⟨a1, a2⟩ := ih 36 (o + 1) (by omega) (by omega) (by omega) (by omega) (k + 1) (15 :: W) b C out false (by omega) (by rw [nO, if_pos (by decide), ho, Nat.add_comm]) (Or.inr (by decide)) (fun y => by omega) (fun _ y => (by cases y)) k1 ok1 l1 e1
      rw [e1] at e
      cases ok1 with
      | false =>
        obtain ⟨rfl, rfl, rfl⟩ := oke e
        refine ⟨fun z => (by cases z), fun _ G hG => ?_⟩
        obtain ⟨G, rfl⟩ : ∃ G', G = G' + 1 := ⟨G - 1, by omega⟩
        rw [m_min q3.1 (by omega)]
        exact a2 rfl G (by omega)
      | true =>
        obtain ⟨rfl, rfl, rfl⟩ := oke e
        obtain ⟨S, out1, b1, mn1, c1, c2, c3, c4⟩ := a1 rfl
        refine ⟨fun _ => ⟨S, out1, b1, mn1, fun r hr => ?_, c2, c3, fun G F hG => ?_⟩, fun z => (by cases z)⟩
        · have hr7 : r ≤ 7 := hr
          rw [c1 r hr, dA_s (by decide) (show r ≤ rk 15 from hr7), List.append_assoc]
        · obtain ⟨G, rfl⟩ : ∃ G', G = G' + 1 := ⟨G - 1, by omega⟩
          rw [m_min q3.1 (by omega)]
          exact c4 G F (by omega)
    rw [if_neg q3] at e
    by_cases q4 : c k = 40 ∧ o < 5
    · rw [if_pos q4] at e
      have hk1 : k < 160 := lt160 hc (by rw [q4.1]; decide)
      obtain ⟨k1, ok1, l1, e1, g1, g2, g3⟩ := hP 31 (o + 1) (k + 1) (by omega) (by omega) (by omega) (by omega) (by omega)
      obtain ⟨a1, a2⟩ := ih 31 (o + 1) (by omega) (by omega) (by omega) (by omega) (k + 1) (40 :: W) false (b :: C) out true (by omega) (by rw [nO, if_pos (by decide), ho, Nat.add_comm]) (Or.inl rfl) (fun y => ⟨rfl, rfl⟩) (fun y => by omega) k1 ok1 l1 e1
      rw [e1] at e
      cases ok1 with
      | false =>
        obtain ⟨rfl, rfl, rfl⟩ := oke e
        refine ⟨fun z => (by cases z), fun _ G hG => ?_⟩
        obtain ⟨G, rfl⟩ : ∃ G', G = G' + 1 := ⟨G - 1, by omega⟩
        rw [m_brk q4.1 (by omega)]
        exact a2 rfl G (by omega)
      | true =>
        obtain ⟨g4, g5⟩ := g3 rfl
        obtain ⟨S, out1, b1, mn1, c1, c2, c3, c4⟩ := a1 rfl
        have e : (if c k1 = 41 then some (k1 + 1, true, l1) else some (k1, false, l1)) = some (k', ok, l) := e
        have hS : dA 1 S out1 = (40 :: W, out ++ l1) := by rw [c1 1 (by decide), dA_o]
        by_cases q5 : c k1 = 41
        · rw [if_pos q5] at e
          obtain ⟨rfl, rfl, rfl⟩ := oke e
          refine ⟨fun _ => ⟨(dA 7 W (out ++ l1)).1, (dA 7 W (out ++ l1)).2, b, mn1, fun r hr => dA_dA hr W _, fun _ => rfl, fw6 _ _, fun G F hG => ?_⟩, fun z => (by cases z)⟩
          obtain ⟨G, rfl⟩ : ∃ G', G = G' + 1 := ⟨G - 1, by omega⟩
          rw [m_brk q4.1 (by omega), c4 G (F + 1) (by omega), m_cl q5, hS]
          rfl
        · rw [if_neg q5] at e
          obtain ⟨rfl, rfl, rfl⟩ := oke e
          refine ⟨fun z => (by cases z), fun _ G hG => ?_⟩
          obtain ⟨G, rfl⟩ : ∃ G', G = G' + 1 := ⟨G - 1, by omega⟩
          obtain ⟨F, hF⟩ : ∃ F, G + (k + 1) = (F + 1) + k1 := ⟨G + k - k1, by omega⟩
          rw [m_brk q4.1 (by omega), c4 G (F + 1) hF]
          exact ⟨_, m_bd (fun y => by have := y.2; simp at this) (fw_op c3) (fun y => q5 y.1)⟩
    rw [if_neg q4] at e
    obtain ⟨rfl, rfl, rfl⟩ := oke e
    refine ⟨fun z => (by cases z), fun _ G hG => ?_⟩
    obtain ⟨G, rfl⟩ : ∃ G', G = G' + 1 := ⟨G - 1, by omega⟩
    exact ⟨_, m_bad q1 q2 (fun y => q3 ⟨y.2, by omega⟩) (fun y => q4 ⟨y.2, by omega⟩) (fun y => hB (by omega) y.2.2 y.2.1)⟩
/-- an E as a whole: what the descent gives with ';' behind it -/
def pE (c v : Nat → Int32) (k : Nat) : pR := pB (pP c v 45 31 0 k) (fun k' l => if c k' = 59 then some (k', true, l) else some (k', false, l))
theorem pE_ok (hc : ∀ k, 160 ≤ k → c k = 1) {k : Nat} (hk : k ≤ 160) : pO k (pE c v k) := by
  unfold pE
  refine pB_ok (pP_ok hc 45 31 0 k (by omega) (by omega) (by omega) (by omega) hk) (fun k' l g1 g2 g3 => ?_)
  by_cases q : c k' = 59
  · rw [if_pos q]; exact pO_t g3 g1 g2
  · rw [if_neg q]; exact pO_f (by omega) g1
theorem m_pE (hc : ∀ k, 160 ≤ k → c k = 1) {k k' : Nat} {ok : Bool} {l : List Int32} (hk : k ≤ 160) (e : pE c v k = some (k', ok, l)) {G : Nat} (hG : 160 < G + k) : ∃ l', mE c v G true true [] [false] [] k = some (k', ok, l') ∧ (ok = true → l' = l) := by
  unfold pE at e
  obtain ⟨k1, ok1, l1, e1, g1, g2, g3⟩ := pP_ok (v := v) hc 45 31 0 k (by omega) (by omega) (by omega) (by omega) hk
  obtain ⟨a1, a2⟩ := l_all (v := v) hc 45 31 0 (by omega) (by omega) (by omega) (by omega) k [] false [] [] true hk rfl trivial (fun _ => ⟨rfl, rfl⟩) (fun y => by omega) k1 ok1 l1 e1
  rw [e1] at e
  cases ok1 with
  | false =>
    obtain ⟨rfl, rfl, rfl⟩ := oke e
    obtain ⟨o', h⟩ := a2 rfl G hG
    exact ⟨o', h, fun z => (by cases z)⟩
  | true =>
    obtain ⟨g4, g5⟩ := g3 rfl
    obtain ⟨S, out1, b1, mn1, c1, c2, c3, c4⟩ := a1 rfl
    have e : (if c k1 = 59 then some (k1, true, l1) else some (k1, false, l1)) = some (k', ok, l) := e
    obtain ⟨F, hF⟩ : ∃ F, G + k = (F + 1) + k1 := ⟨G + k - k1 - 1, by omega⟩
    rw [c4 G (F + 1) hF]
    by_cases q : c k1 = 59
    · rw [if_pos q] at e
      obtain ⟨rfl, rfl, rfl⟩ := oke e
      refine ⟨_, m_end q, fun _ => ?_⟩
      rw [c1 1 (by decide)]
      rfl
    · rw [if_neg q] at e
      obtain ⟨rfl, rfl, rfl⟩ := oke e
      exact ⟨_, m_bd (fun y => q y.1) (fw_op c3) (fun y => y.2 rfl), fun z => (by cases z)⟩
end LA
