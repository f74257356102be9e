/-! TEXT: the reference's reading as a machine over the same stream: what waits (W, the last one first), whether one was compared (C, one for each depth, the deepest first), the steps (out). -/
def rk (x : Int32) : Nat := if x = 12 then 1 else if x = 13 then 2 else if x = 14 then 3 else if x = 60 ∨ x = 61 then 4 else if x = 43 ∨ x = 45 then 5 else if x = 42 then 6 else if x = 15 then 7 else 0
/-- all that waits and ranks so high is done -/
def dA (r : Nat) : List Int32 → List Int32 → List Int32 × List Int32
  | [], out => ([], out)
  | x :: W, out => if x ≠ 40 ∧ r ≤ rk x then dA r W (out ++ [-x]) else (x :: W, out)
def nO : List Int32 → Nat
  | [] => 0
  | x :: W => (if x = 40 ∨ x = 14 ∨ x = 15 then 1 else 0) + nO W
def isOp (x : Int32) : Bool := isSum x || decide (x = 42) || isCmp x || decide (x = 13) || decide (x = 12)
def mE (c v : Nat → Int32) : Nat → Bool → Bool → List Int32 → List Bool → List Int32 → Nat → pR
  | 0, _, _, _, _, _, _ => none
  | F + 1, w, mn, W, C, out, k =>
    if w = true then
      (if c k = 2 then mE c v F false mn (dA 7 W (out ++ [v k])).1 C (dA 7 W (out ++ [v k])).2 (k + 1)
      else if 3 ≤ c k ∧ c k ≤ 8 then mE c v F false mn (dA 7 W (out ++ [-(c k)])).1 C (dA 7 W (out ++ [-(c k)])).2 (k + 1)
      else if nO W < 5 ∧ c k = 45 then mE c v F true false (15 :: W) C out (k + 1)
      else if nO W < 5 ∧ c k = 40 then mE c v F true true (40 :: W) (false :: C) out (k + 1)
      else if nO W < 5 ∧ c k = 14 ∧ mn = true then mE c v F true true (14 :: W) C out (k + 1)
      else some (k, false, out))
    else
      (if c k = 59 ∧ C.length = 1 then some (k, true, (dA 1 W out).2)
      else if isOp (c k) = true ∧ ¬ (isCmp (c k) = true ∧ C.headD false = true) then mE c v F true (decide (c k = 12 ∨ c k = 13)) (c k :: (dA (rk (c k)) W out).1) ((isCmp (c k) || (decide (4 < rk (c k)) && C.headD false)) :: C.tail) (dA (rk (c k)) W out).2 (k + 1)
      else if c k = 41 ∧ C.length ≠ 1 then mE c v F false mn (dA 7 (dA 1 W out).1.tail (dA 1 W out).2).1 C.tail (dA 7 (dA 1 W out).1.tail (dA 1 W out).2).2 (k + 1)
      else some (k, false, out))
/-- what waits last ranks lower -/
def tl (q : Nat) : List Int32 → Prop
  | [] => True
  | x :: _ => x = 40 ∨ rk x < q
theorem dA_tl {q : Nat} {W out : List Int32} (h : tl q W) : dA q W out = (W, out) := by
  cases W with
  | nil => rfl
  | cons x W =>
    rw [dA, if_neg]
    rintro ⟨h1, h2⟩
    rcases h with h | h
    · exact h1 h
    · omega
theorem tl_mono {q r : Nat} {W : List Int32} (hq : q ≤ r) (h : tl q W) : tl r W := by
  cases W with
  | nil => trivial
  | cons x W =>
    rcases h with h | h
    · exact Or.inl h
    · exact Or.inr (by omega)
theorem dA_dA {r q : Nat} (hr : r ≤ q) : ∀ (W out : List Int32), dA r (dA q W out).1 (dA q W out).2 = dA r W out
  | [], out => rfl
  | x :: W, out => by
    by_cases h : x ≠ 40 ∧ q ≤ rk x
    · have e : dA q (x :: W) out = dA q W (out ++ [-x]) := by rw [dA, if_pos h]
      have e2 : dA r (x :: W) out = dA r W (out ++ [-x]) := by rw [dA, if_pos ⟨h.1, by omega⟩]
      rw [e, e2]
      exact dA_dA hr W _
    · have e : dA q (x :: W) out = (x :: W, out) := by rw [dA, if_neg h]
      rw [e]
theorem dA_s {r : Nat} {x : Int32} {W out : List Int32} (h : x ≠ 40) (hr : r ≤ rk x) : dA r (x :: W) out = dA r W (out ++ [-x]) := by rw [dA, if_pos ⟨h, hr⟩]
theorem dA_o {r : Nat} {W out : List Int32} : dA r (40 :: W) out = (40 :: W, out) := by rw [dA, if_neg (fun z => z.1 rfl)]
section ME
variable {c v : Nat → Int32} {F k : Nat} {mn : Bool} {W out : List Int32} {C : List Bool} {b : Bool}
theorem m_num (h : c k = 2) : mE c v (F + 1) true mn W C out k = mE c v F false mn (dA 7 W (out ++ [v k])).1 C (dA 7 W (out ++ [v k])).2 (k + 1) := by
  rw [mE, if_pos rfl, if_pos h]
theorem m_nam (h0 : c k ≠ 2) (h : 3 ≤ c k ∧ c k ≤ 8) : mE c v (F + 1) true mn W C out k = mE c v F false mn (dA 7 W (out ++ [-(c k)])).1 C (dA 7 W (out ++ [-(c k)])).2 (k + 1) := by
  rw [mE, if_pos rfl, if_neg h0, if_pos h]
theorem m_min (h : c k = 45) (ho : nO W < 5) : mE c v (F + 1) true mn W C out k = mE c v F true false (15 :: W) C out (k + 1) := by
  rw [mE, if_pos rfl, if_neg (by rw [h]; decide), if_neg (by rw [h]; decide), if_pos ⟨ho, h⟩]
theorem m_brk (h : c k = 40) (ho : nO W < 5) : mE c v (F + 1) true mn W C out k = mE c v F true true (40 :: W) (false :: C) out (k + 1) := by
  rw [mE, if_pos rfl, if_neg (by rw [h]; decide), if_neg (by rw [h]; decide), if_neg (fun z => by rw [h] at z; exact absurd z.2 (by decide)), if_pos ⟨ho, h⟩]
theorem m_not (h : c k = 14) (ho : nO W < 5) : mE c v (F + 1) true true W C out k = mE c v F true true (14 :: W) C out (k + 1) := by
  rw [mE, if_pos rfl, if_neg (by rw [h]; decide), if_neg (by rw [h]; decide), if_neg (fun z => by rw [h] at z; exact absurd z.2 (by decide)), if_neg (fun z => by rw [h] at z; exact absurd z.2 (by decide)), if_pos ⟨ho, h, rfl⟩]
theorem m_bad (h0 : c k ≠ 2) (h1 : ¬ (3 ≤ c k ∧ c k ≤ 8)) (h2 : ¬ (nO W < 5 ∧ c k = 45)) (h3 : ¬ (nO W < 5 ∧ c k = 40)) (h4 : ¬ (nO W < 5 ∧ c k = 14 ∧ mn = true)) : mE c v (F + 1) true mn W C out k = some (k, false, out) := by
  rw [mE, if_pos rfl, if_neg h0, if_neg h1, if_neg h2, if_neg h3, if_neg h4]
theorem m_end (h : c k = 59) : mE c v (F + 1) false mn W [b] out k = some (k, true, (dA 1 W out).2) := by
  rw [mE, if_neg (by decide), if_pos ⟨h, rfl⟩]
theorem m_op (h : isOp (c k) = true) (hb : isCmp (c k) = true → b = false) : mE c v (F + 1) false mn W (b :: C) out k = mE c v F true (decide (c k = 12 ∨ c k = 13)) (c k :: (dA (rk (c k)) W out).1) ((isCmp (c k) || (decide (4 < rk (c k)) && b)) :: C) (dA (rk (c k)) W out).2 (k + 1) := by
  rw [mE, if_neg (by decide), if_neg (fun z => by rw [z.1] at h; exact absurd h (by decide)), if_pos ⟨h, fun z => by have := hb z.1; rw [this] at z; cases z.2⟩]
  rfl
theorem m_cl {b2 : Bool} (h : c k = 41) : mE c v (F + 1) false mn W (b :: b2 :: C) out k = mE c v F false mn (dA 7 (dA 1 W out).1.tail (dA 1 W out).2).1 (b2 :: C) (dA 7 (dA 1 W out).1.tail (dA 1 W out).2).2 (k + 1) := by
  rw [mE, if_neg (by decide), if_neg (fun z => by rw [h] at z; exact absurd z.1 (by decide)), if_neg (fun z => by rw [h] at z; exact absurd z.1 (by decide)), if_pos ⟨h, by simp⟩]
  rfl
theorem m_bd (h0 : ¬ (c k = 59 ∧ (b :: C).length = 1)) (h1 : isOp (c k) = true → isCmp (c k) = true ∧ b = true) (h2 : ¬ (c k = 41 ∧ (b :: C).length ≠ 1)) : mE c v (F + 1) false mn W (b :: C) out k = some (k, false, out) := by
  rw [mE, if_neg (by decide), if_neg h0, if_neg (fun z => z.2 (h1 z.1)), if_neg h2]
end ME
/-- what follows an operand is none of the operators that would go on with it -/
def fw (c : Nat → Int32) (j k : Nat) (b : Bool) : Prop := (j ≤ 35 → c k ≠ 42) ∧ (j ≤ 34 → isSum (c k) = false) ∧ (j ≤ 33 → isCmp (c k) = true → b = true) ∧ (j ≤ 32 → c k ≠ 13) ∧ (j ≤ 31 → c k ≠ 12)
theorem fw_op {c : Nat → Int32} {k : Nat} {b : Bool} (h : fw c 31 k b) (hp : isOp (c k) = true) : isCmp (c k) = true ∧ b = true := by
  obtain ⟨h1, h2, h3, h4, h5⟩ := h
  have : isCmp (c k) = true := by
    unfold isOp at hp
    rw [h2 (by omega), decide_eq_false (h1 (by omega)), decide_eq_false (h4 (by omega)), decide_eq_false (h5 (by omega))] at hp
    simpa using hp
  exact ⟨this, h3 (by omega) this⟩
def pq (j : Nat) : Nat := if j = 31 then 1 else if j = 32 then 2 else if j = 33 then 4 else if j = 34 then 5 else if j = 35 then 6 else 8
def qp (j : Nat) : Nat := if j = 31 then 1 else if j = 32 then 2 else if j = 33 then 3 else if j = 34 then 5 else if j = 35 then 6 else 7
/-- the machine reads as the descent does -/
def LK (c v : Nat → Int32) (n j o : Nat) : Prop := ∀ k W b C out mn, k ≤ 160 → nO W = o → tl (pq j) W → (j ≤ 33 → mn = true ∧ b = false) → (33 < j → mn = true → c k ≠ 14) → ∀ k' ok l, pP c v n j o k = some (k', ok, l) →
  (ok = true → ∃ S out' b' mn', (∀ r, r ≤ qp j → dA r S out' = dA r W (out ++ l)) ∧ (33 < j → b' = b) ∧ fw c j k' b' ∧ ∀ G F, G + k = F + k' → mE c v G true mn W (b :: C) out k = mE c v F false mn' S (b' :: C) out' k') ∧
  (ok = false → ∀ G, 160 < G + k → ∃ o', mE c v G true mn W (b :: C) out k = some (k', false, o'))
section LO
variable {c v : Nat → Int32} {n j' o q : Nat} {op : Int32 → Bool} {W out : List Int32} {C : List Bool}
def opq (op : Int32 → Bool) (q : Nat) (low : Bool) : Prop := op 1 = false ∧ ∀ x, op x = true → isOp x = true ∧ isCmp x = false ∧ rk x = q ∧ x ≠ 40 ∧ x ≠ 14 ∧ x ≠ 15 ∧ decide (x = 12 ∨ x = 13) = low ∧ decide (4 < q) = !low
theorem l_loop (hc : ∀ k, 160 ≤ k → c k = 1) (hLK : LK c v n j' o) (hO : ∀ k, k ≤ 160 → pO k (pP c v n j' o k)) {low : Bool} (hop : opq op q low) (hlow : j' ≤ 33 ↔ low = true) (hq1 : q < pq j') (hq2 : q ≤ qp j') (hW : tl q W) (ho : nO W = o) : ∀ m k1 l b1 S out1 mn1, k1 ≤ 160 → 160 ≤ m + k1 → (∀ r, r ≤ q → dA r S out1 = dA r W (out ++ l)) → fw c j' k1 b1 → ∀ k' ok l', pL c (pP c v n j' o) op m k1 l = some (k', ok, l') →
  (ok = true → k1 ≤ k' ∧ ∃ S' out' b' mn', (∀ r, r ≤ q → dA r S' out' = dA r W (out ++ l')) ∧ (33 < j' → b' = b1) ∧ fw c j' k' b' ∧ op (c k') = false ∧ ∀ G F, G + k1 = F + k' → mE c v G false mn1 S (b1 :: C) out1 k1 = mE c v F false mn' S' (b' :: C) out' k') ∧
  (ok = false → ∀ G, 160 < G + k1 → ∃ o', mE c v G false mn1 S (b1 :: C) out1 k1 = some (k', false, o')) := by
  intro m
  induction m with
  | zero =>
    intro k1 l b1 S out1 mn1 hk hm hS hfw k' ok l' e
    rw [pL] at e
    obtain ⟨rfl, rfl, rfl⟩ := oke e
    refine ⟨fun _ => ⟨Nat.le_refl _, S, out1, b1, mn1, hS, fun _ => rfl, hfw, by rw [hc _ (by omega)]; exact hop.1, fun G F h => ?_⟩, fun z => (by cases z)⟩
    rw [show G = F by omega]
  | succ m ih =>
    intro k1 l b1 S out1 mn1 hk hm hS hfw k' ok l' e
    rw [pL] at e
    by_cases z : op (c k1) = true
    · rw [if_pos z] at e
      obtain ⟨p1, p2, p3, p4, p5, p6, p7, p8⟩ := hop.2 _ z
      have hk1 : k1 < 160 := lt160 hc (fun y => by rw [y, hop.1] at z; cases z)
      have st : ∀ F, mE c v (F + 1) false mn1 S (b1 :: C) out1 k1 = mE c v F true low (c k1 :: W) (((!low) && b1) :: C) (out ++ l) (k1 + 1) := fun F => by
        rw [m_op p1 (fun y => by rw [p2] at y; cases y), p2, p3, p7, p8, hS q (Nat.le_refl _), dA_tl hW]
        rfl
      obtain ⟨k2, ok2, l2, e2, g1, g2, g3⟩ := hO (k1 + 1) (by omega)
      rw [e2] at e
      have hn2 : nO (c k1 :: W) = o := by rw [nO, if_neg (by rintro (y | y | y); exact p4 y; exact p5 y; exact p6 y), ho, Nat.zero_add]
      obtain ⟨a1, a2⟩ := hLK (k1 + 1) (c k1 :: W) ((!low) && b1) C (out ++ l) low (by omega) hn2 (Or.inr (by rw [p3]; exact hq1)) (fun y => by rw [hlow.mp y]; exact ⟨rfl, rfl⟩) (fun y y2 => absurd (hlow.mpr y2) (by omega)) k2 ok2 l2 e2
      cases ok2 with
      | false =>
        obtain ⟨rfl, rfl, rfl⟩ := oke e
        refine ⟨fun z => (by cases z), fun _ G hG => ?_⟩
        obtain ⟨G, rfl⟩ : ∃ G', G = G' + 1 := ⟨G - 1, by omega⟩
        rw [st]
        exact a2 rfl G (by omega)
      | true =>
        obtain ⟨g4, g5⟩ := g3 rfl
        obtain ⟨S2, out2, b2, mn2, c1, c2, c3, c4⟩ := a1 rfl
        have e' : pL c (pP c v n j' o) op m k2 (l ++ l2 ++ [-(c k1)]) = some (k', ok, l') := e
        have hS2 : ∀ r, r ≤ q → dA r S2 out2 = dA r W (out ++ (l ++ l2 ++ [-(c k1)])) := fun r hr => by
          rw [c1 r (by omega), dA_s p4 (by omega)]
          simp only [List.append_assoc]
        obtain ⟨d1, d2⟩ := ih k2 (l ++ l2 ++ [-(c k1)]) b2 S2 out2 mn2 g2 (by omega) hS2 c3 k' ok l' e'
        refine ⟨fun y => ?_, fun y G hG => ?_⟩
        · obtain ⟨f0, S3, out3, b3, mn3, f1, f2, f3, f4, f5⟩ := d1 y
          refine ⟨by omega, S3, out3, b3, mn3, f1, fun y => ?_, f3, f4, fun G F hG => ?_⟩
          · have hlf : low = false := by
              cases low with
              | false => rfl
              | true => exact absurd (hlow.mpr rfl) (by omega)
            rw [f2 y, c2 y, hlf]
            rfl
          · obtain ⟨G, rfl⟩ : ∃ G', G = G' + 1 := ⟨G - 1, by omega⟩
            rw [st, c4 G (F + k' - k2) (by omega), f5 (F + k' - k2) F (by omega)]
        · obtain ⟨G, rfl⟩ : ∃ G', G = G' + 1 := ⟨G - 1, by omega⟩
          rw [st, c4 G (G + (k1 + 1) - k2) (by omega)]
          exact d2 y _ (by omega)
    · rw [if_neg z] at e
      obtain ⟨rfl, rfl, rfl⟩ := oke e
      refine ⟨fun _ => ⟨Nat.le_refl _, S, out1, b1, mn1, hS, fun _ => rfl, hfw, by simpa using z, fun G F h => ?_⟩, fun z => (by cases z)⟩
      rw [show G = F by omega]
end LO
