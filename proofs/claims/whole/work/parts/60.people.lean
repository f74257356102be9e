/-! PEOPLE COME. -/
abbrev PP : Type := Nat × (Nat → Nat) × (Nat → Nat) × (Nat → Nat)
def pok (k d m : Int32) : Bool := decide (0 ≤ k.toInt ∧ k.toInt ≤ 5 ∧ 0 ≤ d.toInt ∧ d.toInt ≤ 100 ∧ 0 ≤ m.toInt ∧ m.toInt ≤ 9)
def padd (k d m : Int32) (q : PP) : PP := if pok k d m = true ∧ q.1 < 5 then (q.1 + 1, va_up q.2.1 q.1 k.toNatClampNeg, va_up q.2.2.1 q.1 d.toNatClampNeg, va_up q.2.2.2 q.1 m.toNatClampNeg) else q
def pres (k d m : Int32) (q : PP) : Int32 := if pok k d m = true then (if q.1 < 5 then nI q.1 else -4) else -2
/-- the people on the class's side, on the reference's -/
def pcl (q : PP) (A V : xM) : Prop := V 65 3 = nI q.1 ∧ q.1 ≤ 5 ∧ (∀ p, p < q.1 → (A 66 p = nI (q.2.1 p) ∧ q.2.1 p ≤ 5) ∧ (A 67 p = nI (q.2.2.1 p) ∧ q.2.2.1 p ≤ 100) ∧ A 68 p = nI (q.2.2.2 p) ∧ q.2.2.2 p ≤ 9) ∧ (∀ n, 1 ≤ n → n ≤ 5 → A 69 n = nI (mk5 (fun p => Nat.blt p q.1 && sg (q.2.1 p) (q.2.2.2 p) (n - 1)))) ∧ (∀ i, i < 4 → A 70 i = nI (mk5 (fun p => Nat.blt p q.1 && (kt (q.2.1 p) (i / 2) (i % 2) == 2))) ∧ A 71 i = nI (mk5 (fun p => Nat.blt p q.1 && (kt (q.2.1 p) (i / 2) (i % 2) == 1)))) ∧ V 65 7 = nI (mk5 (fun p => Nat.blt p q.1 && (q.2.1 p == 5)))
def prl (q : PP) (A V : xM) : Prop := V 132 4 = nI q.1 ∧ ∀ p, p < q.1 → A 136 p = nI (q.2.1 p) ∧ A 137 p = nI (q.2.2.1 p) ∧ A 138 p = nI (q.2.2.2 p)
theorem kt_z : ∀ k, k < 6 → ∀ i, i < 4 → fX2_knowsThen (nI k) (nI i >>> ((1 : Int32) &&& 31)) (nI i &&& (1 : Int32)) (fun _ _ => 0) (fun _ _ => 0) = some (nI (kt k (i / 2) (i % 2))) := by decide +kernel
theorem c_kt (A V : xM) {k i : Nat} (hk : k < 6) (hi : i < 4) : fX2_knowsThen (nI k) (nI i >>> ((1 : Int32) &&& 31)) (nI i &&& (1 : Int32)) A V = some (nI (kt k (i / 2) (i % 2))) := kt_z k hk i hi
theorem c_note1 {P k m : Nat} (hP : P < 5) (hk : k ≤ 5) (hm : m ≤ 9) (o : Int32) (V : xM) (cu : Value) (ex : xM → xM → Value → Option xS) : ∀ r b n (A : xM), b + r = 6 → 1 ≤ b → r < n → A 66 P = nI k → A 68 P = nI m → ∃ A2, fX2_note_L6 (nI P) o ex n (nI b) A V cu = ex A2 V cu ∧ (∀ j, b ≤ j → j ≤ 5 → A2 69 j = if sg k m (j - 1) = true then A 69 j ||| o else A 69 j) ∧ (∀ j, j < b → A2 69 j = A 69 j) ∧ ∀ c, c ≠ 69 → A2 c = A c := by
  intro r
  induction r with
  | zero =>
    intro b n A hb h1 hn _ _
    obtain ⟨n, rfl⟩ : ∃ m, n = m + 1 := ⟨n - 1, by omega⟩
    refine ⟨A, ?_, fun j h1 h2 => by omega, fun _ _ => rfl, fun _ _ => rfl⟩
    rw [fX2_note_L6, if_pos (by simp (disch := omega) only [ltI, leI, eqI, tI, tI1, ti_0, ti_1, ti_2, ti_3, ti_4, ti_5, ti_6, ti_7, ti_8, ti_9, ti_10, ti_11, ti_12, ti_14, ti_18, ti_30, ti_39, ti_40, ti_41, ti_45, ti_50, ti_59, ti_97, ti_99, ti_100, ti_122, ti_160, ti_243, ti_255, ti_399, ti_999, ti_1000, ti_1024, ti_99999, tm_1, tm_2, tm_3, tm_4, tm_5, tm_7, tm_11, tm_12, tm_13, tm_14, tm_100, if_pos, if_neg, if_true, if_false, bC_in, bI_s, bS_s, bX_s, bY_s, sO, tC]; omega)]
  | succ r ih =>
    intro b n A hb h1 hn hA hM
    obtain ⟨n, rfl⟩ : ∃ m, n = m + 1 := ⟨n - 1, by omega⟩
    have eb : nI b - 1 = nI (b - 1) := by rw [show (1 : Int32) = nI 1 from rfl, pk_sub h1]
    rw [fX2_note_L6, if_neg (by simp (disch := omega) only [ltI, leI, eqI, tI, tI1, ti_0, ti_1, ti_2, ti_3, ti_4, ti_5, ti_6, ti_7, ti_8, ti_9, ti_10, ti_11, ti_12, ti_14, ti_18, ti_30, ti_39, ti_40, ti_41, ti_45, ti_50, ti_59, ti_97, ti_99, ti_100, ti_122, ti_160, ti_243, ti_255, ti_399, ti_999, ti_1000, ti_1024, ti_99999, tm_1, tm_2, tm_3, tm_4, tm_5, tm_7, tm_11, tm_12, tm_13, tm_14, tm_100, if_pos, if_neg, if_true, if_false, bC_in, bI_s, bS_s, bX_s, bY_s, sO, tC]; omega), bC_in ⟨hP, by decide⟩, tC (by omega), hA, hM, eb, bC_in ⟨by omega, by decide⟩, tC (by omega), sO]
    have no : sg k m (b - 1) = false → ∃ A2, fX2_note_L6 (nI P) o ex n (nI (b + 1)) A V cu = ex A2 V cu ∧ (∀ j, b ≤ j → j ≤ 5 → A2 69 j = if sg k m (j - 1) = true then A 69 j ||| o else A 69 j) ∧ (∀ j, j < b → A2 69 j = A 69 j) ∧ ∀ c, c ≠ 69 → A2 c = A c := by
      intro q
      obtain ⟨A2, w1, w2, w3, w4⟩ := ih (b + 1) n A (by omega) (by omega) (by omega) hA hM
      refine ⟨A2, w1, fun j h1 h2 => ?_, fun j h1 => w3 j (by omega), w4⟩
      by_cases z : j = b
      · subst z
        rw [w3 j (by omega), if_neg (by rw [q]; decide)]
      · exact w2 j (by omega) h2
    have yes : sg k m (b - 1) = true → ∃ A2, fX2_note_L6 (nI P) o ex n (nI (b + 1)) (aw A 69 (nI b) (A 69 b ||| o)) V cu = ex A2 V cu ∧ (∀ j, b ≤ j → j ≤ 5 → A2 69 j = if sg k m (j - 1) = true then A 69 j ||| o else A 69 j) ∧ (∀ j, j < b → A2 69 j = A 69 j) ∧ ∀ c, c ≠ 69 → A2 c = A c := by
      intro q
      obtain ⟨A2, w1, w2, w3, w4⟩ := ih (b + 1) n (aw A 69 (nI b) (A 69 b ||| o)) (by omega) (by omega) (by omega) (by rw [aw_n (by decide)]; exact hA) (by rw [aw_n (by decide)]; exact hM)
      refine ⟨A2, w1, fun j h1 h2 => ?_, fun j h1 => ?_, fun c hc => (w4 c hc).trans (aw_n hc)⟩
      · by_cases z : j = b
        · subst z
          rw [w3 j (by omega), if_pos q, aw_s, tC (by omega), pk_us]
        · rw [w2 j (by omega) h2, aw_s, tC (by omega), pk_un z]
      · rw [w3 j (by omega), aw_s, tC (by omega), pk_un (by omega)]
    by_cases k2 : k = 2
    · rw [if_pos (by rw [k2]; rfl)]
      exact no (by simp [sg, k2])
    · rw [if_neg (by simp (disch := omega) only [ltI, leI, eqI, tI, tI1, ti_0, ti_1, ti_2, ti_3, ti_4, ti_5, ti_6, ti_7, ti_8, ti_9, ti_10, ti_11, ti_12, ti_14, ti_18, ti_30, ti_39, ti_40, ti_41, ti_45, ti_50, ti_59, ti_97, ti_99, ti_100, ti_122, ti_160, ti_243, ti_255, ti_399, ti_999, ti_1000, ti_1024, ti_99999, tm_1, tm_2, tm_3, tm_4, tm_5, tm_7, tm_11, tm_12, tm_13, tm_14, tm_100, if_pos, if_neg, if_true, if_false, bC_in, bI_s, bS_s, bX_s, bY_s, sO, tC]; omega)]
      by_cases k1 : k = 1
      · rw [if_pos (by rw [k1]; rfl)]
        by_cases km : m < b - 1
        · rw [if_pos (by simp (disch := omega) only [ltI, leI, eqI, tI, tI1, ti_0, ti_1, ti_2, ti_3, ti_4, ti_5, ti_6, ti_7, ti_8, ti_9, ti_10, ti_11, ti_12, ti_14, ti_18, ti_30, ti_39, ti_40, ti_41, ti_45, ti_50, ti_59, ti_97, ti_99, ti_100, ti_122, ti_160, ti_243, ti_255, ti_399, ti_999, ti_1000, ti_1024, ti_99999, tm_1, tm_2, tm_3, tm_4, tm_5, tm_7, tm_11, tm_12, tm_13, tm_14, tm_100, if_pos, if_neg, if_true, if_false, bC_in, bI_s, bS_s, bX_s, bY_s, sO, tC]; omega)]
          refine no ?_
          have : Nat.ble (b - 1) m = false := by
            cases z : Nat.ble (b - 1) m with
            | false => rfl
            | true => have := Nat.ble_eq.mp z; omega
          simp [sg, k1, this]
        · rw [if_neg (by simp (disch := omega) only [ltI, leI, eqI, tI, tI1, ti_0, ti_1, ti_2, ti_3, ti_4, ti_5, ti_6, ti_7, ti_8, ti_9, ti_10, ti_11, ti_12, ti_14, ti_18, ti_30, ti_39, ti_40, ti_41, ti_45, ti_50, ti_59, ti_97, ti_99, ti_100, ti_122, ti_160, ti_243, ti_255, ti_399, ti_999, ti_1000, ti_1024, ti_99999, tm_1, tm_2, tm_3, tm_4, tm_5, tm_7, tm_11, tm_12, tm_13, tm_14, tm_100, if_pos, if_neg, if_true, if_false, bC_in, bI_s, bS_s, bX_s, bY_s, sO, tC]; omega)]
          exact yes (by have : Nat.ble (b - 1) m = true := Nat.ble_eq.mpr (by omega); simp [sg, k1, this])
      · rw [if_neg (by simp (disch := omega) only [ltI, leI, eqI, tI, tI1, ti_0, ti_1, ti_2, ti_3, ti_4, ti_5, ti_6, ti_7, ti_8, ti_9, ti_10, ti_11, ti_12, ti_14, ti_18, ti_30, ti_39, ti_40, ti_41, ti_45, ti_50, ti_59, ti_97, ti_99, ti_100, ti_122, ti_160, ti_243, ti_255, ti_399, ti_999, ti_1000, ti_1024, ti_99999, tm_1, tm_2, tm_3, tm_4, tm_5, tm_7, tm_11, tm_12, tm_13, tm_14, tm_100, if_pos, if_neg, if_true, if_false, bC_in, bI_s, bS_s, bX_s, bY_s, sO, tC]; omega)]
        exact yes (by simp [sg, k1, k2])
theorem c_note2 {P k : Nat} (hP : P < 5) (hk : k ≤ 5) (o : Int32) (V : xM) (cu : Value) (ex : xM → xM → Value → Option xS) : ∀ r b n (A : xM), b + r = 4 → r < n → A 66 P = nI k → ∃ A2, fX2_note_L50 (nI P) o ex n (nI b) A V cu = ex A2 V cu ∧ (∀ j, b ≤ j → j < 4 → A2 70 j = (if kt k (j / 2) (j % 2) = 2 then A 70 j ||| o else A 70 j) ∧ A2 71 j = (if kt k (j / 2) (j % 2) = 1 then A 71 j ||| o else A 71 j)) ∧ (∀ j, j < b → A2 70 j = A 70 j ∧ A2 71 j = A 71 j) ∧ ∀ c, c ≠ 70 → c ≠ 71 → A2 c = A c := by
  intro r
  induction r with
  | zero =>
    intro b n A hb hn _
    obtain ⟨n, rfl⟩ : ∃ m, n = m + 1 := ⟨n - 1, by omega⟩
    refine ⟨A, ?_, fun j h1 h2 => by omega, fun _ _ => ⟨rfl, rfl⟩, fun _ _ _ => rfl⟩
    rw [fX2_note_L50, if_pos (by simp (disch := omega) only [ltI, leI, eqI, tI, tI1, ti_0, ti_1, ti_2, ti_3, ti_4, ti_5, ti_6, ti_7, ti_8, ti_9, ti_10, ti_11, ti_12, ti_14, ti_18, ti_30, ti_39, ti_40, ti_41, ti_45, ti_50, ti_59, ti_97, ti_99, ti_100, ti_122, ti_160, ti_243, ti_255, ti_399, ti_999, ti_1000, ti_1024, ti_99999, tm_1, tm_2, tm_3, tm_4, tm_5, tm_7, tm_11, tm_12, tm_13, tm_14, tm_100, if_pos, if_neg, if_true, if_false, bC_in, bI_s, bS_s, bX_s, bY_s, sO, tC]; omega)]
  | succ r ih =>
    intro b n A hb hn hA
    obtain ⟨n, rfl⟩ : ∃ m, n = m + 1 := ⟨n - 1, by omega⟩
    have hkt := kt_le k (by omega) (b / 2) (by omega) (b % 2) (by omega)
    rw [fX2_note_L50, if_neg (by simp (disch := omega) only [ltI, leI, eqI, tI, tI1, ti_0, ti_1, ti_2, ti_3, ti_4, ti_5, ti_6, ti_7, ti_8, ti_9, ti_10, ti_11, ti_12, ti_14, ti_18, ti_30, ti_39, ti_40, ti_41, ti_45, ti_50, ti_59, ti_97, ti_99, ti_100, ti_122, ti_160, ti_243, ti_255, ti_399, ti_999, ti_1000, ti_1024, ti_99999, tm_1, tm_2, tm_3, tm_4, tm_5, tm_7, tm_11, tm_12, tm_13, tm_14, tm_100, if_pos, if_neg, if_true, if_false, bC_in, bI_s, bS_s, bX_s, bY_s, sO, tC]; omega), bC_in ⟨hP, by decide⟩, tC (by omega), hA, c_kt A V (by omega) (by omega), bI_s, bC_in ⟨by omega, by decide⟩, bC_in ⟨by omega, by decide⟩, tC (by omega), sO]
    have fin : ∀ A1 : xM, A1 66 P = nI k → (∀ j, j ≠ b → A1 70 j = A 70 j ∧ A1 71 j = A 71 j) → A1 70 b = (if kt k (b / 2) (b % 2) = 2 then A 70 b ||| o else A 70 b) → A1 71 b = (if kt k (b / 2) (b % 2) = 1 then A 71 b ||| o else A 71 b) → (∀ c, c ≠ 70 → c ≠ 71 → A1 c = A c) → ∃ A2, fX2_note_L50 (nI P) o ex n (nI (b + 1)) A1 V cu = ex A2 V cu ∧ (∀ j, b ≤ j → j < 4 → A2 70 j = (if kt k (j / 2) (j % 2) = 2 then A 70 j ||| o else A 70 j) ∧ A2 71 j = (if kt k (j / 2) (j % 2) = 1 then A 71 j ||| o else A 71 j)) ∧ (∀ j, j < b → A2 70 j = A 70 j ∧ A2 71 j = A 71 j) ∧ ∀ c, c ≠ 70 → c ≠ 71 → A2 c = A c := by
      intro A1 h0 h1 h2 h3 h4
      obtain ⟨A2, w1, w2, w3, w4⟩ := ih (b + 1) n A1 (by omega) (by omega) h0
      refine ⟨A2, w1, fun j g1 g2 => ?_, fun j g1 => ?_, fun c c1 c2 => (w4 c c1 c2).trans (h4 c c1 c2)⟩
      · by_cases z : j = b
        · subst z
          rw [(w3 j (by omega)).1, (w3 j (by omega)).2, h2, h3]
          exact ⟨rfl, rfl⟩
        · rw [(w2 j (by omega) g2).1, (w2 j (by omega) g2).2, (h1 j z).1, (h1 j z).2]
          exact ⟨rfl, rfl⟩
      · rw [(w3 j (by omega)).1, (w3 j (by omega)).2]
        exact h1 j (by omega)
    by_cases q2 : kt k (b / 2) (b % 2) = 2
    · rw [if_pos (by rw [q2]; rfl)]
      refine fin _ (by rw [aw_n (by decide)]; exact hA) (fun j hj => ⟨by rw [aw_s, tC (by omega), pk_un hj], by rw [aw_n (by decide)]⟩) (by rw [aw_s, tC (by omega), pk_us, if_pos q2]) (by rw [aw_n (by decide), if_neg (by omega)]) (fun c c1 c2 => aw_n c1)
    · rw [if_neg (by simp (disch := omega) only [ltI, leI, eqI, tI, tI1, ti_0, ti_1, ti_2, ti_3, ti_4, ti_5, ti_6, ti_7, ti_8, ti_9, ti_10, ti_11, ti_12, ti_14, ti_18, ti_30, ti_39, ti_40, ti_41, ti_45, ti_50, ti_59, ti_97, ti_99, ti_100, ti_122, ti_160, ti_243, ti_255, ti_399, ti_999, ti_1000, ti_1024, ti_99999, tm_1, tm_2, tm_3, tm_4, tm_5, tm_7, tm_11, tm_12, tm_13, tm_14, tm_100, if_pos, if_neg, if_true, if_false, bC_in, bI_s, bS_s, bX_s, bY_s, sO, tC]; omega)]
      by_cases q1 : kt k (b / 2) (b % 2) = 1
      · rw [if_pos (by rw [q1]; rfl)]
        refine fin _ (by rw [aw_n (by decide)]; exact hA) (fun j hj => ⟨by rw [aw_n (by decide)], by rw [aw_s, tC (by omega), pk_un hj]⟩) (by rw [aw_n (by decide), if_neg q2]) (by rw [aw_s, tC (by omega), pk_us, if_pos q1]) (fun c c1 c2 => aw_n c2)
      · rw [if_neg (by simp (disch := omega) only [ltI, leI, eqI, tI, tI1, ti_0, ti_1, ti_2, ti_3, ti_4, ti_5, ti_6, ti_7, ti_8, ti_9, ti_10, ti_11, ti_12, ti_14, ti_18, ti_30, ti_39, ti_40, ti_41, ti_45, ti_50, ti_59, ti_97, ti_99, ti_100, ti_122, ti_160, ti_243, ti_255, ti_399, ti_999, ti_1000, ti_1024, ti_99999, tm_1, tm_2, tm_3, tm_4, tm_5, tm_7, tm_11, tm_12, tm_13, tm_14, tm_100, if_pos, if_neg, if_true, if_false, bC_in, bI_s, bS_s, bX_s, bY_s, sO, tC]; omega)]
        exact fin A hA (fun j hj => ⟨rfl, rfl⟩) (by rw [if_neg q2]) (by rw [if_neg q1]) (fun _ _ _ => rfl)
/-- a row of the caches, one more -/
theorem row_1 {P : Nat} {g f : Nat → Bool} (hP : P < 5) (h : ∀ p, p < P → g p = f p) : nI (mk5 (fun p => Nat.blt p (P + 1) && f p)) = if f P = true then nI (mk5 (fun p => Nat.blt p P && g p)) ||| (1 : Int32) <<< (nI P &&& 31) else nI (mk5 (fun p => Nat.blt p P && g p)) := by
  have e : mk5 (fun p => Nat.blt p P && g p) = mk5 (fun p => Nat.blt p P && f p) := mk5_c (fun p _ => by
    by_cases q : p < P
    · rw [h p q]
    · rw [blt_f (by omega)]; rfl)
  rw [e]
  by_cases q : f P = true
  · rw [if_pos q, row_t hP q]
  · rw [if_neg q]
    exact (row_f (by simpa using q)).symm
theorem c_come {q : PP} {A V : xM} (cu : Value) (h : pcl q A V) (k d m : Int32) : ∃ A1 V1, fX2_come k d m A V cu = some (pres k d m q, A1, V1, cu) ∧ pcl (padd k d m q) A1 V1 ∧ (∀ a, ¬ (66 ≤ a ∧ a ≤ 71) → A1 a = A a) ∧ ∀ a j, ¬ (a = 65 ∧ (j = 3 ∨ j = 7)) → V1 a j = V a j := by
  obtain ⟨P, b2, b3, b4⟩ := q
  obtain ⟨h1, h2, h3, h4, h5, h6⟩ := id h
  dsimp only at h1 h2 h3 h4 h5 h6
  unfold fX2_come
  by_cases hok : pok k d m = true
  rotate_left
  · have hbad : ¬ (0 ≤ k.toInt ∧ k.toInt ≤ 5 ∧ 0 ≤ d.toInt ∧ d.toInt ≤ 100 ∧ 0 ≤ m.toInt ∧ m.toInt ≤ 9) := by simpa [pok] using hok
    have e1 : pres k d m (P, b2, b3, b4) = -2 := by unfold pres; rw [if_neg hok]
    have e2 : padd k d m (P, b2, b3, b4) = (P, b2, b3, b4) := by unfold padd; rw [if_neg (fun z => hok z.1)]
    rw [e1, e2]
    refine ⟨A, V, ?_, h, fun _ _ => rfl, fun _ _ _ => rfl⟩
    by_cases k0 : k.toInt < 0
    · simp (disch := omega) only [ltI, leI, eqI, tI, tI1, ti_0, ti_1, ti_2, ti_3, ti_4, ti_5, ti_6, ti_7, ti_8, ti_9, ti_10, ti_11, ti_12, ti_14, ti_18, ti_30, ti_39, ti_40, ti_41, ti_45, ti_50, ti_59, ti_97, ti_99, ti_100, ti_122, ti_160, ti_243, ti_255, ti_399, ti_999, ti_1000, ti_1024, ti_99999, tm_1, tm_2, tm_3, tm_4, tm_5, tm_7, tm_11, tm_12, tm_13, tm_14, tm_100, if_pos, if_neg, if_true, if_false, bC_in, bI_s, bS_s, bX_s, bY_s, sO, tC]
    by_cases k5 : 5 < k.toInt
    · simp (disch := omega) only [ltI, leI, eqI, tI, tI1, ti_0, ti_1, ti_2, ti_3, ti_4, ti_5, ti_6, ti_7, ti_8, ti_9, ti_10, ti_11, ti_12, ti_14, ti_18, ti_30, ti_39, ti_40, ti_41, ti_45, ti_50, ti_59, ti_97, ti_99, ti_100, ti_122, ti_160, ti_243, ti_255, ti_399, ti_999, ti_1000, ti_1024, ti_99999, tm_1, tm_2, tm_3, tm_4, tm_5, tm_7, tm_11, tm_12, tm_13, tm_14, tm_100, if_pos, if_neg, if_true, if_false, bC_in, bI_s, bS_s, bX_s, bY_s, sO, tC]
    by_cases d0 : d.toInt < 0
    · simp (disch := omega) only [ltI, leI, eqI, tI, tI1, ti_0, ti_1, ti_2, ti_3, ti_4, ti_5, ti_6, ti_7, ti_8, ti_9, ti_10, ti_11, ti_12, ti_14, ti_18, ti_30, ti_39, ti_40, ti_41, ti_45, ti_50, ti_59, ti_97, ti_99, ti_100, ti_122, ti_160, ti_243, ti_255, ti_399, ti_999, ti_1000, ti_1024, ti_99999, tm_1, tm_2, tm_3, tm_4, tm_5, tm_7, tm_11, tm_12, tm_13, tm_14, tm_100, if_pos, if_neg, if_true, if_false, bC_in, bI_s, bS_s, bX_s, bY_s, sO, tC]
    by_cases d5 : 100 < d.toInt
    · simp (disch := omega) only [ltI, leI, eqI, tI, tI1, ti_0, ti_1, ti_2, ti_3, ti_4, ti_5, ti_6, ti_7, ti_8, ti_9, ti_10, ti_11, ti_12, ti_14, ti_18, ti_30, ti_39, ti_40, ti_41, ti_45, ti_50, ti_59, ti_97, ti_99, ti_100, ti_122, ti_160, ti_243, ti_255, ti_399, ti_999, ti_1000, ti_1024, ti_99999, tm_1, tm_2, tm_3, tm_4, tm_5, tm_7, tm_11, tm_12, tm_13, tm_14, tm_100, if_pos, if_neg, if_true, if_false, bC_in, bI_s, bS_s, bX_s, bY_s, sO, tC]
    by_cases m0 : m.toInt < 0
    · simp (disch := omega) only [ltI, leI, eqI, tI, tI1, ti_0, ti_1, ti_2, ti_3, ti_4, ti_5, ti_6, ti_7, ti_8, ti_9, ti_10, ti_11, ti_12, ti_14, ti_18, ti_30, ti_39, ti_40, ti_41, ti_45, ti_50, ti_59, ti_97, ti_99, ti_100, ti_122, ti_160, ti_243, ti_255, ti_399, ti_999, ti_1000, ti_1024, ti_99999, tm_1, tm_2, tm_3, tm_4, tm_5, tm_7, tm_11, tm_12, tm_13, tm_14, tm_100, if_pos, if_neg, if_true, if_false, bC_in, bI_s, bS_s, bX_s, bY_s, sO, tC]
    by_cases m5 : 9 < m.toInt
    · simp (disch := omega) only [ltI, leI, eqI, tI, tI1, ti_0, ti_1, ti_2, ti_3, ti_4, ti_5, ti_6, ti_7, ti_8, ti_9, ti_10, ti_11, ti_12, ti_14, ti_18, ti_30, ti_39, ti_40, ti_41, ti_45, ti_50, ti_59, ti_97, ti_99, ti_100, ti_122, ti_160, ti_243, ti_255, ti_399, ti_999, ti_1000, ti_1024, ti_99999, tm_1, tm_2, tm_3, tm_4, tm_5, tm_7, tm_11, tm_12, tm_13, tm_14, tm_100, if_pos, if_neg, if_true, if_false, bC_in, bI_s, bS_s, bX_s, bY_s, sO, tC]
    omega
  have hg : 0 ≤ k.toInt ∧ k.toInt ≤ 5 ∧ 0 ≤ d.toInt ∧ d.toInt ≤ 100 ∧ 0 ≤ m.toInt ∧ m.toInt ≤ 9 := by simpa [pok] using hok
  by_cases h55 : P < 5
  rotate_left
  · have e1 : pres k d m (P, b2, b3, b4) = -4 := by unfold pres; rw [if_pos hok, if_neg h55]
    have e2 : padd k d m (P, b2, b3, b4) = (P, b2, b3, b4) := by unfold padd; rw [if_neg (fun z => h55 z.2)]
    rw [e1, e2]
    refine ⟨A, V, ?_, h, fun _ _ => rfl, fun _ _ _ => rfl⟩
    simp (disch := omega) only [ltI, leI, eqI, tI, tI1, ti_0, ti_1, ti_2, ti_3, ti_4, ti_5, ti_6, ti_7, ti_8, ti_9, ti_10, ti_11, ti_12, ti_14, ti_18, ti_30, ti_39, ti_40, ti_41, ti_45, ti_50, ti_59, ti_97, ti_99, ti_100, ti_122, ti_160, ti_243, ti_255, ti_399, ti_999, ti_1000, ti_1024, ti_99999, tm_1, tm_2, tm_3, tm_4, tm_5, tm_7, tm_11, tm_12, tm_13, tm_14, tm_100, if_pos, if_neg, if_true, if_false, bC_in, bI_s, bS_s, bX_s, bY_s, sO, tC, h1]
  have e1 : pres k d m (P, b2, b3, b4) = nI P := by unfold pres; rw [if_pos hok, if_pos h55]
  have e2 : padd k d m (P, b2, b3, b4) = (P + 1, va_up b2 P k.toNatClampNeg, va_up b3 P d.toNatClampNeg, va_up b4 P m.toNatClampNeg) := by unfold padd; rw [if_pos ⟨hok, h55⟩]
  rw [e1, e2]
  obtain ⟨kk, hk, rfl⟩ : ∃ n : Nat, n < 6 ∧ k = nI n := by rcases ix3 k 6 (by omega) with q | q | q <;> first | omega | exact q
  obtain ⟨dd, hd, rfl⟩ : ∃ n : Nat, n < 101 ∧ d = nI n := by rcases ix3 d 101 (by omega) with q | q | q <;> first | omega | exact q
  obtain ⟨mm, hm, rfl⟩ : ∃ n : Nat, n < 10 ∧ m = nI n := by rcases ix3 m 10 (by omega) with q | q | q <;> first | omega | exact q
  rw [tC (show kk < 2 ^ 20 by omega), tC (show dd < 2 ^ 20 by omega), tC (show mm < 2 ^ 20 by omega)]
  obtain ⟨A0, hA0⟩ : ∃ A0, A0 = aw (aw (aw A 66 (nI P) (nI kk)) 67 (nI P) (nI dd)) 68 (nI P) (nI mm) := ⟨_, rfl⟩
  have e66 : ∀ j, A0 66 j = if j = P then nI kk else A 66 j := fun j => by rw [hA0, aw_n (by decide), aw_n (by decide), aw_s, tC (by omega)]; rfl
  have e67 : ∀ j, A0 67 j = if j = P then nI dd else A 67 j := fun j => by rw [hA0, aw_n (by decide), aw_s, aw_n (by decide), tC (by omega)]; rfl
  have e68 : ∀ j, A0 68 j = if j = P then nI mm else A 68 j := fun j => by rw [hA0, aw_s, aw_n (by decide), aw_n (by decide), tC (by omega)]; rfl
  have e0 : ∀ a, a ≠ 66 → a ≠ 67 → a ≠ 68 → A0 a = A a := fun a a1 a2 a3 => by rw [hA0, aw_n a3, aw_n a2, aw_n a1]
  obtain ⟨A1, w1, w2, -, w4⟩ := c_note1 h55 (k := kk) (m := mm) (by omega) (by omega) ((1 : Int32) <<< (nI P &&& 31)) V cu (fun (A18 V19 : xM) (c20 : Value) => fX2_note_L50 (nI P) ((1 : Int32) <<< (nI P &&& 31)) (fun (A23 V24 : xM) (c25 : Value) => bC (xq_in (nI P) 5) (if (A23 66 (nI P).toNatClampNeg) = (5 : Int32) then (some (A23, (up2 V24 65 7 ((V24 65 7) ||| ((1 : Int32) <<< (nI P &&& 31)))), c25)) else (some (A23, V24, c25)))) FU (0 : Int32) A18 V19 c20) 5 1 FU A0 (by omega) (by omega) (fu_gt (by omega)) (by rw [e66, if_pos rfl]) (by rw [e68, if_pos rfl])
  obtain ⟨A2, x1, x2, -, x4⟩ := c_note2 h55 (k := kk) (by omega) ((1 : Int32) <<< (nI P &&& 31)) V cu (fun (A23 V24 : xM) (c25 : Value) => bC (xq_in (nI P) 5) (if (A23 66 (nI P).toNatClampNeg) = (5 : Int32) then (some (A23, (up2 V24 65 7 ((V24 65 7) ||| ((1 : Int32) <<< (nI P &&& 31)))), c25)) else (some (A23, V24, c25)))) 4 0 FU A1 (by omega) (fu_gt (by omega)) (by rw [w4 66 (by decide), e66, if_pos rfl])
  have a66 : A2 66 = A0 66 := by rw [x4 66 (by decide) (by decide), w4 66 (by decide)]
  have a67 : A2 67 = A0 67 := by rw [x4 67 (by decide) (by decide), w4 67 (by decide)]
  have a68 : A2 68 = A0 68 := by rw [x4 68 (by decide) (by decide), w4 68 (by decide)]
  obtain ⟨V2, hV2⟩ : ∃ V2 : xM, V2 = if kk = 5 then up2 V 65 7 (V 65 7 ||| (1 : Int32) <<< (nI P &&& 31)) else V := ⟨_, rfl⟩
  have hnote : fX2_note (nI P) A0 V cu = some (A2, V2, cu) := by
    unfold fX2_note
    refine Eq.trans w1 (Eq.trans x1 ?_)
    rw [bC_in ⟨h55, by decide⟩, tC (by omega), a66, e66, if_pos rfl, hV2]
    by_cases z : kk = 5
    · rw [if_pos (by rw [z]; rfl), if_pos z]
    · rw [if_neg (by simp (disch := omega) only [ltI, leI, eqI, tI, tI1, ti_0, ti_1, ti_2, ti_3, ti_4, ti_5, ti_6, ti_7, ti_8, ti_9, ti_10, ti_11, ti_12, ti_14, ti_18, ti_30, ti_39, ti_40, ti_41, ti_45, ti_50, ti_59, ti_97, ti_99, ti_100, ti_122, ti_160, ti_243, ti_255, ti_399, ti_999, ti_1000, ti_1024, ti_99999, tm_1, tm_2, tm_3, tm_4, tm_5, tm_7, tm_11, tm_12, tm_13, tm_14, tm_100, if_pos, if_neg, if_true, if_false, bC_in, bI_s, bS_s, bX_s, bY_s, sO, tC]; omega), if_neg z]
  have v3 : V2 65 3 = nI P := by
    rw [hV2]
    by_cases z : kk = 5
    · rw [if_pos z, up2_n (by omega)]; exact h1
    · rw [if_neg z]; exact h1
  have v7 : V2 65 7 = if kk = 5 then V 65 7 ||| (1 : Int32) <<< (nI P &&& 31) else V 65 7 := by
    rw [hV2]
    by_cases z : kk = 5
    · rw [if_pos z, if_pos z, up2_s]
    · rw [if_neg z, if_neg z]
  refine ⟨A2, up2 V2 65 3 (nI (P + 1)), ?_, ⟨?_, ?_, fun p hp => ?_, fun n n1 n2 => ?_, fun i hi => ?_, ?_⟩, fun a ha => ?_, fun a j hj => ?_⟩
  · rw [h1, ← hA0, hnote, bS_s, v3, nI_1, up2_s, nI_pred, bC_in ⟨h55, by decide⟩]
    simp (disch := omega) only [ltI, leI, eqI, tI, tI1, ti_0, ti_1, ti_2, ti_3, ti_4, ti_5, ti_6, ti_7, ti_8, ti_9, ti_10, ti_11, ti_12, ti_14, ti_18, ti_30, ti_39, ti_40, ti_41, ti_45, ti_50, ti_59, ti_97, ti_99, ti_100, ti_122, ti_160, ti_243, ti_255, ti_399, ti_999, ti_1000, ti_1024, ti_99999, tm_1, tm_2, tm_3, tm_4, tm_5, tm_7, tm_11, tm_12, tm_13, tm_14, tm_100, if_pos, if_neg, if_true, if_false, bC_in, bI_s, bS_s, bX_s, bY_s, sO, tC]
  · rw [up2_s]
  · show P + 1 ≤ 5; omega
  · have hp : p < P + 1 := hp
    rw [a66, a67, a68, e66, e67, e68]
    by_cases z : p = P
    · subst z
      rw [if_pos rfl, if_pos rfl, if_pos rfl]
      show (nI kk = nI (va_up b2 p kk p) ∧ va_up b2 p kk p ≤ 5) ∧ (nI dd = nI (va_up b3 p dd p) ∧ va_up b3 p dd p ≤ 100) ∧ nI mm = nI (va_up b4 p mm p) ∧ va_up b4 p mm p ≤ 9
      rw [va_up_self, va_up_self, va_up_self]
      exact ⟨⟨rfl, by omega⟩, ⟨rfl, by omega⟩, rfl, by omega⟩
    · rw [if_neg z, if_neg z, if_neg z]
      show (A 66 p = nI (va_up b2 P kk p) ∧ va_up b2 P kk p ≤ 5) ∧ (A 67 p = nI (va_up b3 P dd p) ∧ va_up b3 P dd p ≤ 100) ∧ A 68 p = nI (va_up b4 P mm p) ∧ va_up b4 P mm p ≤ 9
      rw [va_up_ne _ _ z, va_up_ne _ _ z, va_up_ne _ _ z]
      exact h3 p (by omega)
  · show A2 69 n = nI (mk5 (fun p => Nat.blt p (P + 1) && sg (va_up b2 P kk p) (va_up b4 P mm p) (n - 1)))
    rw [x4 69 (by decide) (by decide), w2 n n1 n2, e0 69 (by decide) (by decide) (by decide), h4 n n1 n2, row_1 (g := fun p => sg (b2 p) (b4 p) (n - 1)) (f := fun p => sg (va_up b2 P kk p) (va_up b4 P mm p) (n - 1)) h55 (fun p hp => by rw [va_up_ne _ _ (by omega), va_up_ne _ _ (by omega)])]
    rw [va_up_self, va_up_self]
  · show A2 70 i = nI (mk5 (fun p => Nat.blt p (P + 1) && (kt (va_up b2 P kk p) (i / 2) (i % 2) == 2))) ∧ A2 71 i = nI (mk5 (fun p => Nat.blt p (P + 1) && (kt (va_up b2 P kk p) (i / 2) (i % 2) == 1)))
    obtain ⟨y1, y2⟩ := x2 i (Nat.zero_le _) hi
    rw [y1, y2, w4 70 (by decide), w4 71 (by decide), e0 70 (by decide) (by decide) (by decide), e0 71 (by decide) (by decide) (by decide), (h5 i hi).1, (h5 i hi).2, row_1 (g := fun p => kt (b2 p) (i / 2) (i % 2) == 2) (f := fun p => kt (va_up b2 P kk p) (i / 2) (i % 2) == 2) h55 (fun p hp => by rw [va_up_ne _ _ (by omega)]), row_1 (g := fun p => kt (b2 p) (i / 2) (i % 2) == 1) (f := fun p => kt (va_up b2 P kk p) (i / 2) (i % 2) == 1) h55 (fun p hp => by rw [va_up_ne _ _ (by omega)])]
    simp only [va_up_self, beq_iff_eq]
    exact ⟨trivial, trivial⟩
  · show up2 V2 65 3 (nI (P + 1)) 65 7 = nI (mk5 (fun p => Nat.blt p (P + 1) && (va_up b2 P kk p == 5)))
    rw [up2_n (by omega), v7, h6, row_1 (g := fun p => b2 p == 5) (f := fun p => va_up b2 P kk p == 5) h55 (fun p hp => by rw [va_up_ne _ _ (by omega)])]
    simp only [va_up_self, beq_iff_eq]
  · rw [x4 a (by omega) (by omega), w4 a (by omega), e0 a (by omega) (by omega) (by omega)]
  · rw [up2_n (by omega), hV2]
    by_cases z : kk = 5
    · rw [if_pos z, up2_n (by omega)]
    · rw [if_neg z]
theorem r_come {q : PP} {A V : xM} (cu : Value) (h : prl q A V) (h5 : q.1 ≤ 5) (k d m : Int32) : ∃ A1 V1, fX9_person k d m A V cu = some (pres k d m q, A1, V1, cu) ∧ prl (padd k d m q) A1 V1 ∧ (∀ a, ¬ (136 ≤ a ∧ a ≤ 138) → A1 a = A a) ∧ ∀ a j, ¬ (a = 132 ∧ j = 4) → V1 a j = V a j := by
  obtain ⟨P, b2, b3, b4⟩ := q
  obtain ⟨h1, h3⟩ := id h
  dsimp only at h1 h3 h5
  unfold fX9_person
  by_cases hok : pok k d m = true
  rotate_left
  · have hbad : ¬ (0 ≤ k.toInt ∧ k.toInt ≤ 5 ∧ 0 ≤ d.toInt ∧ d.toInt ≤ 100 ∧ 0 ≤ m.toInt ∧ m.toInt ≤ 9) := by simpa [pok] using hok
    have e1 : pres k d m (P, b2, b3, b4) = -2 := by unfold pres; rw [if_neg hok]
    have e2 : padd k d m (P, b2, b3, b4) = (P, b2, b3, b4) := by unfold padd; rw [if_neg (fun z => hok z.1)]
    rw [e1, e2]
    refine ⟨A, V, ?_, h, fun _ _ => rfl, fun _ _ _ => rfl⟩
    by_cases k0 : k.toInt < 0
    · simp (disch := omega) only [ltI, leI, eqI, tI, tI1, ti_0, ti_1, ti_2, ti_3, ti_4, ti_5, ti_6, ti_7, ti_8, ti_9, ti_10, ti_11, ti_12, ti_14, ti_18, ti_30, ti_39, ti_40, ti_41, ti_45, ti_50, ti_59, ti_97, ti_99, ti_100, ti_122, ti_160, ti_243, ti_255, ti_399, ti_999, ti_1000, ti_1024, ti_99999, tm_1, tm_2, tm_3, tm_4, tm_5, tm_7, tm_11, tm_12, tm_13, tm_14, tm_100, if_pos, if_neg, if_true, if_false, bC_in, bI_s, bS_s, bX_s, bY_s, sO, tC]
    by_cases k5 : 5 < k.toInt
    · simp (disch := omega) only [ltI, leI, eqI, tI, tI1, ti_0, ti_1, ti_2, ti_3, ti_4, ti_5, ti_6, ti_7, ti_8, ti_9, ti_10, ti_11, ti_12, ti_14, ti_18, ti_30, ti_39, ti_40, ti_41, ti_45, ti_50, ti_59, ti_97, ti_99, ti_100, ti_122, ti_160, ti_243, ti_255, ti_399, ti_999, ti_1000, ti_1024, ti_99999, tm_1, tm_2, tm_3, tm_4, tm_5, tm_7, tm_11, tm_12, tm_13, tm_14, tm_100, if_pos, if_neg, if_true, if_false, bC_in, bI_s, bS_s, bX_s, bY_s, sO, tC]
    by_cases d0 : d.toInt < 0
    · simp (disch := omega) only [ltI, leI, eqI, tI, tI1, ti_0, ti_1, ti_2, ti_3, ti_4, ti_5, ti_6, ti_7, ti_8, ti_9, ti_10, ti_11, ti_12, ti_14, ti_18, ti_30, ti_39, ti_40, ti_41, ti_45, ti_50, ti_59, ti_97, ti_99, ti_100, ti_122, ti_160, ti_243, ti_255, ti_399, ti_999, ti_1000, ti_1024, ti_99999, tm_1, tm_2, tm_3, tm_4, tm_5, tm_7, tm_11, tm_12, tm_13, tm_14, tm_100, if_pos, if_neg, if_true, if_false, bC_in, bI_s, bS_s, bX_s, bY_s, sO, tC]
    by_cases d5 : 100 < d.toInt
    · simp (disch := omega) only [ltI, leI, eqI, tI, tI1, ti_0, ti_1, ti_2, ti_3, ti_4, ti_5, ti_6, ti_7, ti_8, ti_9, ti_10, ti_11, ti_12, ti_14, ti_18, ti_30, ti_39, ti_40, ti_41, ti_45, ti_50, ti_59, ti_97, ti_99, ti_100, ti_122, ti_160, ti_243, ti_255, ti_399, ti_999, ti_1000, ti_1024, ti_99999, tm_1, tm_2, tm_3, tm_4, tm_5, tm_7, tm_11, tm_12, tm_13, tm_14, tm_100, if_pos, if_neg, if_true, if_false, bC_in, bI_s, bS_s, bX_s, bY_s, sO, tC]
    by_cases m0 : m.toInt < 0
    · simp (disch := omega) only [ltI, leI, eqI, tI, tI1, ti_0, ti_1, ti_2, ti_3, ti_4, ti_5, ti_6, ti_7, ti_8, ti_9, ti_10, ti_11, ti_12, ti_14, ti_18, ti_30, ti_39, ti_40, ti_41, ti_45, ti_50, ti_59, ti_97, ti_99, ti_100, ti_122, ti_160, ti_243, ti_255, ti_399, ti_999, ti_1000, ti_1024, ti_99999, tm_1, tm_2, tm_3, tm_4, tm_5, tm_7, tm_11, tm_12, tm_13, tm_14, tm_100, if_pos, if_neg, if_true, if_false, bC_in, bI_s, bS_s, bX_s, bY_s, sO, tC]
    by_cases m5 : 9 < m.toInt
    · simp (disch := omega) only [ltI, leI, eqI, tI, tI1, ti_0, ti_1, ti_2, ti_3, ti_4, ti_5, ti_6, ti_7, ti_8, ti_9, ti_10, ti_11, ti_12, ti_14, ti_18, ti_30, ti_39, ti_40, ti_41, ti_45, ti_50, ti_59, ti_97, ti_99, ti_100, ti_122, ti_160, ti_243, ti_255, ti_399, ti_999, ti_1000, ti_1024, ti_99999, tm_1, tm_2, tm_3, tm_4, tm_5, tm_7, tm_11, tm_12, tm_13, tm_14, tm_100, if_pos, if_neg, if_true, if_false, bC_in, bI_s, bS_s, bX_s, bY_s, sO, tC]
    omega
  have hg : 0 ≤ k.toInt ∧ k.toInt ≤ 5 ∧ 0 ≤ d.toInt ∧ d.toInt ≤ 100 ∧ 0 ≤ m.toInt ∧ m.toInt ≤ 9 := by simpa [pok] using hok
  by_cases h55 : P < 5
  rotate_left
  · have e1 : pres k d m (P, b2, b3, b4) = -4 := by unfold pres; rw [if_pos hok, if_neg h55]
    have e2 : padd k d m (P, b2, b3, b4) = (P, b2, b3, b4) := by unfold padd; rw [if_neg (fun z => h55 z.2)]
    rw [e1, e2]
    refine ⟨A, V, ?_, h, fun _ _ => rfl, fun _ _ _ => rfl⟩
    simp (disch := omega) only [ltI, leI, eqI, tI, tI1, ti_0, ti_1, ti_2, ti_3, ti_4, ti_5, ti_6, ti_7, ti_8, ti_9, ti_10, ti_11, ti_12, ti_14, ti_18, ti_30, ti_39, ti_40, ti_41, ti_45, ti_50, ti_59, ti_97, ti_99, ti_100, ti_122, ti_160, ti_243, ti_255, ti_399, ti_999, ti_1000, ti_1024, ti_99999, tm_1, tm_2, tm_3, tm_4, tm_5, tm_7, tm_11, tm_12, tm_13, tm_14, tm_100, if_pos, if_neg, if_true, if_false, bC_in, bI_s, bS_s, bX_s, bY_s, sO, tC, h1]
  have e1 : pres k d m (P, b2, b3, b4) = nI P := by unfold pres; rw [if_pos hok, if_pos h55]
  have e2 : padd k d m (P, b2, b3, b4) = (P + 1, va_up b2 P k.toNatClampNeg, va_up b3 P d.toNatClampNeg, va_up b4 P m.toNatClampNeg) := by unfold padd; rw [if_pos ⟨hok, h55⟩]
  rw [e1, e2]
  obtain ⟨kk, hk, rfl⟩ : ∃ n : Nat, n < 6 ∧ k = nI n := by rcases ix3 k 6 (by omega) with q | q | q <;> first | omega | exact q
  obtain ⟨dd, hd, rfl⟩ : ∃ n : Nat, n < 101 ∧ d = nI n := by rcases ix3 d 101 (by omega) with q | q | q <;> first | omega | exact q
  obtain ⟨mm, hm, rfl⟩ : ∃ n : Nat, n < 10 ∧ m = nI n := by rcases ix3 m 10 (by omega) with q | q | q <;> first | omega | exact q
  rw [tC (show kk < 2 ^ 20 by omega), tC (show dd < 2 ^ 20 by omega), tC (show mm < 2 ^ 20 by omega)]
  refine ⟨aw (aw (aw A 136 (nI P) (nI kk)) 137 (nI P) (nI dd)) 138 (nI P) (nI mm), up2 V 132 4 (nI (P + 1)), ?_, ⟨?_, fun p hp => ?_⟩, fun a ha => ?_, fun a j hj => ?_⟩
  · rw [h1, nI_1, up2_s, nI_pred]
    simp (disch := omega) only [ltI, leI, eqI, tI, tI1, ti_0, ti_1, ti_2, ti_3, ti_4, ti_5, ti_6, ti_7, ti_8, ti_9, ti_10, ti_11, ti_12, ti_14, ti_18, ti_30, ti_39, ti_40, ti_41, ti_45, ti_50, ti_59, ti_97, ti_99, ti_100, ti_122, ti_160, ti_243, ti_255, ti_399, ti_999, ti_1000, ti_1024, ti_99999, tm_1, tm_2, tm_3, tm_4, tm_5, tm_7, tm_11, tm_12, tm_13, tm_14, tm_100, if_pos, if_neg, if_true, if_false, bC_in, bI_s, bS_s, bX_s, bY_s, sO, tC]
  · rw [up2_s]
  · have hp : p < P + 1 := hp
    show (aw (aw (aw A 136 (nI P) (nI kk)) 137 (nI P) (nI dd)) 138 (nI P) (nI mm)) 136 p = nI (va_up b2 P kk p) ∧ (aw (aw (aw A 136 (nI P) (nI kk)) 137 (nI P) (nI dd)) 138 (nI P) (nI mm)) 137 p = nI (va_up b3 P dd p) ∧ (aw (aw (aw A 136 (nI P) (nI kk)) 137 (nI P) (nI dd)) 138 (nI P) (nI mm)) 138 p = nI (va_up b4 P mm p)
    rw [aw_n (show 136 ≠ 138 by decide), aw_n (show 136 ≠ 137 by decide), aw_s, aw_n (show 137 ≠ 138 by decide), aw_s, aw_n (show 137 ≠ 136 by decide), aw_s, aw_n (show 138 ≠ 137 by decide), aw_n (show 138 ≠ 136 by decide), tC (by omega)]
    by_cases z : p = P
    · subst z
      rw [pk_us, pk_us, pk_us, va_up_self, va_up_self, va_up_self]
      exact ⟨rfl, rfl, rfl⟩
    · rw [pk_un z, pk_un z, pk_un z, va_up_ne _ _ z, va_up_ne _ _ z, va_up_ne _ _ z]
      exact h3 p (by omega)
  · rw [aw_n (by omega), aw_n (by omega), aw_n (by omega)]
  · rw [up2_n (by omega)]
section PE
variable {N : Nat → Nat} {B : Nat → Nat → Nat} {A V A1 V1 A' V' : xM} {tx : List xh_T} {cu cu' : Value}
def ppl0 (N : Nat → Nat) (B : Nat → Nat → Nat) : PP := (N 1, B 2, B 3, B 4)
theorem pcl_0 (hv : iv N B A V tx cu) : pcl (ppl0 N B) A V := by
  obtain ⟨v1, v2, v3, v4, v5, v6, v7, v8, v9, v10, v11, v12, v13⟩ := hv
  exact ⟨v1.2.1.1, v1.2.1.2.2, fun p hp => ⟨⟨(v5 p hp).1.1, (v5 p hp).1.2.2⟩, ⟨(v5 p hp).2.1.1, (v5 p hp).2.1.2.2⟩, (v5 p hp).2.2.1, (v5 p hp).2.2.2.2⟩, v6.1, v6.2.1, v6.2.2⟩
theorem prl_0 (hv : iv N B A V tx cu) : prl (ppl0 N B) A V := by
  obtain ⟨v1, v2, v3, v4, v5, v6, v7, v8, v9, v10, v11, v12, v13⟩ := hv
  exact ⟨v1.2.1.2.1, fun p hp => ⟨(v5 p hp).1.2.1, (v5 p hp).2.1.2.1, (v5 p hp).2.2.2.1⟩⟩
theorem padd_le (k d m : Int32) (q : PP) (h : q.1 ≤ 5) : q.1 ≤ (padd k d m q).1 ∧ (padd k d m q).1 ≤ 5 := by
  unfold padd
  by_cases z : pok k d m = true ∧ q.1 < 5
  · rw [if_pos z]
    exact ⟨Nat.le_succ _, z.2⟩
  · rw [if_neg z]
    exact ⟨Nat.le_refl _, h⟩
theorem iv_people (hv : iv N B A V tx cu) {q : PP} (hq : N 1 ≤ q.1) (h1 : pcl q A' V') (h2 : prl q A' V') (hA : ∀ a, ¬ (66 ≤ a ∧ a ≤ 71) → ¬ (136 ≤ a ∧ a ≤ 138) → A' a = A a) (hV : ∀ a j, ¬ (a = 65 ∧ (j = 3 ∨ j = 7)) → ¬ (a = 132 ∧ j = 4) → V' a j = V a j) : iv (va_up N 1 q.1) (va_up (va_up (va_up B 2 q.2.1) 3 q.2.2.1) 4 q.2.2.2) A' V' tx cu' := by
  obtain ⟨P, b2, b3, b4⟩ := q
  obtain ⟨c1, c2, c3, c4, c5, c6⟩ := h1
  obtain ⟨d1, d3⟩ := h2
  dsimp only at hq c1 c2 c3 c4 c5 c6 d1 d3 ⊢
  obtain ⟨v1, v2, v3, v4, v5, v6, v7, v8, v9, v10, v11, v12, v13⟩ := id hv
  obtain ⟨⟨s1, s2, s3⟩, ⟨p1, p2, p3⟩, ⟨e1, e2, e3⟩, ⟨t1, t2, t3⟩, ⟨l1, l2, l3⟩, ⟨z1, z2, z3⟩⟩ := v1
  refine iv_but_peop (N := N) (B := B) (A := A) (V := V) (cu := cu) (fun a q => hA a (fun z => ?_) (fun z => ?_)) (fun a k q => hV a k (fun z => ?_) (fun z => ?_)) hv ?_ ?_ ?_ ?_ ?_ ?_ ?_
  · have : a = 66 ∨ a = 67 ∨ a = 68 ∨ a = 69 ∨ a = 70 ∨ a = 71 := by omega
    rcases this with rfl | rfl | rfl | rfl | rfl | rfl <;> cases q
  · have : a = 136 ∨ a = 137 ∨ a = 138 := by omega
    rcases this with rfl | rfl | rfl <;> cases q
  · obtain ⟨rfl, rfl | rfl⟩ := z <;> cases q
  · obtain ⟨rfl, rfl⟩ := z
    cases q
  · refine ⟨⟨(hV 64 13 (by omega) (by omega)).trans s1, (hV 132 2 (by omega) (by omega)).trans s2, s3⟩, ⟨c1, d1, c2⟩, ⟨(hV 64 14 (by omega) (by omega)).trans e1, (hV 132 9 (by omega) (by omega)).trans e2, e3⟩, ⟨(hV 64 15 (by omega) (by omega)).trans t1, (hV 132 15 (by omega) (by omega)).trans t2, t3⟩, ⟨(hV 64 16 (by omega) (by omega)).trans l1, (hV 132 16 (by omega) (by omega)).trans l2, l3⟩, ⟨(hV 95 1 (by omega) (by omega)).trans z1, (hV 132 14 (by omega) (by omega)).trans z2, z3⟩⟩
  · unfold iv_need
    rw [hA 72 (by omega) (by omega), hA 135 (by omega) (by omega)]
    exact v4
  · intro p hp
    have hp : p < P := hp
    exact ⟨⟨(c3 p hp).1.1, (d3 p hp).1, (c3 p hp).1.2⟩, ⟨(c3 p hp).2.1.1, (d3 p hp).2.1, (c3 p hp).2.1.2⟩, (c3 p hp).2.2.1, (d3 p hp).2.2, (c3 p hp).2.2.2⟩
  · exact ⟨c4, c5, c6⟩
  · unfold iv_firs
    rw [hA 74 (by omega) (by omega), hA 75 (by omega) (by omega), hA 76 (by omega) (by omega), hA 139 (by omega) (by omega)]
    refine ⟨fun p t hp ht => ⟨(v7.1 p t hp ht).1, fun q => (v7.1 p t hp ht).2 ?_⟩, v7.2.1, v7.2.2⟩
    have q : P ≤ p ∨ N 0 ≤ t := q
    omega
  · unfold iv_even
    have e139 := hA 140 (by omega) (by omega)
    have e140 := hA 141 (by omega) (by omega)
    have e141 := hA 142 (by omega) (by omega)
    rw [e139, e140, e141, hA 102 (by omega) (by omega), hA 103 (by omega) (by omega), hA 104 (by omega) (by omega), hA 105 (by omega) (by omega), hA 106 (by omega) (by omega), hA 107 (by omega) (by omega), hA 108 (by omega) (by omega), hA 109 (by omega) (by omega), hA 110 (by omega) (by omega), hA 111 (by omega) (by omega), hA 112 (by omega) (by omega), hA 113 (by omega) (by omega)]
    refine ⟨v8.1, fun e he => ⟨(v8.2 e he).1, (v8.2 e he).2.1, fun p hp => ?_⟩⟩
    rcases (v8.2 e he).2.2 p hp with z | ⟨z1, z2⟩
    · exact Or.inl z
    · exact Or.inr ⟨Nat.lt_of_lt_of_le z1 hq, z2⟩
  · unfold iv_imag
    rw [hV 115 3 (by omega) (by omega), hV 115 4 (by omega) (by omega), hV 115 5 (by omega) (by omega), hV 115 6 (by omega) (by omega), hV 132 43 (by omega) (by omega), hV 132 47 (by omega) (by omega), hV 132 48 (by omega) (by omega), hV 132 49 (by omega) (by omega), hV 132 50 (by omega) (by omega), hA 117 (by omega) (by omega), hA 118 (by omega) (by omega), hA 119 (by omega) (by omega), hA 120 (by omega) (by omega), hA 121 (by omega) (by omega), hA 157 (by omega) (by omega), hA 158 (by omega) (by omega), hA 159 (by omega) (by omega)]
    obtain ⟨i1, i2⟩ := v11
    refine ⟨i1, ?_⟩
    rcases i2 with i2 | ⟨i2, i3, i4, i5, i6, i7, i8, i9, ⟨i10, i11, i12⟩, i13⟩
    · exact Or.inl i2
    · exact Or.inr ⟨i2, i3, i4, i5, i6, i7, i8, i9, ⟨i10, i11, Nat.le_trans i12 hq⟩, i13⟩
variable {LL : Nat} {xs : Nat → Int32} {d : Nat}
theorem op_person (hd : 70 ≤ d) (a b c : Int32) : iv_op (xk_ro LL xs) d 80 164 [.int a, .int b, .int c] := by
  refine op_mk (fc := fun tx A V cu => fX8_person a b c A V cu) (fm := fun tx A V cu => fX9_person a b c A V cu) (fun tx A V cu r A' V' c' q => sX8_person (by omega) q) (fun tx A V cu r A' V' c' q => sX9_person (by omega) q) ?_
  intro N B A V tx cu hv
  have p3 : N 1 ≤ 5 := hv.1.2.1.2.2
  obtain ⟨A1, V1, w1, w2, w3, w4⟩ := c_come cu (pcl_0 hv) a b c
  have hr1 : prl (ppl0 N B) A1 V1 := by
    obtain ⟨g1, g2⟩ := prl_0 hv
    refine ⟨(w4 132 4 (by omega)).trans g1, fun p hp => ?_⟩
    rw [w3 136 (by omega), w3 137 (by omega), w3 138 (by omega)]
    exact g2 p hp
  obtain ⟨A2, V2, x1, x2, x3, x4⟩ := r_come cu hr1 p3 a b c
  refine ⟨pres a b c (ppl0 N B), A1, V1, cu, ?_, A2, V2, cu, x1, va_up N 1 (padd a b c (ppl0 N B)).1, va_up (va_up (va_up B 2 (padd a b c (ppl0 N B)).2.1) 3 (padd a b c (ppl0 N B)).2.2.1) 4 (padd a b c (ppl0 N B)).2.2.2, iv_people (q := padd a b c (ppl0 N B)) hv (padd_le a b c (ppl0 N B) p3).1 ?_ x2 (fun a h1 h2 => by rw [x3 a h2, w3 a h1]) (fun a j h1 h2 => by rw [x4 a j h2, w4 a j h1])⟩
  · unfold fX8_person
    rw [w1, bX_s]
  · obtain ⟨c1, c2, c3, c4, c5, c6⟩ := w2
    refine ⟨(x4 65 3 (by omega)).trans c1, c2, ?_, ?_, ?_, (x4 65 7 (by omega)).trans c6⟩
    · rw [x3 66 (by omega), x3 67 (by omega), x3 68 (by omega)]; exact c3
    · rw [x3 69 (by omega)]; exact c4
    · rw [x3 70 (by omega), x3 71 (by omega)]; exact c5
end PE
