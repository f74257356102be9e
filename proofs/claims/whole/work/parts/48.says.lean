/-! WHAT A TEXT SAYS: one picture for both sides. -/
def bin (s a b : Int32) : Int32 := if s = -13 then (if a = 0 then 0 else if b = 0 then 0 else 1) else if s = -42 then a * b else if s = -43 then a + b else if s = -45 then a - b else if s = -60 then (if b ≤ a then 0 else 1) else if s = -61 then (if a = b then 1 else 0) else (if a = 0 then (if b = 0 then 0 else 1) else 1)
def pvs (nm : Nat → Int32) (s : Int32) (st : List Int32) : List Int32 := if 0 ≤ s then s :: st else if -8 ≤ s then nm (-s - 3).toNatClampNeg :: st else match st with
  | [] => []
  | b :: t => if s = -14 then (if b = 0 then 1 else 0) :: t else if s = -15 then (-b) :: t else match t with
    | [] => []
    | a :: u => bin s a b :: u
def pv (nm f : Nat → Int32) : Nat → Nat → List Int32 → List Int32
  | _, 0, st => st
  | i, k + 1, st => pv nm f (i + 1) k (pvs nm (f i) st)
def RS (F : Nat → Int32) : List Int32 → Prop
  | [] => True
  | x :: t => F t.length = x ∧ RS F t
theorem RS_up {F : Nat → Int32} {x : Int32} : ∀ {st : List Int32} {n : Nat}, st.length ≤ n → RS F st → RS (upd F n x) st
  | [], _, _, _ => trivial
  | y :: t, n, h, r => by
    rw [List.length_cons] at h
    exact ⟨(pk_un (by omega)).trans r.1, RS_up (by omega) r.2⟩
theorem RS_push {F : Nat → Int32} {st : List Int32} {x : Int32} (h : RS F st) : RS (upd F st.length x) (x :: st) := ⟨pk_us, RS_up (Nat.le_refl _) h⟩
def isB (s : Int32) : Prop := s = -12 ∨ s = -13 ∨ s = -60 ∨ s = -61 ∨ s = -43 ∨ s = -45 ∨ s = -42
theorem c_bin (A V : xM) (a b : Int32) {s : Int32} (h : isB s) : fX6_binary (-s) a b A V = some (bin s a b) := by
  rcases h with rfl | rfl | rfl | rfl | rfl | rfl | rfl <;> simp (config := { decide := true }) only [fX6_binary, bin, if_true, if_false] <;> (repeat' split) <;> rfl
theorem r_bin (A V : xM) (a b : Int32) {s : Int32} (h : isB s) : fX9_done (tr s) a b A V = some (bin s a b) := by
  rcases h with rfl | rfl | rfl | rfl | rfl | rfl | rfl <;> simp (config := { decide := true }) only [fX9_done, bin, tr, if_true, if_false] <;> (repeat' split) <;> rfl
theorem c_val (A V : xM) {nm : Nat → Int32} (hn : ∀ m, m < 6 → A 83 m = nm m) {s : Int32} (h : 0 ≤ s ∨ (-8 ≤ s ∧ s ≤ -3)) : fX6_valueOf s A V = some (if 0 ≤ s then s else nm (-s - 3).toNatClampNeg) := by
  unfold fX6_valueOf
  have hs := iL s
  have t3 : (-s - 3).toInt = (-s.toInt - 3).bmod 4294967296 := by
    rw [Int32.toInt_sub, Int32.toInt_neg]
    simp
  have t8 : (-8 : Int32).toInt = -8 := rfl
  rcases h with h | ⟨h1, h2⟩
  · rw [leI, ti_0] at h
    by_cases h9 : s.toInt ≤ 2147483645
    · have t4 : (-s - 3).toInt = -s.toInt - 3 := by rw [t3]; unfold Int.bmod; dsimp only; split <;> omega
      rw [if_pos (by rw [ltI, t4, ti_0]; omega), if_pos (by rw [leI, ti_0]; exact h)]
    · have t4 : (-s - 3).toInt = -s.toInt - 3 + 4294967296 := by rw [t3]; exact bwl _ (by omega) (by omega)
      rw [if_neg (by rw [ltI, t4, ti_0]; omega), if_pos (by rw [leI, t4, ti_6]; omega), if_pos (by rw [leI, ti_0]; exact h)]
  · rw [leI, t8] at h1
    rw [leI, tm_3] at h2
    have t4 : (-s - 3).toInt = -s.toInt - 3 := by rw [t3]; unfold Int.bmod; dsimp only; split <;> omega
    rw [if_neg (by rw [ltI, t4, ti_0]; omega), if_neg (by rw [leI, t4, ti_6]; omega), if_neg (by rw [leI, ti_0]; omega)]
    obtain ⟨q, hq⟩ : ∃ q : Nat, -s.toInt - 3 = (q : Int) := ⟨(-s.toInt - 3).toNat, by omega⟩
    have e : -s - 3 = nI q := Int32.toInt_inj.mp (by rw [t4, hq, tI (by omega)])
    rw [e, bC_in ⟨by omega, by decide⟩, tC (by omega), hn q (by omega)]
theorem tr_v {s : Int32} (h : 0 ≤ s) : tr s = -1 - s ∧ (-1 : Int32) - tr s = s ∧ ¬ 0 ≤ tr s := by
  have e : tr s = -1 - s := by unfold tr; rw [if_pos h]
  rw [e]
  have hs := iL s
  rw [leI, ti_0] at h
  have t1 : (-1 - s).toInt = -1 - s.toInt := by
    rw [Int32.toInt_sub]
    show (-1 - s.toInt).bmod 4294967296 = _
    unfold Int.bmod; dsimp only; split <;> omega
  refine ⟨rfl, ?_, ?_⟩
  · apply Int32.toInt_inj.mp
    rw [Int32.toInt_sub, t1]
    show (-1 - (-1 - s.toInt)).bmod 4294967296 = _
    unfold Int.bmod; dsimp only; split <;> omega
  · rw [leI, t1, ti_0]; omega
theorem tr_n {s : Int32} (h1 : -8 ≤ s) (h2 : s ≤ -3) : ∃ q : Nat, q < 6 ∧ tr s = nI q ∧ (-s - 3).toNatClampNeg = q := by
  have t8 : (-8 : Int32).toInt = -8 := rfl
  have h1' := h1
  rw [leI, t8] at h1
  rw [leI, tm_3] at h2
  have t3 : (-s - 3).toInt = (-s.toInt - 3).bmod 4294967296 := by
    rw [Int32.toInt_sub, Int32.toInt_neg]
    simp
  have t4 : (-s - 3).toInt = -s.toInt - 3 := by rw [t3]; unfold Int.bmod; dsimp only; split <;> omega
  obtain ⟨q, hq⟩ : ∃ q : Nat, -s.toInt - 3 = (q : Int) := ⟨(-s.toInt - 3).toNat, by omega⟩
  have e : -s - 3 = nI q := Int32.toInt_inj.mp (by rw [t4, hq, tI (by omega)])
  refine ⟨q, by omega, ?_, by rw [e, tC (by omega)]⟩
  unfold tr
  rw [if_neg (by rw [leI, ti_0]; omega), if_pos h1', e]
theorem lI (n : Nat) : nI (n + 1) - 1 = nI n := nI_pred n
theorem lJ (n : Nat) : nI (n + 1) + Int32.ofInt (-1) = nI n := pk_m1 n
/-- the cases of pfd -/
theorem pfd_c {f : Nat → Int32} {i k h r : Nat} (e : pfd f i (k + 1) h = some r) : ((0 ≤ f i ∨ (-8 ≤ f i ∧ f i ≤ -3)) ∧ h < 40 ∧ pfd f (i + 1) k (h + 1) = some r) ∨ ((f i = -14 ∨ f i = -15) ∧ 1 ≤ h ∧ pfd f (i + 1) k h = some r) ∨ (isB (f i) ∧ 2 ≤ h ∧ pfd f (i + 1) k (h - 1) = some r) := by
  rw [pfd] at e
  by_cases h1 : 0 ≤ f i ∨ (-8 ≤ f i ∧ f i ≤ -3)
  · rw [if_pos h1] at e
    by_cases h2 : h < 40
    · rw [if_pos h2] at e; exact Or.inl ⟨h1, h2, e⟩
    · rw [if_neg h2] at e; cases e
  rw [if_neg h1] at e
  by_cases h3 : f i = -14 ∨ f i = -15
  · rw [if_pos h3] at e
    by_cases h2 : 1 ≤ h
    · rw [if_pos h2] at e; exact Or.inr (Or.inl ⟨h3, h2, e⟩)
    · rw [if_neg h2] at e; cases e
  rw [if_neg h3] at e
  by_cases h4 : f i = -12 ∨ f i = -13 ∨ f i = -60 ∨ f i = -61 ∨ f i = -43 ∨ f i = -45 ∨ f i = -42
  · rw [if_pos h4] at e
    by_cases h2 : 2 ≤ h
    · rw [if_pos h2] at e; exact Or.inr (Or.inr ⟨h4, h2, e⟩)
    · rw [if_neg h2] at e; cases e
  · rw [if_neg h4] at e; cases e
theorem isB_lt {s : Int32} (h : isB s) : s < -8 ∧ ¬ 0 ≤ s ∧ ¬ -8 ≤ s ∧ ¬ s = -14 ∧ ¬ s = -15 ∧ 0 ≤ tr s ∧ 6 ≤ tr s ∧ ¬ tr s = 12 ∧ ¬ tr s = 18 := by
  rcases h with rfl | rfl | rfl | rfl | rfl | rfl | rfl <;> decide
def un (s b : Int32) : Int32 := if s = -14 then (if b = 0 then 1 else 0) else -b
theorem un_ok (A V : xM) (nm : Nat → Int32) (b : Int32) (t : List Int32) {s : Int32} (h : s = -14 ∨ s = -15) : fX6_unary s b A V = some (un s b) ∧ pvs nm s (b :: t) = un s b :: t := by
  rcases h with rfl | rfl
  · constructor
    · unfold fX6_unary un
      rw [if_neg (by decide), if_pos rfl]
      by_cases q0 : b = 0
      · rw [if_pos q0, if_pos q0]
      · rw [if_neg q0, if_neg q0]
    · unfold pvs un
      rw [if_neg (by decide), if_neg (by decide)]
      dsimp only
      rw [if_pos rfl, if_pos rfl]
  · constructor
    · unfold fX6_unary un
      rw [if_pos rfl, if_neg (by decide)]
    · unfold pvs un
      rw [if_neg (by decide), if_neg (by decide)]
      dsimp only
      rw [if_neg (by decide), if_pos rfl, if_neg (by decide)]
theorem c_says_L {tx : List xh_T} {j hi : Nat} {f nm : Nat → Int32} (hj : hi ≤ txn tx j) (hn : txn tx j ≤ 160) (V : xM) (cu : Value) (ex : Int32 → xM → xM → Value → Option (Int32 × xS)) : ∀ k i n (A : xM) (st : List Int32), pfd f i k st.length = some 1 → st.length ≤ 40 → RS (A 82) st → txf tx A j = f → (∀ m, m < 6 → A 83 m = nm m) → i + k = hi → k < n → ∃ (A' : xM) (x : Int32), fX6_says_L44 tx j (nI hi) ex n (nI st.length) (nI i) A V cu = ex (nI 1) A' V cu ∧ pv nm f i k st = [x] ∧ A' 82 0 = x ∧ ∀ b, b ≠ 82 → A' b = A b := by
  intro k
  induction k with
  | zero =>
    intro i n A st hp hl hr hf hm hi hk
    obtain ⟨n, rfl⟩ : ∃ m, n = m + 1 := ⟨n - 1, by omega⟩
    have hp : st.length = 1 := by rw [pfd] at hp; exact Option.some.inj hp
    match st, hl, hr, hp with
    | [x], _, hr, _ =>
      refine ⟨A, x, ?_, rfl, hr.1, fun _ _ => rfl⟩
      rw [fX6_says_L44, if_pos (by simp (disch := omega) only [ltI, leI, eqI, tI, tI1, ti_0, ti_1, ti_2, ti_3, ti_4, ti_5, ti_6, ti_7, ti_8, ti_9, ti_10, ti_11, ti_12, ti_14, ti_18, ti_30, ti_39, ti_40, ti_41, ti_45, ti_50, ti_59, ti_97, ti_99, ti_100, ti_122, ti_160, ti_243, ti_255, ti_399, ti_999, ti_1000, ti_1024, ti_99999, tm_1, tm_2, tm_3, tm_4, tm_5, tm_7, tm_11, tm_12, tm_13, tm_14, tm_100, if_pos, if_neg, if_true, if_false, bC_in, bI_s, bS_s, bX_s, bY_s, sO, tC]; omega)]
      rfl
  | succ k ih =>
    intro i n A st hp hl hr hf hm hi hk
    obtain ⟨n, rfl⟩ : ∃ m, n = m + 1 := ⟨n - 1, by omega⟩
    rw [fX6_says_L44, if_neg (by simp (disch := omega) only [ltI, leI, eqI, tI, tI1, ti_0, ti_1, ti_2, ti_3, ti_4, ti_5, ti_6, ti_7, ti_8, ti_9, ti_10, ti_11, ti_12, ti_14, ti_18, ti_30, ti_39, ti_40, ti_41, ti_45, ti_50, ti_59, ti_97, ti_99, ti_100, ti_122, ti_160, ti_243, ti_255, ti_399, ti_999, ti_1000, ti_1024, ti_99999, tm_1, tm_2, tm_3, tm_4, tm_5, tm_7, tm_11, tm_12, tm_13, tm_14, tm_100, if_pos, if_neg, if_true, if_false, bC_in, bI_s, bS_s, bX_s, bY_s, sO, tC]; omega), bC_in ⟨by omega, by omega⟩, tC (by omega), hf, sO]
    have hfw : ∀ F, txf tx (va_up A 82 F) j = f := by
      intro F
      rw [← hf]
      cases j with
      | zero => rfl
      | succ j => rfl
    have hmw : ∀ F, ∀ m, m < 6 → (va_up A 82 F) 83 m = nm m := fun F m q => hm m q
    rw [pv]
    rcases pfd_c hp with ⟨h1, h2, h3⟩ | ⟨h1, h2, h3⟩ | ⟨h1, h2, h3⟩
    · have hge : ¬ f i < -8 := by
        rw [ltI]
        rcases h1 with h1 | h1
        · rw [leI, ti_0] at h1
          show ¬ (f i).toInt < -8
          omega
        · have := h1.1
          rw [leI] at this
          omega
      have hs : pvs nm (f i) st = (if 0 ≤ f i then f i else nm (-f i - 3).toNatClampNeg) :: st := by
        unfold pvs
        by_cases q : 0 ≤ f i
        · rw [if_pos q, if_pos q]
        · rw [if_neg q, if_neg q, if_pos (h1.resolve_left q).1]
      have n14 : ¬ f i = -14 := by intro q; rw [q] at hge; exact hge (by decide)
      have n15 : ¬ f i = -15 := by intro q; rw [q] at hge; exact hge (by decide)
      rw [if_neg hge, if_neg n14, if_neg n15, if_pos (by simp (disch := omega) only [ltI, leI, eqI, tI, tI1, ti_0, ti_1, ti_2, ti_3, ti_4, ti_5, ti_6, ti_7, ti_8, ti_9, ti_10, ti_11, ti_12, ti_14, ti_18, ti_30, ti_39, ti_40, ti_41, ti_45, ti_50, ti_59, ti_97, ti_99, ti_100, ti_122, ti_160, ti_243, ti_255, ti_399, ti_999, ti_1000, ti_1024, ti_99999, tm_1, tm_2, tm_3, tm_4, tm_5, tm_7, tm_11, tm_12, tm_13, tm_14, tm_100, if_pos, if_neg, if_true, if_false, bC_in, bI_s, bS_s, bX_s, bY_s, sO, tC]; omega), c_val A V hm h1, bI_s, bC_in ⟨by omega, by decide⟩, hs, sO]
      have t := ih (i + 1) n (aw A 82 (nI st.length) (if 0 ≤ f i then f i else nm (-f i - 3).toNatClampNeg)) ((if 0 ≤ f i then f i else nm (-f i - 3).toNatClampNeg) :: st) h3 (by rw [List.length_cons]; omega) (by rw [aw_s, tC (by omega)]; exact RS_push hr) (hfw _) (hmw _) (by omega) (by omega)
      obtain ⟨A', x, t1, t2, t3, t4⟩ := t
      exact ⟨A', x, t1, t2, t3, fun b hb => (t4 b hb).trans (aw_n hb)⟩
    · match st, hl, hr, h2, h3 with
      | b :: t, hl, hr, _, h3 =>
        have hlt : f i < -8 := by rcases h1 with q | q <;> rw [q] <;> decide
        obtain ⟨y1, y2⟩ := un_ok A V nm b t h1
        rw [List.length_cons] at hl
        have e1 := hr.1
        have tt := ih (i + 1) n (aw A 82 (nI t.length) (un (f i) b)) (un (f i) b :: t) h3 (by rw [List.length_cons]; omega) (by rw [aw_s, tC (by omega)]; exact RS_push hr.2) (hfw _) (hmw _) (by omega) (by omega)
        obtain ⟨A', x, t1, t2, t3, t4⟩ := tt
        refine ⟨A', x, ?_, by rw [y2]; exact t2, t3, fun b hb => (t4 b hb).trans (aw_n hb)⟩
        rw [if_pos hlt, List.length_cons]
        rcases h1 with q | q
        · rw [if_pos q, if_pos (by simp (disch := omega) only [ltI, leI, eqI, tI, tI1, ti_0, ti_1, ti_2, ti_3, ti_4, ti_5, ti_6, ti_7, ti_8, ti_9, ti_10, ti_11, ti_12, ti_14, ti_18, ti_30, ti_39, ti_40, ti_41, ti_45, ti_50, ti_59, ti_97, ti_99, ti_100, ti_122, ti_160, ti_243, ti_255, ti_399, ti_999, ti_1000, ti_1024, ti_99999, tm_1, tm_2, tm_3, tm_4, tm_5, tm_7, tm_11, tm_12, tm_13, tm_14, tm_100, if_pos, if_neg, if_true, if_false, bC_in, bI_s, bS_s, bX_s, bY_s, sO, tC]; omega), lI, bC_in ⟨by omega, by decide⟩, tC (by omega), e1, y1, bI_s]
          exact t1
        · rw [if_neg (by rw [q]; decide), if_pos q, if_pos (by simp (disch := omega) only [ltI, leI, eqI, tI, tI1, ti_0, ti_1, ti_2, ti_3, ti_4, ti_5, ti_6, ti_7, ti_8, ti_9, ti_10, ti_11, ti_12, ti_14, ti_18, ti_30, ti_39, ti_40, ti_41, ti_45, ti_50, ti_59, ti_97, ti_99, ti_100, ti_122, ti_160, ti_243, ti_255, ti_399, ti_999, ti_1000, ti_1024, ti_99999, tm_1, tm_2, tm_3, tm_4, tm_5, tm_7, tm_11, tm_12, tm_13, tm_14, tm_100, if_pos, if_neg, if_true, if_false, bC_in, bI_s, bS_s, bX_s, bY_s, sO, tC]; omega), lI, bC_in ⟨by omega, by decide⟩, tC (by omega), e1, y1, bI_s]
          exact t1
    · obtain ⟨b1, b2, b3, b4, b5, -⟩ := isB_lt h1
      match st, hl, hr, h2, h3 with
      | b :: a :: u, hl, hr, _, h3 =>
        have y2 : pvs nm (f i) (b :: a :: u) = bin (f i) a b :: u := by
          unfold pvs
          rw [if_neg b2, if_neg b3]
          dsimp only
          rw [if_neg b4, if_neg b5]
        simp only [List.length_cons] at hl h3 ⊢
        have e1 := hr.1
        have e2 := hr.2.1
        rw [List.length_cons] at e1
        rw [if_pos b1, if_neg b4, if_neg b5, if_pos (by simp (disch := omega) only [ltI, leI, eqI, tI, tI1, ti_0, ti_1, ti_2, ti_3, ti_4, ti_5, ti_6, ti_7, ti_8, ti_9, ti_10, ti_11, ti_12, ti_14, ti_18, ti_30, ti_39, ti_40, ti_41, ti_45, ti_50, ti_59, ti_97, ti_99, ti_100, ti_122, ti_160, ti_243, ti_255, ti_399, ti_999, ti_1000, ti_1024, ti_99999, tm_1, tm_2, tm_3, tm_4, tm_5, tm_7, tm_11, tm_12, tm_13, tm_14, tm_100, if_pos, if_neg, if_true, if_false, bC_in, bI_s, bS_s, bX_s, bY_s, sO, tC]; omega), lJ, lI, bC_in ⟨by omega, by decide⟩, bC_in ⟨by omega, by decide⟩, tC (by omega), tC (by omega), e1, e2, c_bin A V a b h1, bI_s, y2]
        have tt := ih (i + 1) n (aw A 82 (nI u.length) (bin (f i) a b)) (bin (f i) a b :: u) h3 (by rw [List.length_cons]; omega) (by rw [aw_s, tC (by omega)]; exact RS_push hr.2.2) (hfw _) (hmw _) (by omega) (by omega)
        obtain ⟨A', x, t1, t2, t3, t4⟩ := tt
        exact ⟨A', x, t1, t2, t3, fun b hb => (t4 b hb).trans (aw_n hb)⟩
theorem r_says_L {row a : Nat} {f nm : Nat → Int32} (hrow : row < 18) (V : xM) (cu : Value) (ex : xM → xM → Value → Option (Int32 × xS)) {hi : Nat} (h160 : hi ≤ 160) : ∀ k i n (A : xM) (st : List Int32), pfd f (a + i) k st.length = some 1 → st.length ≤ 40 → RS (A 150) st → A 145 row = nI hi → (∀ j, j < hi → A 144 (160 * row + j) = tr (f (a + j))) → (∀ m, m < 6 → A 151 m = nm m) → i + k = hi → k < n → ∃ (A' : xM) (x : Int32), fX9_says_L12 (nI row) ex n (nI st.length) (nI i) A V cu = ex A' V cu ∧ pv nm f (a + i) k st = [x] ∧ A' 150 0 = x ∧ ∀ b, b ≠ 150 → A' b = A b := by
  intro k
  induction k with
  | zero =>
    intro i n A st hp hl hr hc hf hm hik hk
    obtain ⟨n, rfl⟩ : ∃ m, n = m + 1 := ⟨n - 1, by omega⟩
    have hp : st.length = 1 := by rw [pfd] at hp; exact Option.some.inj hp
    match st, hl, hr, hp with
    | [x], _, hr, _ =>
      refine ⟨A, x, ?_, rfl, hr.1, fun _ _ => rfl⟩
      rw [fX9_says_L12, bC_in ⟨hrow, by decide⟩, tC (by omega), hc, if_pos (by simp (disch := omega) only [ltI, leI, eqI, tI, tI1, ti_0, ti_1, ti_2, ti_3, ti_4, ti_5, ti_6, ti_7, ti_8, ti_9, ti_10, ti_11, ti_12, ti_14, ti_18, ti_30, ti_39, ti_40, ti_41, ti_45, ti_50, ti_59, ti_97, ti_99, ti_100, ti_122, ti_160, ti_243, ti_255, ti_399, ti_999, ti_1000, ti_1024, ti_99999, tm_1, tm_2, tm_3, tm_4, tm_5, tm_7, tm_11, tm_12, tm_13, tm_14, tm_100, if_pos, if_neg, if_true, if_false, bC_in, bI_s, bS_s, bX_s, bY_s, sO, tC]; omega)]
  | succ k ih =>
    intro i n A st hp hl hr hc hf hm hik hk
    obtain ⟨n, rfl⟩ : ∃ m, n = m + 1 := ⟨n - 1, by omega⟩
    have e160 : (160 : Int32) * nI row + nI i = nI (160 * row + i) := by rw [show (160 : Int32) = nI 160 from rfl, pk_mul, nI_add]
    rw [fX9_says_L12, bC_in ⟨hrow, by decide⟩, tC (by omega), hc, if_neg (by simp (disch := omega) only [ltI, leI, eqI, tI, tI1, ti_0, ti_1, ti_2, ti_3, ti_4, ti_5, ti_6, ti_7, ti_8, ti_9, ti_10, ti_11, ti_12, ti_14, ti_18, ti_30, ti_39, ti_40, ti_41, ti_45, ti_50, ti_59, ti_97, ti_99, ti_100, ti_122, ti_160, ti_243, ti_255, ti_399, ti_999, ti_1000, ti_1024, ti_99999, tm_1, tm_2, tm_3, tm_4, tm_5, tm_7, tm_11, tm_12, tm_13, tm_14, tm_100, if_pos, if_neg, if_true, if_false, bC_in, bI_s, bS_s, bX_s, bY_s, sO, tC]; omega), e160, bC_in ⟨by omega, by decide⟩, tC (by omega), hf i (by omega), sO]
    have hcw : ∀ F, (va_up A 150 F) 145 row = nI hi := fun F => hc
    have hfw : ∀ F, ∀ j, j < hi → (va_up A 150 F) 144 (160 * row + j) = tr (f (a + j)) := fun F j q => hf j q
    have hmw : ∀ F, ∀ m, m < 6 → (va_up A 150 F) 151 m = nm m := fun F m q => hm m q
    rw [pv]
    rcases pfd_c hp with ⟨h1, h2, h3⟩ | ⟨h1, h2, h3⟩ | ⟨h1, h2, h3⟩
    · have hs : pvs nm (f (a + i)) st = (if 0 ≤ f (a + i) then f (a + i) else nm (-f (a + i) - 3).toNatClampNeg) :: st := by
        unfold pvs
        by_cases q : 0 ≤ f (a + i)
        · rw [if_pos q, if_pos q]
        · rw [if_neg q, if_neg q, if_pos (h1.resolve_left q).1]
      rw [hs]
      have t := ih (i + 1) n (aw A 150 (nI st.length) (if 0 ≤ f (a + i) then f (a + i) else nm (-f (a + i) - 3).toNatClampNeg)) ((if 0 ≤ f (a + i) then f (a + i) else nm (-f (a + i) - 3).toNatClampNeg) :: st) h3 (by rw [List.length_cons]; omega) (by rw [aw_s, tC (by omega)]; exact RS_push hr) (hcw _) (hfw _) (hmw _) (by omega) (by omega)
      obtain ⟨A', x, t1, t2, t3, t4⟩ := t
      refine ⟨A', x, ?_, t2, t3, fun b hb => (t4 b hb).trans (aw_n hb)⟩
      by_cases q : 0 ≤ f (a + i)
      · obtain ⟨-, z2, z3⟩ := tr_v q
        rw [if_pos q] at t1
        rw [if_neg z3, bC_in ⟨by omega, by decide⟩, z2, sO]
        exact t1
      · obtain ⟨q1, q2⟩ := h1.resolve_left q
        obtain ⟨w, w1, w2, w3⟩ := tr_n q1 q2
        rw [if_neg q, w3] at t1
        rw [w2, if_pos (by simp (disch := omega) only [ltI, leI, eqI, tI, tI1, ti_0, ti_1, ti_2, ti_3, ti_4, ti_5, ti_6, ti_7, ti_8, ti_9, ti_10, ti_11, ti_12, ti_14, ti_18, ti_30, ti_39, ti_40, ti_41, ti_45, ti_50, ti_59, ti_97, ti_99, ti_100, ti_122, ti_160, ti_243, ti_255, ti_399, ti_999, ti_1000, ti_1024, ti_99999, tm_1, tm_2, tm_3, tm_4, tm_5, tm_7, tm_11, tm_12, tm_13, tm_14, tm_100, if_pos, if_neg, if_true, if_false, bC_in, bI_s, bS_s, bX_s, bY_s, sO, tC]; omega), if_neg (by simp (disch := omega) only [ltI, leI, eqI, tI, tI1, ti_0, ti_1, ti_2, ti_3, ti_4, ti_5, ti_6, ti_7, ti_8, ti_9, ti_10, ti_11, ti_12, ti_14, ti_18, ti_30, ti_39, ti_40, ti_41, ti_45, ti_50, ti_59, ti_97, ti_99, ti_100, ti_122, ti_160, ti_243, ti_255, ti_399, ti_999, ti_1000, ti_1024, ti_99999, tm_1, tm_2, tm_3, tm_4, tm_5, tm_7, tm_11, tm_12, tm_13, tm_14, tm_100, if_pos, if_neg, if_true, if_false, bC_in, bI_s, bS_s, bX_s, bY_s, sO, tC]; omega), bC_in ⟨w1, by decide⟩, bC_in ⟨by omega, by decide⟩, tC (by omega), hm w w1, sO]
        exact t1
    · match st, hl, hr, h2, h3 with
      | b :: t, hl, hr, _, h3 =>
        obtain ⟨y1, y2⟩ := un_ok A V nm b t h1
        rw [List.length_cons] at hl
        have e1 := hr.1
        have tt := ih (i + 1) n (aw A 150 (nI t.length) (un (f (a + i)) b)) (un (f (a + i)) b :: t) h3 (by rw [List.length_cons]; omega) (by rw [aw_s, tC (by omega)]; exact RS_push hr.2) (hcw _) (hfw _) (hmw _) (by omega) (by omega)
        obtain ⟨A', x, t1, t2, t3, t4⟩ := tt
        refine ⟨A', x, ?_, by rw [y2]; exact t2, t3, fun b hb => (t4 b hb).trans (aw_n hb)⟩
        rw [List.length_cons]
        rcases h1 with q | q
        · rw [q] at t1 ⊢
          rw [show tr (-14) = 12 from rfl, if_pos (by decide), if_pos (by decide), if_pos rfl, lI, bC_in ⟨by omega, by decide⟩, tC (by omega), e1]
          unfold un at t1
          rw [if_pos rfl] at t1
          by_cases q0 : b = 0
          · rw [if_pos q0] at t1 ⊢
            exact t1
          · rw [if_neg q0] at t1 ⊢
            exact t1
        · rw [q] at t1 ⊢
          rw [show tr (-15) = 18 from rfl, if_pos (by decide), if_pos (by decide), if_neg (by decide), if_pos rfl, lI, bC_in ⟨by omega, by decide⟩, tC (by omega), e1]
          exact t1
    · obtain ⟨b1, b2, b3, b4, b5, b6, b7, b8, b9⟩ := isB_lt h1
      match st, hl, hr, h2, h3 with
      | b :: a' :: u, hl, hr, _, h3 =>
        have y2 : pvs nm (f (a + i)) (b :: a' :: u) = bin (f (a + i)) a' b :: u := by
          unfold pvs
          rw [if_neg b2, if_neg b3]
          dsimp only
          rw [if_neg b4, if_neg b5]
        simp only [List.length_cons] at hl h3 ⊢
        have e1 := hr.1
        have e2 := hr.2.1
        rw [List.length_cons] at e1
        rw [if_pos b6, if_pos b7, if_neg b8, if_neg b9, lJ, lI, bC_in ⟨by omega, by decide⟩, bC_in ⟨by omega, by decide⟩, tC (by omega), tC (by omega), e1, e2, r_bin A V a' b h1, bI_s, y2]
        have tt := ih (i + 1) n (aw A 150 (nI u.length) (bin (f (a + i)) a' b)) (bin (f (a + i)) a' b :: u) h3 (by rw [List.length_cons]; omega) (by rw [aw_s, tC (by omega)]; exact RS_push hr.2.2) (hcw _) (hfw _) (hmw _) (by omega) (by omega)
        obtain ⟨A', x, t1, t2, t3, t4⟩ := tt
        exact ⟨A', x, t1, t2, t3, fun b hb => (t4 b hb).trans (aw_n hb)⟩
/-! what a part of a text says by six names -/
def txg (tx : List xh_T) (f0 : Nat → Int32) : Nat → Nat → Int32
  | 0 => f0
  | j + 1 => (tx.getD j (0, (fun _ => 0), 0, 0)).2.1
theorem txf_g (tx : List xh_T) (A : xM) (t : Nat) : txf tx A t = txg tx (A 131) t := by cases t <;> rfl
def pfr (tx : List xh_T) (t : Nat) : Nat → Nat
  | 0 => 0
  | 1 => (txl tx t).toNatClampNeg
  | _ => (txw tx t).toNatClampNeg
def pto (tx : List xh_T) (t : Nat) : Nat → Nat
  | 0 => (txl tx t).toNatClampNeg
  | 1 => (txw tx t).toNatClampNeg
  | _ => txn tx t
def sy (tx : List xh_T) (f0 : Nat → Int32) (t part : Nat) (nm : Nat → Int32) : Bool := match pv nm (txg tx f0 t) (pfr tx t part) (pto tx t part - pfr tx t part) [] with
  | x :: _ => !decide (x = 0)
  | [] => false
theorem tx_ok {N : Nat → Nat} {B : Nat → Nat → Nat} {A V : xM} {tx : List xh_T} {cu : Value} (hv : iv N B A V tx cu) {t : Nat} (ht : t ≤ tx.length) : iv_tx1 (A 144) (A 145) t (txn tx t) (txg tx (A 131) t) (txl tx t) (txw tx t) := by
  obtain ⟨v1, v2, v3, v4, v5, v6, v7, v8, v9, v10, v11, v12, v13⟩ := hv
  cases t with
  | zero => exact v12.1
  | succ j =>
    have hj : tx[j]? = some (tx.getD j (0, (fun _ => 0), 0, 0)) := by
      rw [List.getD_eq_getElem?_getD, List.getElem?_eq_getElem (by omega)]
      rfl
    exact v12.2 j _ hj
/-- of a part: where it begins, ends, and how both sides hold it -/
theorem tx_pt {N : Nat → Nat} {B : Nat → Nat → Nat} {A V : xM} {tx : List xh_T} {cu : Value} (hv : iv N B A V tx cu) {t part : Nat} (ht : t ≤ tx.length) (hp : part < 3) : pfr tx t part ≤ pto tx t part ∧ pto tx t part ≤ txn tx t ∧ txn tx t ≤ 160 ∧ fX7_from tx t (nI part) A V = some (nI (pfr tx t part)) ∧ fX7_to tx t (nI part) A V = some (nI (pto tx t part)) ∧ iv_prt (A 144) (A 145) (3 * t + part) (txg tx (A 131) t) (pfr tx t part) (pto tx t part - pfr tx t part) := by
  obtain ⟨l', w', e1, e2, h1, h2, h3, h4, h5, h6⟩ := tx_ok hv ht
  have c1 : (txl tx t).toNatClampNeg = l' := by rw [e1, tC (by omega)]
  have c2 : (txw tx t).toNatClampNeg = w' := by rw [e2, tC (by omega)]
  match part, hp with
  | 0, _ =>
    refine ⟨Nat.zero_le _, ?_, h3, rfl, ?_, ?_⟩
    · show (txl tx t).toNatClampNeg ≤ _; omega
    · show some (txl tx t) = some (nI (txl tx t).toNatClampNeg); rw [c1, e1]
    · show iv_prt _ _ _ _ 0 ((txl tx t).toNatClampNeg - 0); rw [c1]; exact h4
  | 1, _ =>
    refine ⟨?_, ?_, h3, ?_, ?_, ?_⟩
    · show (txl tx t).toNatClampNeg ≤ (txw tx t).toNatClampNeg; omega
    · show (txw tx t).toNatClampNeg ≤ _; omega
    · show some (txl tx t) = some (nI (txl tx t).toNatClampNeg); rw [c1, e1]
    · show some (txw tx t) = some (nI (txw tx t).toNatClampNeg); rw [c2, e2]
    · show iv_prt _ _ _ _ (txl tx t).toNatClampNeg ((txw tx t).toNatClampNeg - (txl tx t).toNatClampNeg); rw [c1, c2]; exact h5
  | 2, _ =>
    refine ⟨?_, Nat.le_refl _, h3, ?_, rfl, ?_⟩
    · show (txw tx t).toNatClampNeg ≤ _; show _ ≤ txn tx t; omega
    · show some (txw tx t) = some (nI (txw tx t).toNatClampNeg); rw [c2, e2]
    · show iv_prt _ _ _ _ (txw tx t).toNatClampNeg (txn tx t - (txw tx t).toNatClampNeg); rw [c2]; exact h6
section SY
variable {N : Nat → Nat} {B : Nat → Nat → Nat} {A V A1 V1 : xM} {tx : List xh_T} {cu : Value}
theorem c_says (hv : iv N B A V tx cu) (ha : agr A V A1 V1) {t part : Nat} (ht : t ≤ tx.length) (hp : part < 3) {nm : Nat → Int32} (hn : ∀ m, m < 6 → A1 83 m = nm m) : ∃ A2, fX6_says tx (nI part) A1 V1 (.ref (tref t)) = some (nI (sy tx (A 131) t part nm).toNat, A2, V1, .ref (tref t)) ∧ ∀ b, b ≠ 82 → A2 b = A1 b := by
  have hv1 : iv N B A1 V1 tx cu := iv_agr ha hv
  have h130 : A1 131 = A 131 := ha.1 131 rfl
  obtain ⟨h1, h2, h3, h4, h5, h6, h7, h8⟩ := tx_pt hv1 ht hp
  obtain ⟨A', x, t1, t2, t3, t4⟩ := c_says_L (tx := tx) (j := t) (hi := pto tx t part) (f := txg tx (A 131) t) (nm := nm) h2 h3 V1 (.ref (tref t)) (fun (l4_37 : Int32) (A45 V46 : xM) (c47 : Value) => if l4_37 ≤ 0 then (some ((0 : Int32), A45, V46, c47)) else (bC (xq_in (l4_37 - (1 : Int32)) 40) (if (A45 82 (l4_37 - (1 : Int32)).toNatClampNeg) = 0 then (some ((0 : Int32), A45, V46, c47)) else (some ((1 : Int32), A45, V46, c47))))) (pto tx t part - pfr tx t part) (pfr tx t part) FU A1 [] (by rw [← h130]; exact h8) (by simp) trivial (by rw [txf_g, h130]) hn (by omega) (fu_gt (by omega))
  refine ⟨A', ?_, t4⟩
  unfold fX6_says
  dsimp only
  rw [tidx_tref, Nat.beq_refl, Nat.ble_eq.mpr ht, Bool.and_self, bC_t rfl]
  unfold fX6_saysj
  rw [h5, h4, bI_s, bI_s]
  have hmin : (bif decide (Int32.ofNat (txn tx t) < nI (pto tx t part)) then Int32.ofNat (txn tx t) else nI (pto tx t part)) = nI (pto tx t part) := by
    show (bif decide (nI (txn tx t) < nI (pto tx t part)) then Int32.ofNat (txn tx t) else nI (pto tx t part)) = _
    rw [decide_eq_false (show ¬ nI (txn tx t) < nI (pto tx t part) by simp (disch := omega) only [ltI, leI, eqI, tI, tI1, ti_0, ti_1, ti_2, ti_3, ti_4, ti_5, ti_6, ti_7, ti_8, ti_9, ti_10, ti_11, ti_12, ti_14, ti_18, ti_30, ti_39, ti_40, ti_41, ti_45, ti_50, ti_59, ti_97, ti_99, ti_100, ti_122, ti_160, ti_243, ti_255, ti_399, ti_999, ti_1000, ti_1024, ti_99999, tm_1, tm_2, tm_3, tm_4, tm_5, tm_7, tm_11, tm_12, tm_13, tm_14, tm_100, if_pos, if_neg, if_true, if_false, bC_in, bI_s, bS_s, bX_s, bY_s, sO, tC]; omega)]
    rfl
  rw [hmin]
  refine Eq.trans t1 ?_
  rw [if_neg (by decide), show nI 1 - 1 = nI 0 from rfl, bC_in ⟨by decide, by decide⟩, nc_0, t3]
  unfold sy
  rw [t2]
  dsimp only
  by_cases q : x = 0
  · rw [if_pos q, decide_eq_true q]; rfl
  · rw [if_neg q, decide_eq_false q]; rfl
theorem r_says (hv : iv N B A V tx cu) (ha : agr A V A1 V1) (c1 : Value) {t part : Nat} (ht : t ≤ tx.length) (hp : part < 3) {nm : Nat → Int32} (hn : ∀ m, m < 6 → A1 151 m = nm m) : ∃ A2, fX9_says (nI t) (nI part) A1 V1 c1 = some (nI (sy tx (A 131) t part nm).toNat, A2, V1, c1) ∧ ∀ b, b ≠ 150 → A2 b = A1 b := by
  have hv1 : iv N B A1 V1 tx cu := iv_agr ha hv
  have h130 : A1 131 = A 131 := ha.1 131 rfl
  have ht5 : tx.length ≤ 5 := hv.1.2.2.2.1.2.2
  obtain ⟨h1, h2, h3, h4, h5, h6, h7, h8⟩ := tx_pt hv1 ht hp
  rw [h130] at h7 h8
  obtain ⟨A', x, t1, t2, t3, t4⟩ := r_says_L (row := 3 * t + part) (a := pfr tx t part) (hi := pto tx t part - pfr tx t part) (f := txg tx (A 131) t) (nm := nm) (by omega) V1 c1 (fun (A24 V25 : xM) (c26 : Value) => if (A24 150 (0 : Int32).toNatClampNeg) = 0 then (some ((0 : Int32), A24, V25, c26)) else (some ((1 : Int32), A24, V25, c26))) (by omega) (pto tx t part - pfr tx t part) 0 FU A1 [] h8 (by simp) trivial h6 h7 hn (by omega) (fu_gt (by omega))
  refine ⟨A', ?_, t4⟩
  unfold fX9_says
  rw [show (3 : Int32) * nI t + nI part = nI (3 * t + part) by rw [show (3 : Int32) = nI 3 from rfl, pk_mul, nI_add]]
  refine Eq.trans t1 ?_
  rw [show (0 : Int32).toNatClampNeg = 0 from rfl, t3]
  unfold sy
  rw [Nat.add_zero] at t2
  rw [t2]
  dsimp only
  by_cases q : x = 0
  · rw [if_pos q, decide_eq_true q]; rfl
  · rw [if_neg q, decide_eq_false q]; rfl
end SY
