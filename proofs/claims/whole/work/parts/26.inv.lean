/-! WHAT HOLDS BETWEEN TWO CALLS: N: the numbers (0 songs, 1 people, 2 evenings, 3 the law, 4 bytes on the tape); B: rows of numbers (0 walls, a mask a room; 1 seats; 2, 3, 4 kind, dies, more of the people; 5 what one knows at first, six songs a person; 6, 7, 8 walls, seats, what one knew, of the image; 9 numbers of the image: kept, people, songs, evenings, law). -/
abbrev iv_T : Type := (Nat → Nat) → (Nat → Nat → Nat) → (Nat → Nat → Int32) → (Nat → Nat → Int32) → List xh_T → Value → Prop
/-- a set of the five as a number -/
def mk5 (f : Nat → Bool) : Nat := (f 0).toNat + 2 * (f 1).toNat + 4 * (f 2).toNat + 8 * (f 3).toNat + 16 * (f 4).toNat
def iv_num : iv_T := fun N _ _ V tx _ => (V 64 13 = nI (N 0) ∧ V 132 2 = nI (N 0) ∧ N 0 ≤ 6) ∧ (V 65 3 = nI (N 1) ∧ V 132 4 = nI (N 1) ∧ N 1 ≤ 5) ∧ (V 64 14 = nI (N 2) ∧ V 132 9 = nI (N 2) ∧ N 2 ≤ 12) ∧ (V 64 15 = nI (tx.length + 1) ∧ V 132 15 = nI (tx.length + 1) ∧ tx.length ≤ 5) ∧ (V 64 16 = nI (N 3) ∧ V 132 16 = nI (N 3) ∧ N 3 ≤ tx.length) ∧ (V 95 1 = nI (N 4) ∧ V 132 14 = nI (N 4) ∧ N 4 ≤ 160)
def iv_wal (m : Nat → Nat) : Prop := (∀ q, q < 4 → m q < 16 ∧ m q / 2 ^ q % 2 = 0) ∧ ∀ q r, q < 4 → r < 4 → m q / 2 ^ r % 2 = m r / 2 ^ q % 2
def iv_thin : iv_T := fun _ B A _ _ _ => iv_wal (B 0) ∧ (∀ q, q < 4 → A 99 q = nI (B 0 q)) ∧ ∀ q r, q < 4 → r < 4 → A 133 (4 * q + r) = nI (B 0 q / 2 ^ r % 2)
def iv_seat : iv_T := fun _ B A _ _ _ => ∀ r, r < 4 → A 100 r = nI (B 1 r) ∧ A 134 r = nI (B 1 r) ∧ 1 ≤ B 1 r ∧ B 1 r ≤ 5
def iv_need : iv_T := fun N _ A _ _ _ => ∀ s, s < N 0 → A 72 s = A 135 s ∧ (A 72 s = -1 ∨ ∃ j : Nat, j < s ∧ A 72 s = nI j)
def iv_peop : iv_T := fun N B A _ _ _ => ∀ p, p < N 1 → (A 66 p = nI (B 2 p) ∧ A 136 p = nI (B 2 p) ∧ B 2 p ≤ 5) ∧ (A 67 p = nI (B 3 p) ∧ A 137 p = nI (B 3 p) ∧ B 3 p ≤ 100) ∧ (A 68 p = nI (B 4 p) ∧ A 138 p = nI (B 4 p) ∧ B 4 p ≤ 9)
/-- whether one of a kind sings before so many others; what one knows who has heard it -/
def sg (k m o : Nat) : Bool := !(k == 2) && (!(k == 1) || Nat.ble o m)
def kt (k way knew : Nat) : Nat := if k = 3 then knew else if k = 4 ∨ k = 5 then (if way = 0 then knew + 1 else knew) else if way = 0 ∨ knew = 1 then 2 else 1
def iv_cach : iv_T := fun N B A V _ _ => (∀ n, 1 ≤ n → n ≤ 5 → A 69 n = nI (mk5 (fun p => Nat.blt p (N 1) && sg (B 2 p) (B 4 p) (n - 1)))) ∧ (∀ i, i < 4 → A 70 i = nI (mk5 (fun p => Nat.blt p (N 1) && (kt (B 2 p) (i / 2) (i % 2) == 2))) ∧ A 71 i = nI (mk5 (fun p => Nat.blt p (N 1) && (kt (B 2 p) (i / 2) (i % 2) == 1)))) ∧ V 65 7 = nI (mk5 (fun p => Nat.blt p (N 1) && (B 2 p == 5)))
def iv_fir (n s : Nat) (F : Nat → Nat) : Prop := ∀ p t, p < 5 → t < 6 → F (6 * p + t) ≤ 3 ∧ (n ≤ p ∨ s ≤ t → F (6 * p + t) = 0)
def iv_kno (F : Nat → Nat) (w h g : Nat → Int32) : Prop := ∀ t, t < 6 → w t = nI (mk5 (fun p => Nat.ble 2 (F (6 * p + t)))) ∧ h t = nI (mk5 (fun p => F (6 * p + t) == 1)) ∧ g t = nI (mk5 (fun p => F (6 * p + t) == 3))
def iv_firs : iv_T := fun N B A _ _ _ => iv_fir (N 1) (N 0) (B 5) ∧ iv_kno (B 5) (A 74) (A 75) (A 76) ∧ ∀ j, j < 30 → A 139 j = nI (B 5 j)
def iv_e1 (o : Nat → Int32) (s r : Int32) (w : Nat → Int32) : Prop := o 0 = s ∧ o 1 = r ∧ ∀ p, p < 5 → o (2 + p) = w p
def iv_even : iv_T := fun N _ A _ _ _ => (iv_e1 (A 102) (A 140 0) (A 141 0) (fun p => A 142 (0 + p)) ∧ iv_e1 (A 103) (A 140 1) (A 141 1) (fun p => A 142 (5 + p)) ∧ iv_e1 (A 104) (A 140 2) (A 141 2) (fun p => A 142 (10 + p)) ∧ iv_e1 (A 105) (A 140 3) (A 141 3) (fun p => A 142 (15 + p)) ∧ iv_e1 (A 106) (A 140 4) (A 141 4) (fun p => A 142 (20 + p)) ∧ iv_e1 (A 107) (A 140 5) (A 141 5) (fun p => A 142 (25 + p)) ∧ iv_e1 (A 108) (A 140 6) (A 141 6) (fun p => A 142 (30 + p)) ∧ iv_e1 (A 109) (A 140 7) (A 141 7) (fun p => A 142 (35 + p)) ∧ iv_e1 (A 110) (A 140 8) (A 141 8) (fun p => A 142 (40 + p)) ∧ iv_e1 (A 111) (A 140 9) (A 141 9) (fun p => A 142 (45 + p)) ∧ iv_e1 (A 112) (A 140 10) (A 141 10) (fun p => A 142 (50 + p)) ∧ iv_e1 (A 113) (A 140 11) (A 141 11) (fun p => A 142 (55 + p))) ∧ ∀ e, e < N 2 → (∃ s : Nat, s < N 0 ∧ A 140 e = nI s) ∧ (∃ r : Nat, r < 4 ∧ A 141 e = nI r) ∧ ∀ p, p < 5 → A 142 (5 * e + p) = -1 ∨ (p < N 1 ∧ ∃ r : Nat, r < 4 ∧ A 142 (5 * e + p) = nI r)
def iv_tape : iv_T := fun N _ A _ _ _ => ∀ j, j < N 4 → A 96 j = A 143 j ∧ ∃ v : Nat, v < 256 ∧ A 96 j = nI v
def iv_s1 (v c : Nat → Int32) (so si : Int32) (it : Nat → Int32) : Prop := v 1 = so ∧ (∃ n : Nat, n ≤ 40 ∧ v 2 = nI n ∧ si = nI n) ∧ (∀ j, j < 40 → c j = it j) ∧ (so = -1 ∨ ∃ k : Nat, k < 3 ∧ so = nI k)
def iv_shee : iv_T := fun _ _ A V _ _ => iv_s1 (V 122) (A 123) (A 160 0) (A 161 0) (fun j => A 162 (0 + j)) ∧ iv_s1 (V 124) (A 125) (A 160 1) (A 161 1) (fun j => A 162 (40 + j)) ∧ iv_s1 (V 126) (A 127) (A 160 2) (A 161 2) (fun j => A 162 (80 + j)) ∧ iv_s1 (V 128) (A 129) (A 160 3) (A 161 3) (fun j => A 162 (120 + j))
def iv_imag : iv_T := fun N B A V tx _ => V 115 3 = V 132 43 ∧ (V 115 3 = 0 ∨ (V 115 3 = 1 ∧ iv_wal (B 6) ∧ (∀ q, q < 4 → A 120 q = nI (B 6 q)) ∧ (∀ q r, q < 4 → r < 4 → A 157 (4 * q + r) = nI (B 6 q / 2 ^ r % 2)) ∧ (∀ r, r < 4 → A 121 r = nI (B 7 r) ∧ A 158 r = nI (B 7 r) ∧ 1 ≤ B 7 r ∧ B 7 r ≤ 5) ∧ iv_fir (B 9 1) (B 9 2) (B 8) ∧ iv_kno (B 8) (A 117) (A 118) (A 119) ∧ (∀ j, j < 30 → A 159 j = nI (B 8 j)) ∧ (V 115 4 = nI (2 ^ (B 9 1) - 1) ∧ V 132 47 = nI (B 9 1) ∧ B 9 1 ≤ N 1) ∧ (V 132 48 = nI (B 9 2) ∧ B 9 2 ≤ N 0) ∧ (V 115 5 = nI (B 9 3) ∧ V 132 49 = nI (B 9 3) ∧ B 9 3 ≤ 12) ∧ (V 115 6 = nI (B 9 4) ∧ V 132 50 = nI (B 9 4) ∧ B 9 4 ≤ tx.length)))
/-- the class's step as the reference's code -/
def tr (s : Int32) : Int32 := if 0 ≤ s then -1 - s else if -8 ≤ s then -s - 3 else if s = -12 then 10 else if s = -13 then 11 else if s = -14 then 12 else if s = -60 then 13 else if s = -61 then 14 else if s = -43 then 15 else if s = -45 then 16 else if s = -42 then 17 else 18
/-- the height of the stack behind k steps from i on; none: it isn't a thing that can be done -/
def pfd (f : Nat → Int32) : Nat → Nat → Nat → Option Nat
  | _, 0, h => some h
  | i, k + 1, h => if 0 ≤ f i ∨ (-8 ≤ f i ∧ f i ≤ -3) then (if h < 40 then pfd f (i + 1) k (h + 1) else none) else if f i = -14 ∨ f i = -15 then (if 1 ≤ h then pfd f (i + 1) k h else none) else if f i = -12 ∨ f i = -13 ∨ f i = -60 ∨ f i = -61 ∨ f i = -43 ∨ f i = -45 ∨ f i = -42 then (if 2 ≤ h then pfd f (i + 1) k (h - 1) else none) else none
def iv_prt (c m : Nat → Int32) (row : Nat) (f : Nat → Int32) (a k : Nat) : Prop := m row = nI k ∧ (∀ j, j < k → c (160 * row + j) = tr (f (a + j))) ∧ pfd f a k 0 = some 1
def iv_tx1 (c m : Nat → Int32) (t n : Nat) (f : Nat → Int32) (l w : Int32) : Prop := ∃ l' w' : Nat, l = nI l' ∧ w = nI w' ∧ l' ≤ w' ∧ w' ≤ n ∧ n ≤ 160 ∧ iv_prt c m (3 * t) f 0 l' ∧ iv_prt c m (3 * t + 1) f l' (w' - l') ∧ iv_prt c m (3 * t + 2) f w' (n - w')
def iv_text : iv_T := fun _ _ A _ tx _ => iv_tx1 (A 144) (A 145) 0 9 (A 131) 7 8 ∧ ∀ t q, tx[t]? = some q → iv_tx1 (A 144) (A 145) (t + 1) q.1 q.2.1 q.2.2.1 q.2.2.2
def iv_lets : iv_T := fun _ _ A _ _ _ => (∀ j, j < 45 → A 146 j = ([107, 110, 111, 119, 119, 105, 108, 108, 98, 121, 115, 111, 110, 103, 114, 111, 111, 109, 101, 118, 101, 110, 105, 110, 103, 109, 97, 121, 108, 101, 97, 114, 110, 119, 97, 108, 108, 111, 114, 97, 110, 100, 110, 111, 116] : List Int32).getD j 0) ∧ ∀ j, j < 13 → A 147 j = ([0, 4, 8, 10, 14, 18, 25, 28, 33, 37, 39, 42, 45] : List Int32).getD j 0
def iv : iv_T := fun N B A V tx cu => iv_num N B A V tx cu ∧ iv_thin N B A V tx cu ∧ iv_seat N B A V tx cu ∧ iv_need N B A V tx cu ∧ iv_peop N B A V tx cu ∧ iv_cach N B A V tx cu ∧ iv_firs N B A V tx cu ∧ iv_even N B A V tx cu ∧ iv_tape N B A V tx cu ∧ iv_shee N B A V tx cu ∧ iv_imag N B A V tx cu ∧ iv_text N B A V tx cu ∧ iv_lets N B A V tx cu
/-- a call of both sides: answers alike, and what holds holds on -/
def iv_op (ro : Nat → Option xq_C) (d kc km : Nat) (as : List Value) : Prop := ∀ N B A V tx cu, iv N B A V tx cu → xe ro d kc (.ref 64 :: as) (xh A V tx cu) (fun r h1 => ∃ (x : Int32) (A1 V1 : Nat → Nat → Int32) (tx1 : List xh_T) (cu1 : Value), r = some (.int x) ∧ h1 = xh A1 V1 tx1 cu1 ∧ xe ro d km (.ref 132 :: as) (xh A1 V1 tx1 cu1) (fun r2 h2 => r2 = some (.int x) ∧ ∃ N' B' A' V' tx' cu', h2 = xh A' V' tx' cu' ∧ iv N' B' A' V' tx' cu'))
/-- an int below lo, above hi, or one of those between -/
theorem sp3 (x : Int32) (lo hi : Int32) : x < lo ∨ hi < x ∨ (¬ x < lo ∧ ¬ hi < x) := by grind
theorem sp_0_1 {x : Int32} (h : ¬ x < 0 ∧ ¬ 1 < x) : x = 0 ∨ x = 1 := by
  obtain ⟨h1, h2⟩ := h
  have a := Int32.le_iff_toInt_le.mp (Int32.not_lt.mp h1)
  have b := Int32.le_iff_toInt_le.mp (Int32.not_lt.mp h2)
  simp at a b
  rcases (show x.toInt = 0 ∨ x.toInt = 1 by omega) with q | q
  · exact Or.inl (Int32.toInt_inj.mp q)
  · exact Or.inr (Int32.toInt_inj.mp q)
theorem sp_0_3 {x : Int32} (h : ¬ x < 0 ∧ ¬ 3 < x) : x = 0 ∨ x = 1 ∨ x = 2 ∨ x = 3 := by
  obtain ⟨h1, h2⟩ := h
  have a := Int32.le_iff_toInt_le.mp (Int32.not_lt.mp h1)
  have b := Int32.le_iff_toInt_le.mp (Int32.not_lt.mp h2)
  simp at a b
  rcases (show x.toInt = 0 ∨ x.toInt = 1 ∨ x.toInt = 2 ∨ x.toInt = 3 by omega) with q | q | q | q
  · exact Or.inl (Int32.toInt_inj.mp q)
  · exact Or.inr (Or.inl (Int32.toInt_inj.mp q))
  · exact Or.inr (Or.inr (Or.inl (Int32.toInt_inj.mp q)))
  · exact Or.inr (Or.inr (Or.inr (Int32.toInt_inj.mp q)))
theorem sp_1_5 {x : Int32} (h : ¬ x < 1 ∧ ¬ 5 < x) : ∃ n : Nat, 1 ≤ n ∧ n ≤ 5 ∧ x = nI n := by
  obtain ⟨h1, h2⟩ := h
  have a := Int32.le_iff_toInt_le.mp (Int32.not_lt.mp h1)
  have b := Int32.le_iff_toInt_le.mp (Int32.not_lt.mp h2)
  simp at a b
  refine ⟨x.toInt.toNat, by omega, by omega, ?_⟩
  apply Int32.toInt_inj.mp
  rw [nI_toInt (by omega)]
  omega
