/-! WHAT HOLDS BETWEEN TWO CALLS: N: the numbers (0 songs, 1 people, 2 evenings, 3 the law, 4 bytes on the tape); B: rows of numbers (0 walls, a mask a room; 1 seats; 2, 3, 4 kind, dies, more of the people; 5 what one knows at first, six songs a person; 6, 7, 8 walls, seats, what one knew, of the image; 9 numbers of the image: kept, people, songs, evenings, law). -/
abbrev iv_T : Type := (Nat → Nat) → (Nat → Nat → Nat) → (Nat → Nat → Int32) → (Nat → Nat → Int32) → List xh_T → Value → Prop
/-- a set of the five as a number -/
def mk5 (f : Nat → Bool) : Nat := (f 0).toNat + 2 * (f 1).toNat + 4 * (f 2).toNat + 8 * (f 3).toNat + 16 * (f 4).toNat
def iv_num : iv_T := fun N _ _ V tx _ => (V 64 13 = nI (N 0) ∧ V 131 2 = nI (N 0) ∧ N 0 ≤ 6) ∧ (V 65 3 = nI (N 1) ∧ V 131 4 = nI (N 1) ∧ N 1 ≤ 5) ∧ (V 64 14 = nI (N 2) ∧ V 131 9 = nI (N 2) ∧ N 2 ≤ 12) ∧ (V 64 15 = nI (tx.length + 1) ∧ V 131 15 = nI (tx.length + 1) ∧ tx.length ≤ 5) ∧ (V 64 16 = nI (N 3) ∧ V 131 16 = nI (N 3) ∧ N 3 ≤ tx.length) ∧ (V 94 1 = nI (N 4) ∧ V 131 14 = nI (N 4) ∧ N 4 ≤ 160)
def iv_wal (m : Nat → Nat) : Prop := (∀ q, q < 4 → m q < 16 ∧ m q / 2 ^ q % 2 = 0) ∧ ∀ q r, q < 4 → r < 4 → m q / 2 ^ r % 2 = m r / 2 ^ q % 2
def iv_thin : iv_T := fun _ B A _ _ _ => iv_wal (B 0) ∧ (∀ q, q < 4 → A 98 q = nI (B 0 q)) ∧ ∀ q r, q < 4 → r < 4 → A 132 (4 * q + r) = nI (B 0 q / 2 ^ r % 2)
def iv_seat : iv_T := fun _ B A _ _ _ => ∀ r, r < 4 → A 99 r = nI (B 1 r) ∧ A 133 r = nI (B 1 r) ∧ 1 ≤ B 1 r ∧ B 1 r ≤ 5
def iv_need : iv_T := fun N _ A _ _ _ => ∀ s, s < N 0 → A 72 s = A 134 s ∧ (A 72 s = -1 ∨ ∃ j : Nat, j < s ∧ A 72 s = nI j)
def iv_peop : iv_T := fun N B A _ _ _ => ∀ p, p < N 1 → (A 66 p = nI (B 2 p) ∧ A 135 p = nI (B 2 p) ∧ B 2 p ≤ 5) ∧ (A 67 p = nI (B 3 p) ∧ A 136 p = nI (B 3 p) ∧ B 3 p ≤ 100) ∧ (A 68 p = nI (B 4 p) ∧ A 137 p = nI (B 4 p) ∧ B 4 p ≤ 9)
/-- whether one of a kind sings before so many others; what one knows who has heard it -/
def sg (k m o : Nat) : Bool := !(k == 2) && (!(k == 1) || Nat.ble o m)
def kt (k way knew : Nat) : Nat := if k = 3 then knew else if k = 4 ∨ k = 5 then (if way = 0 then knew + 1 else knew) else if way = 0 ∨ knew = 1 then 2 else 1
def iv_cach : iv_T := fun N B A V _ _ => (∀ n, 1 ≤ n → n ≤ 5 → A 69 n = nI (mk5 (fun p => Nat.blt p (N 1) && sg (B 2 p) (B 4 p) (n - 1)))) ∧ (∀ i, i < 4 → A 70 i = nI (mk5 (fun p => Nat.blt p (N 1) && (kt (B 2 p) (i / 2) (i % 2) == 2))) ∧ A 71 i = nI (mk5 (fun p => Nat.blt p (N 1) && (kt (B 2 p) (i / 2) (i % 2) == 1)))) ∧ V 65 7 = nI (mk5 (fun p => Nat.blt p (N 1) && (B 2 p == 5)))
def iv_fir (n s : Nat) (F : Nat → Nat) : Prop := ∀ p t, p < 5 → t < 6 → F (6 * p + t) ≤ 3 ∧ (n ≤ p ∨ s ≤ t → F (6 * p + t) = 0)
def iv_kno (F : Nat → Nat) (w h g : Nat → Int32) : Prop := ∀ t, t < 6 → w t = nI (mk5 (fun p => Nat.ble 2 (F (6 * p + t)))) ∧ h t = nI (mk5 (fun p => F (6 * p + t) == 1)) ∧ g t = nI (mk5 (fun p => F (6 * p + t) == 3))
def iv_firs : iv_T := fun N B A _ _ _ => iv_fir (N 1) (N 0) (B 5) ∧ iv_kno (B 5) (A 74) (A 75) (A 76) ∧ ∀ j, j < 30 → A 138 j = nI (B 5 j)
def iv_even : iv_T := fun N _ A _ _ _ => (∀ e, e < 12 → A (101 + e) 0 = A 139 e ∧ A (101 + e) 1 = A 140 e ∧ ∀ p, p < 5 → A (101 + e) (2 + p) = A 141 (5 * e + p)) ∧ ∀ e, e < N 2 → (∃ s : Nat, s < N 0 ∧ A 139 e = nI s) ∧ (∃ r : Nat, r < 4 ∧ A 140 e = nI r) ∧ ∀ p, p < 5 → A 141 (5 * e + p) = -1 ∨ ∃ r : Nat, r < 4 ∧ A 141 (5 * e + p) = nI r
def iv_tape : iv_T := fun N _ A _ _ _ => ∀ j, j < N 4 → A 95 j = A 142 j ∧ ∃ v : Nat, v < 256 ∧ A 95 j = nI v
def iv_shee : iv_T := fun _ _ A V _ _ => ∀ i, i < 4 → V (121 + 2 * i) 1 = A 159 i ∧ (∃ n : Nat, n ≤ 40 ∧ V (121 + 2 * i) 2 = nI n ∧ A 160 i = nI n) ∧ (∀ j, j < 40 → A (122 + 2 * i) j = A 161 (40 * i + j)) ∧ (A 159 i = -1 ∨ ∃ k : Nat, k < 3 ∧ A 159 i = nI k)
def iv (C : (Nat → Int32) → (Nat → Int32) → List xh_T → Prop) : iv_T := fun N B A V tx cu => iv_num N B A V tx cu ∧ iv_thin N B A V tx cu ∧ iv_seat N B A V tx cu ∧ iv_need N B A V tx cu ∧ iv_peop N B A V tx cu ∧ iv_cach N B A V tx cu ∧ iv_firs N B A V tx cu ∧ iv_even N B A V tx cu ∧ iv_tape N B A V tx cu ∧ iv_shee N B A V tx cu ∧ C (A 143) (A 144) tx
/-- a call of both sides: answers alike, and what holds holds on -/
def iv_op (C : (Nat → Int32) → (Nat → Int32) → List xh_T → Prop) (ro : Nat → Option xq_C) (d kc km : Nat) (as : List Value) : Prop := ∀ N B A V tx cu, iv C N B A V tx cu → xe ro d kc (.ref 64 :: as) (xh A V tx cu) (fun r h1 => ∃ (x : Int32) (A1 V1 : Nat → Nat → Int32) (tx1 : List xh_T) (cu1 : Value), r = some (.int x) ∧ h1 = xh A1 V1 tx1 cu1 ∧ xe ro d km (.ref 131 :: as) (xh A1 V1 tx1 cu1) (fun r2 h2 => r2 = some (.int x) ∧ ∃ N' B' A' V' tx' cu', h2 = xh A' V' tx' cu' ∧ iv C N' B' A' V' tx' cu'))
/-- an int below lo, above hi, or one of those between -/
theorem sp3 (x : Int32) (lo hi : Int32) : x < lo ∨ hi < x ∨ (¬ x < lo ∧ ¬ hi < x) := by grind
theorem sp_0_1 {x : Int32} (h : ¬ x < 0 ∧ ¬ 1 < x) : x = 0 ∨ x = 1 := by
  obtain ⟨h1, h2⟩ := h
  have a := Int32.le_iff_toInt_le.mp (Int32.not_lt.mp h1)
  have b := Int32.le_iff_toInt_le.mp (Int32.not_lt.mp h2)
  simp at a b
  rcases (show x.toInt = 0 ∨ x.toInt = 1 by omega) with q | q
  · exact Or.inl (Int32.toInt_inj.mp q)
  · exact Or.inr (Int32.toInt_inj.mp q)
theorem sp_0_3 {x : Int32} (h : ¬ x < 0 ∧ ¬ 3 < x) : x = 0 ∨ x = 1 ∨ x = 2 ∨ x = 3 := by
  obtain ⟨h1, h2⟩ := h
  have a := Int32.le_iff_toInt_le.mp (Int32.not_lt.mp h1)
  have b := Int32.le_iff_toInt_le.mp (Int32.not_lt.mp h2)
  simp at a b
  rcases (show x.toInt = 0 ∨ x.toInt = 1 ∨ x.toInt = 2 ∨ x.toInt = 3 by omega) with q | q | q | q
  · exact Or.inl (Int32.toInt_inj.mp q)
  · exact Or.inr (Or.inl (Int32.toInt_inj.mp q))
  · exact Or.inr (Or.inr (Or.inl (Int32.toInt_inj.mp q)))
  · exact Or.inr (Or.inr (Or.inr (Int32.toInt_inj.mp q)))
theorem sp_1_5 {x : Int32} (h : ¬ x < 1 ∧ ¬ 5 < x) : ∃ n : Nat, 1 ≤ n ∧ n ≤ 5 ∧ x = nI n := by
  obtain ⟨h1, h2⟩ := h
  have a := Int32.le_iff_toInt_le.mp (Int32.not_lt.mp h1)
  have b := Int32.le_iff_toInt_le.mp (Int32.not_lt.mp h2)
  simp at a b
  refine ⟨x.toInt.toNat, by omega, by omega, ?_⟩
  apply Int32.toInt_inj.mp
  rw [nI_toInt (by omega)]
  omega
section I26
variable {C : (Nat → Int32) → (Nat → Int32) → List xh_T → Prop} {ro : Nat → Option xq_C} {d : Nat}
end I26
