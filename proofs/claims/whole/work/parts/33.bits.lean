/-! SETS OF THE FIVE as bits. -/
def fs (f : Nat → Bool) (p : Nat) (b : Bool) : Nat → Bool := fun q => if q = p then b else f q
def mkb (b0 b1 b2 b3 b4 : Bool) : Nat := b0.toNat + 2 * b1.toNat + 4 * b2.toNat + 8 * b3.toNat + 16 * b4.toNat
theorem mk5_b (f : Nat → Bool) : mk5 f = mkb (f 0) (f 1) (f 2) (f 3) (f 4) := rfl
theorem mkb_lt : ∀ b0 b1 b2 b3 b4 : Bool, mkb b0 b1 b2 b3 b4 < 32 := by decide
theorem mk5_lt (f : Nat → Bool) : mk5 f < 32 := mkb_lt _ _ _ _ _
theorem mkb_bit : ∀ b0 b1 b2 b3 b4 : Bool, (∀ p : Fin 5, decide ((nI (mkb b0 b1 b2 b3 b4) &&& (1 : Int32) <<< (nI p.val &&& 31)) = 0) = !([b0, b1, b2, b3, b4][p.val]!)) := by decide +kernel
theorem mkb_sh : ∀ b0 b1 b2 b3 b4 : Bool, (∀ p : Fin 5, (nI (mkb b0 b1 b2 b3 b4) >>> (nI p.val &&& 31)) &&& 1 = nI ([b0, b1, b2, b3, b4][p.val]!).toNat) := by decide +kernel
theorem mkb_or : ∀ b0 b1 b2 b3 b4 : Bool, (∀ p : Fin 5, (nI (mkb b0 b1 b2 b3 b4) ||| (1 : Int32) <<< (nI p.val &&& 31)) = nI (mkb (b0 || p.val == 0) (b1 || p.val == 1) (b2 || p.val == 2) (b3 || p.val == 3) (b4 || p.val == 4))) := by decide +kernel
theorem mkb_an : ∀ b0 b1 b2 b3 b4 : Bool, (∀ p : Fin 5, (nI (mkb b0 b1 b2 b3 b4) &&& ((1 : Int32) <<< (nI p.val &&& 31) ^^^ (-1))) = nI (mkb (b0 && p.val != 0) (b1 && p.val != 1) (b2 && p.val != 2) (b3 && p.val != 3) (b4 && p.val != 4))) := by decide +kernel
theorem f5 (f : Nat → Bool) {p : Nat} (hp : p < 5) : [f 0, f 1, f 2, f 3, f 4][p]! = f p := by
  match p, hp with
  | 0, _ => rfl
  | 1, _ => rfl
  | 2, _ => rfl
  | 3, _ => rfl
  | 4, _ => rfl
theorem mk5_bit (f : Nat → Bool) {p : Nat} (hp : p < 5) : ((nI (mk5 f) &&& (1 : Int32) <<< (nI p &&& 31)) = 0) = (f p = false) := by
  have := mkb_bit (f 0) (f 1) (f 2) (f 3) (f 4) ⟨p, hp⟩
  rw [← mk5_b, f5 f hp] at this
  apply propext
  rw [← decide_eq_true_iff (p := (nI (mk5 f) &&& (1 : Int32) <<< (nI p &&& 31)) = 0), this]
  cases f p <;> simp
theorem mk5_sh (f : Nat → Bool) {p : Nat} (hp : p < 5) : (nI (mk5 f) >>> (nI p &&& 31)) &&& 1 = nI (f p).toNat := by
  have := mkb_sh (f 0) (f 1) (f 2) (f 3) (f 4) ⟨p, hp⟩
  rw [← mk5_b, f5 f hp] at this
  exact this
theorem mk5_or (f : Nat → Bool) {p : Nat} (hp : p < 5) : (nI (mk5 f) ||| (1 : Int32) <<< (nI p &&& 31)) = nI (mk5 (fs f p true)) := by
  have := mkb_or (f 0) (f 1) (f 2) (f 3) (f 4) ⟨p, hp⟩
  rw [← mk5_b] at this
  rw [this, mk5_b]
  match p, hp with
  | 0, _ => simp [fs]
  | 1, _ => simp [fs]
  | 2, _ => simp [fs]
  | 3, _ => simp [fs]
  | 4, _ => simp [fs]
theorem mk5_an (f : Nat → Bool) {p : Nat} (hp : p < 5) : (nI (mk5 f) &&& ((1 : Int32) <<< (nI p &&& 31) ^^^ (-1))) = nI (mk5 (fs f p false)) := by
  have := mkb_an (f 0) (f 1) (f 2) (f 3) (f 4) ⟨p, hp⟩
  rw [← mk5_b] at this
  rw [this, mk5_b]
  match p, hp with
  | 0, _ => simp [fs]
  | 1, _ => simp [fs]
  | 2, _ => simp [fs]
  | 3, _ => simp [fs]
  | 4, _ => simp [fs]
theorem mk5_c {f g : Nat → Bool} (h : ∀ p, p < 5 → f p = g p) : mk5 f = mk5 g := by
  rw [mk5_b, mk5_b, h 0 (by decide), h 1 (by decide), h 2 (by decide), h 3 (by decide), h 4 (by decide)]
theorem cl {x : Int32} {n : Nat} (h : x.toInt = (n : Int)) : x.toNatClampNeg = n := by rw [Int32.toNatClampNeg, h]; rfl
theorem nb0 : Nat.ble 2 0 = false := rfl
theorem nb1 : Nat.ble 2 1 = false := rfl
theorem nb2 : Nat.ble 2 2 = true := rfl
theorem nb3 : Nat.ble 2 3 = true := rfl
theorem mk5_an2 (f : Nat → Bool) {p : Nat} (hp : p < 5) : (nI (mk5 f) &&& ~~~((1 : Int32) <<< (nI p &&& 31))) = nI (mk5 (fs f p false)) := by
  have := mk5_an f hp
  simpa using this
theorem nq_0_0 : (nI 0 = (0 : Int32)) = True := by simp [nI]
theorem nq_0_1 : (nI 0 = (1 : Int32)) = False := by simp [nI]
theorem nq_0_2 : (nI 0 = (2 : Int32)) = False := by simp [nI]
theorem nq_0_3 : (nI 0 = (3 : Int32)) = False := by simp [nI]
theorem nq_0_4 : (nI 0 = (4 : Int32)) = False := by simp [nI]
theorem nq_0_5 : (nI 0 = (5 : Int32)) = False := by simp [nI]
theorem nq_0_6 : (nI 0 = (6 : Int32)) = False := by simp [nI]
theorem nq_1_0 : (nI 1 = (0 : Int32)) = False := by simp [nI]
theorem nq_1_1 : (nI 1 = (1 : Int32)) = True := by simp [nI]
theorem nq_1_2 : (nI 1 = (2 : Int32)) = False := by simp [nI]
theorem nq_1_3 : (nI 1 = (3 : Int32)) = False := by simp [nI]
theorem nq_1_4 : (nI 1 = (4 : Int32)) = False := by simp [nI]
theorem nq_1_5 : (nI 1 = (5 : Int32)) = False := by simp [nI]
theorem nq_1_6 : (nI 1 = (6 : Int32)) = False := by simp [nI]
theorem nq_2_0 : (nI 2 = (0 : Int32)) = False := by simp [nI]
theorem nq_2_1 : (nI 2 = (1 : Int32)) = False := by simp [nI]
theorem nq_2_2 : (nI 2 = (2 : Int32)) = True := by simp [nI]
theorem nq_2_3 : (nI 2 = (3 : Int32)) = False := by simp [nI]
theorem nq_2_4 : (nI 2 = (4 : Int32)) = False := by simp [nI]
theorem nq_2_5 : (nI 2 = (5 : Int32)) = False := by simp [nI]
theorem nq_2_6 : (nI 2 = (6 : Int32)) = False := by simp [nI]
theorem nq_3_0 : (nI 3 = (0 : Int32)) = False := by simp [nI]
theorem nq_3_1 : (nI 3 = (1 : Int32)) = False := by simp [nI]
theorem nq_3_2 : (nI 3 = (2 : Int32)) = False := by simp [nI]
theorem nq_3_3 : (nI 3 = (3 : Int32)) = True := by simp [nI]
theorem nq_3_4 : (nI 3 = (4 : Int32)) = False := by simp [nI]
theorem nq_3_5 : (nI 3 = (5 : Int32)) = False := by simp [nI]
theorem nq_3_6 : (nI 3 = (6 : Int32)) = False := by simp [nI]
theorem nq_4_0 : (nI 4 = (0 : Int32)) = False := by simp [nI]
theorem nq_4_1 : (nI 4 = (1 : Int32)) = False := by simp [nI]
theorem nq_4_2 : (nI 4 = (2 : Int32)) = False := by simp [nI]
theorem nq_4_3 : (nI 4 = (3 : Int32)) = False := by simp [nI]
theorem nq_4_4 : (nI 4 = (4 : Int32)) = True := by simp [nI]
theorem nq_4_5 : (nI 4 = (5 : Int32)) = False := by simp [nI]
theorem nq_4_6 : (nI 4 = (6 : Int32)) = False := by simp [nI]
theorem nq_5_0 : (nI 5 = (0 : Int32)) = False := by simp [nI]
theorem nq_5_1 : (nI 5 = (1 : Int32)) = False := by simp [nI]
theorem nq_5_2 : (nI 5 = (2 : Int32)) = False := by simp [nI]
theorem nq_5_3 : (nI 5 = (3 : Int32)) = False := by simp [nI]
theorem nq_5_4 : (nI 5 = (4 : Int32)) = False := by simp [nI]
theorem nq_5_5 : (nI 5 = (5 : Int32)) = True := by simp [nI]
theorem nq_5_6 : (nI 5 = (6 : Int32)) = False := by simp [nI]
theorem nq_6_0 : (nI 6 = (0 : Int32)) = False := by simp [nI]
theorem nq_6_1 : (nI 6 = (1 : Int32)) = False := by simp [nI]
theorem nq_6_2 : (nI 6 = (2 : Int32)) = False := by simp [nI]
theorem nq_6_3 : (nI 6 = (3 : Int32)) = False := by simp [nI]
theorem nq_6_4 : (nI 6 = (4 : Int32)) = False := by simp [nI]
theorem nq_6_5 : (nI 6 = (5 : Int32)) = False := by simp [nI]
theorem nq_6_6 : (nI 6 = (6 : Int32)) = True := by simp [nI]
theorem nc_0 : (nI 0).toNatClampNeg = 0 := rfl
theorem nc_1 : (nI 1).toNatClampNeg = 1 := rfl
theorem nc_2 : (nI 2).toNatClampNeg = 2 := rfl
theorem nc_3 : (nI 3).toNatClampNeg = 3 := rfl
theorem nc_4 : (nI 4).toNatClampNeg = 4 := rfl
theorem nc_5 : (nI 5).toNatClampNeg = 5 := rfl
theorem nc_6 : (nI 6).toNatClampNeg = 6 := rfl
theorem nc_7 : (nI 7).toNatClampNeg = 7 := rfl
theorem nc_8 : (nI 8).toNatClampNeg = 8 := rfl
theorem nc_9 : (nI 9).toNatClampNeg = 9 := rfl
theorem nc_10 : (nI 10).toNatClampNeg = 10 := rfl
theorem nc_11 : (nI 11).toNatClampNeg = 11 := rfl
theorem nc_12 : (nI 12).toNatClampNeg = 12 := rfl
theorem ni_0 : (nI 0).toInt = 0 := rfl
theorem ni_1 : (nI 1).toInt = 1 := rfl
theorem ni_2 : (nI 2).toInt = 2 := rfl
theorem ni_3 : (nI 3).toInt = 3 := rfl
theorem ni_4 : (nI 4).toInt = 4 := rfl
theorem ni_5 : (nI 5).toInt = 5 := rfl
theorem ni_6 : (nI 6).toInt = 6 := rfl
theorem ni_7 : (nI 7).toInt = 7 := rfl
theorem ni_8 : (nI 8).toInt = 8 := rfl
theorem ni_9 : (nI 9).toInt = 9 := rfl
theorem ni_10 : (nI 10).toInt = 10 := rfl
theorem ni_11 : (nI 11).toInt = 11 := rfl
theorem ni_12 : (nI 12).toInt = 12 := rfl
theorem iL (x : Int32) : -2147483648 ≤ x.toInt ∧ x.toInt < 2147483648 := ⟨Int32.le_toInt x, Int32.toInt_lt x⟩
theorem bwl (x : Int) (h : -4294967296 ≤ x) (h2 : x < -2147483648) : x.bmod 4294967296 = x + 4294967296 := by
  unfold Int.bmod
  dsimp only
  split <;> omega
