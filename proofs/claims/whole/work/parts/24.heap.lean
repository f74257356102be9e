/-! THE HEAP as a function of what it holds: A a: the row at cell a; V a k: the number in field k of cell a; tx: the texts made (length, steps, where learn and wall begin); cu: the text that is sung by. -/
abbrev xh_T : Type := Nat × (Nat → Int32) × Int32 × Int32
/-- where the texts are, n made beside the first -/
def xh_tr : Nat → Nat → Option Nat
  | 0 => va_up (fun _ => none) 0 (some 130)
  | n + 1 => va_up (xh_tr n) (n + 1) (some (164 + 2 * n))
def xh_sh : Nat → Option Nat := va_up (va_up (va_up (va_up (fun _ => none) 0 (some 122)) 1 (some 124)) 2 (some 126)) 3 (some 128)
def xh_tx : Nat → List xh_T → xq_H
  | _, [] => []
  | a, (n, f, l, w) :: t => .inr (7, [.ref (a + 1), .int l, .int w]) :: .inl (0, n, .inl f) :: xh_tx (a + 2) t
def xh (A : Nat → Nat → Int32) (V : Nat → Nat → Int32) (tx : List xh_T) (cu : Value) : xq_H :=
  .inr (8, [.ref 65, .ref 72, .ref 73, .ref 77, .ref 81, .ref 84, .ref 95, .ref 98, .ref 99, .ref 100, .ref 101, .ref 114, .ref 115, .int (V 64 13), .int (V 64 14), .int (V 64 15), .int (V 64 16)]) ::
  .inr (2, [.ref 66, .ref 67, .ref 68, .int (V 65 3), .ref 69, .ref 70, .ref 71, .int (V 65 7)]) ::
  .inl (0, 5, .inl (A 66)) ::
  .inl (0, 5, .inl (A 67)) ::
  .inl (0, 5, .inl (A 68)) ::
  .inl (0, 6, .inl (A 69)) ::
  .inl (0, 4, .inl (A 70)) ::
  .inl (0, 4, .inl (A 71)) ::
  .inl (0, 6, .inl (A 72)) ::
  .inr (1, [.ref 74, .ref 75, .ref 76]) ::
  .inl (0, 6, .inl (A 74)) ::
  .inl (0, 6, .inl (A 75)) ::
  .inl (0, 6, .inl (A 76)) ::
  .inr (1, [.ref 78, .ref 79, .ref 80]) ::
  .inl (0, 6, .inl (A 78)) ::
  .inl (0, 6, .inl (A 79)) ::
  .inl (0, 6, .inl (A 80)) ::
  .inr (6, [.ref 65, .ref 72, .ref 82, .ref 83, cu, .int (V 81 5)]) ::
  .inl (0, 40, .inl (A 82)) ::
  .inl (0, 6, .inl (A 83)) ::
  .inr (3, [.int (V 84 0), .int (V 84 1), .ref 65, .ref 81, .ref 73, .ref 85, .ref 89, .ref 90, .ref 91, .ref 92, .ref 93, .int (V 84 11), .ref 94, .int (V 84 13), .int (V 84 14)]) ::
  .inr (1, [.ref 86, .ref 87, .ref 88]) ::
  .inl (0, 6, .inl (A 86)) ::
  .inl (0, 6, .inl (A 87)) ::
  .inl (0, 6, .inl (A 88)) ::
  .inl (0, 243, .inl (A 89)) ::
  .inl (0, 243, .inl (A 90)) ::
  .inl (0, 243, .inl (A 91)) ::
  .inl (0, 243, .inl (A 92)) ::
  .inl (0, 243, .inl (A 93)) ::
  .inl (0, 216, .inl (A 94)) ::
  .inr (4, [.ref 96, .int (V 95 1), .int (V 95 2), .ref 97, .int (V 95 4), .int (V 95 5), .int (V 95 6), .int (V 95 7), .int (V 95 8)]) ::
  .inl (0, 160, .inl (A 96)) ::
  .inl (0, 160, .inl (A 97)) ::
  .inl (5, 6, .inr (xh_tr tx.length)) ::
  .inl (0, 4, .inl (A 99)) ::
  .inl (0, 4, .inl (A 100)) ::
  .inl (3, 12, .inr (fun i => if i < 12 then some (102 + i) else none)) ::
  .inl (0, 7, .inl (A 102)) ::
  .inl (0, 7, .inl (A 103)) ::
  .inl (0, 7, .inl (A 104)) ::
  .inl (0, 7, .inl (A 105)) ::
  .inl (0, 7, .inl (A 106)) ::
  .inl (0, 7, .inl (A 107)) ::
  .inl (0, 7, .inl (A 108)) ::
  .inl (0, 7, .inl (A 109)) ::
  .inl (0, 7, .inl (A 110)) ::
  .inl (0, 7, .inl (A 111)) ::
  .inl (0, 7, .inl (A 112)) ::
  .inl (0, 7, .inl (A 113)) ::
  .inl (4, 4, .inr xh_sh) ::
  .inr (0, [.ref 116, .ref 120, .ref 121, .int (V 115 3), .int (V 115 4), .int (V 115 5), .int (V 115 6)]) ::
  .inr (1, [.ref 117, .ref 118, .ref 119]) ::
  .inl (0, 6, .inl (A 117)) ::
  .inl (0, 6, .inl (A 118)) ::
  .inl (0, 6, .inl (A 119)) ::
  .inl (0, 4, .inl (A 120)) ::
  .inl (0, 4, .inl (A 121)) ::
  .inr (5, [.ref 123, .int (V 122 1), .int (V 122 2)]) ::
  .inl (0, 40, .inl (A 123)) ::
  .inr (5, [.ref 125, .int (V 124 1), .int (V 124 2)]) ::
  .inl (0, 40, .inl (A 125)) ::
  .inr (5, [.ref 127, .int (V 126 1), .int (V 126 2)]) ::
  .inl (0, 40, .inl (A 127)) ::
  .inr (5, [.ref 129, .int (V 128 1), .int (V 128 2)]) ::
  .inl (0, 40, .inl (A 129)) ::
  .inr (7, [.ref 131, .int 7, .int 8]) ::
  .inl (0, 9, .inl (A 131)) ::
  .inr (9, [.ref 133, .ref 134, .int (V 132 2), .ref 135, .int (V 132 4), .ref 136, .ref 137, .ref 138, .ref 139, .int (V 132 9), .ref 140, .ref 141, .ref 142, .ref 143, .int (V 132 14), .int (V 132 15), .int (V 132 16), .ref 144, .ref 145, .int (V 132 19), .int (V 132 20), .int (V 132 21), .int (V 132 22), .ref 146, .ref 147, .ref 148, .int (V 132 26), .int (V 132 27), .int (V 132 28), .ref 149, .int (V 132 30), .int (V 132 31), .ref 150, .ref 151, .ref 152, .int (V 132 35), .int (V 132 36), .ref 153, .ref 154, .ref 155, .ref 156, .int (V 132 41), .int (V 132 42), .int (V 132 43), .ref 157, .ref 158, .ref 159, .int (V 132 47), .int (V 132 48), .int (V 132 49), .int (V 132 50), .ref 160, .ref 161, .ref 162, .ref 163]) ::
  .inl (0, 16, .inl (A 133)) ::
  .inl (0, 4, .inl (A 134)) ::
  .inl (0, 6, .inl (A 135)) ::
  .inl (0, 5, .inl (A 136)) ::
  .inl (0, 5, .inl (A 137)) ::
  .inl (0, 5, .inl (A 138)) ::
  .inl (0, 30, .inl (A 139)) ::
  .inl (0, 12, .inl (A 140)) ::
  .inl (0, 12, .inl (A 141)) ::
  .inl (0, 60, .inl (A 142)) ::
  .inl (0, 160, .inl (A 143)) ::
  .inl (0, 2880, .inl (A 144)) ::
  .inl (0, 18, .inl (A 145)) ::
  .inl (2, 45, .inl (A 146)) ::
  .inl (0, 13, .inl (A 147)) ::
  .inl (0, 170, .inl (A 148)) ::
  .inl (1, 8, .inl (A 149)) ::
  .inl (0, 170, .inl (A 150)) ::
  .inl (0, 6, .inl (A 151)) ::
  .inl (0, 5, .inl (A 152)) ::
  .inl (0, 30, .inl (A 153)) ::
  .inl (0, 1024, .inl (A 154)) ::
  .inl (0, 1024, .inl (A 155)) ::
  .inl (0, 1024, .inl (A 156)) ::
  .inl (0, 16, .inl (A 157)) ::
  .inl (0, 4, .inl (A 158)) ::
  .inl (0, 30, .inl (A 159)) ::
  .inl (0, 4, .inl (A 160)) ::
  .inl (0, 4, .inl (A 161)) ::
  .inl (0, 160, .inl (A 162)) ::
  .inl (0, 40, .inl (A 163)) :: xh_tx 164 tx
/-- what a heap holds -/
def xh_rA (h : xq_H) (a : Nat) : Nat → Int32 := match h[a - 64]? with
  | some (.inl (_, _, .inl f)) => f
  | _ => fun _ => 0
def xh_rV (h : xq_H) (a k : Nat) : Int32 := match h[a - 64]? with
  | some (.inr (_, fs)) => (match fs[k]? with
    | some (.int x) => x
    | _ => 0)
  | _ => 0
