/-! THE HEAP as a function of what it holds: A a: the row at cell a; V a k: the number in field k of cell a; tx: the texts made (length, steps, where learn and wall begin); cu: the text that is sung by. -/
abbrev xh_T : Type := Nat × (Nat → Int32) × Int32 × Int32
/-- where the texts are, n made beside the first -/
def xh_tr : Nat → Nat → Option Nat
  | 0 => va_up (fun _ => none) 0 (some 129)
  | n + 1 => va_up (xh_tr n) (n + 1) (some (163 + 2 * n))
def xh_sh : Nat → Option Nat := va_up (va_up (va_up (va_up (fun _ => none) 0 (some 121)) 1 (some 123)) 2 (some 125)) 3 (some 127)
def xh_tx : Nat → List xh_T → xq_H
  | _, [] => []
  | a, (n, f, l, w) :: t => .inr (7, [.ref (a + 1), .int l, .int w]) :: .inl (0, n, .inl f) :: xh_tx (a + 2) t
def xh (A : Nat → Nat → Int32) (V : Nat → Nat → Int32) (tx : List xh_T) (cu : Value) : xq_H :=
  .inr (8, [.ref 65, .ref 72, .ref 73, .ref 77, .ref 81, .ref 84, .ref 94, .ref 97, .ref 98, .ref 99, .ref 100, .ref 113, .ref 114, .int (V 64 13), .int (V 64 14), .int (V 64 15), .int (V 64 16)]) ::
  .inr (2, [.ref 66, .ref 67, .ref 68, .int (V 65 3), .ref 69, .ref 70, .ref 71, .int (V 65 7)]) ::
  .inl (0, 5, .inl (A 66)) ::
  .inl (0, 5, .inl (A 67)) ::
  .inl (0, 5, .inl (A 68)) ::
  .inl (0, 6, .inl (A 69)) ::
  .inl (0, 4, .inl (A 70)) ::
  .inl (0, 4, .inl (A 71)) ::
  .inl (0, 6, .inl (A 72)) ::
  .inr (1, [.ref 74, .ref 75, .ref 76]) ::
  .inl (0, 6, .inl (A 74)) ::
  .inl (0, 6, .inl (A 75)) ::
  .inl (0, 6, .inl (A 76)) ::
  .inr (1, [.ref 78, .ref 79, .ref 80]) ::
  .inl (0, 6, .inl (A 78)) ::
  .inl (0, 6, .inl (A 79)) ::
  .inl (0, 6, .inl (A 80)) ::
  .inr (6, [.ref 65, .ref 72, .ref 82, .ref 83, cu, .int (V 81 5)]) ::
  .inl (0, 40, .inl (A 82)) ::
  .inl (0, 6, .inl (A 83)) ::
  .inr (3, [.int (V 84 0), .int (V 84 1), .ref 65, .ref 81, .ref 73, .ref 85, .ref 89, .ref 90, .ref 91, .ref 92, .int (V 84 10), .ref 93, .int (V 84 12), .int (V 84 13)]) ::
  .inr (1, [.ref 86, .ref 87, .ref 88]) ::
  .inl (0, 6, .inl (A 86)) ::
  .inl (0, 6, .inl (A 87)) ::
  .inl (0, 6, .inl (A 88)) ::
  .inl (0, 243, .inl (A 89)) ::
  .inl (0, 243, .inl (A 90)) ::
  .inl (0, 243, .inl (A 91)) ::
  .inl (0, 243, .inl (A 92)) ::
  .inl (0, 216, .inl (A 93)) ::
  .inr (4, [.ref 95, .int (V 94 1), .int (V 94 2), .ref 96, .int (V 94 4), .int (V 94 5), .int (V 94 6), .int (V 94 7), .int (V 94 8)]) ::
  .inl (0, 160, .inl (A 95)) ::
  .inl (0, 160, .inl (A 96)) ::
  .inl (5, 6, .inr (xh_tr tx.length)) ::
  .inl (0, 4, .inl (A 98)) ::
  .inl (0, 4, .inl (A 99)) ::
  .inl (3, 12, .inr (fun i => if i < 12 then some (101 + i) else none)) ::
  .inl (0, 7, .inl (A 101)) ::
  .inl (0, 7, .inl (A 102)) ::
  .inl (0, 7, .inl (A 103)) ::
  .inl (0, 7, .inl (A 104)) ::
  .inl (0, 7, .inl (A 105)) ::
  .inl (0, 7, .inl (A 106)) ::
  .inl (0, 7, .inl (A 107)) ::
  .inl (0, 7, .inl (A 108)) ::
  .inl (0, 7, .inl (A 109)) ::
  .inl (0, 7, .inl (A 110)) ::
  .inl (0, 7, .inl (A 111)) ::
  .inl (0, 7, .inl (A 112)) ::
  .inl (4, 4, .inr xh_sh) ::
  .inr (0, [.ref 115, .ref 119, .ref 120, .int (V 114 3), .int (V 114 4), .int (V 114 5), .int (V 114 6)]) ::
  .inr (1, [.ref 116, .ref 117, .ref 118]) ::
  .inl (0, 6, .inl (A 116)) ::
  .inl (0, 6, .inl (A 117)) ::
  .inl (0, 6, .inl (A 118)) ::
  .inl (0, 4, .inl (A 119)) ::
  .inl (0, 4, .inl (A 120)) ::
  .inr (5, [.ref 122, .int (V 121 1), .int (V 121 2)]) ::
  .inl (0, 40, .inl (A 122)) ::
  .inr (5, [.ref 124, .int (V 123 1), .int (V 123 2)]) ::
  .inl (0, 40, .inl (A 124)) ::
  .inr (5, [.ref 126, .int (V 125 1), .int (V 125 2)]) ::
  .inl (0, 40, .inl (A 126)) ::
  .inr (5, [.ref 128, .int (V 127 1), .int (V 127 2)]) ::
  .inl (0, 40, .inl (A 128)) ::
  .inr (7, [.ref 130, .int 7, .int 8]) ::
  .inl (0, 9, .inl (A 130)) ::
  .inr (9, [.ref 132, .ref 133, .int (V 131 2), .ref 134, .int (V 131 4), .ref 135, .ref 136, .ref 137, .ref 138, .int (V 131 9), .ref 139, .ref 140, .ref 141, .ref 142, .int (V 131 14), .int (V 131 15), .int (V 131 16), .ref 143, .ref 144, .int (V 131 19), .int (V 131 20), .int (V 131 21), .int (V 131 22), .ref 145, .ref 146, .ref 147, .int (V 131 26), .int (V 131 27), .int (V 131 28), .ref 148, .int (V 131 30), .int (V 131 31), .ref 149, .ref 150, .ref 151, .int (V 131 35), .int (V 131 36), .ref 152, .ref 153, .ref 154, .ref 155, .int (V 131 41), .int (V 131 42), .int (V 131 43), .ref 156, .ref 157, .ref 158, .int (V 131 47), .int (V 131 48), .int (V 131 49), .int (V 131 50), .ref 159, .ref 160, .ref 161, .ref 162]) ::
  .inl (0, 16, .inl (A 132)) ::
  .inl (0, 4, .inl (A 133)) ::
  .inl (0, 6, .inl (A 134)) ::
  .inl (0, 5, .inl (A 135)) ::
  .inl (0, 5, .inl (A 136)) ::
  .inl (0, 5, .inl (A 137)) ::
  .inl (0, 30, .inl (A 138)) ::
  .inl (0, 12, .inl (A 139)) ::
  .inl (0, 12, .inl (A 140)) ::
  .inl (0, 60, .inl (A 141)) ::
  .inl (0, 160, .inl (A 142)) ::
  .inl (0, 2880, .inl (A 143)) ::
  .inl (0, 18, .inl (A 144)) ::
  .inl (2, 45, .inl (A 145)) ::
  .inl (0, 13, .inl (A 146)) ::
  .inl (0, 170, .inl (A 147)) ::
  .inl (1, 8, .inl (A 148)) ::
  .inl (0, 170, .inl (A 149)) ::
  .inl (0, 6, .inl (A 150)) ::
  .inl (0, 5, .inl (A 151)) ::
  .inl (0, 30, .inl (A 152)) ::
  .inl (0, 1024, .inl (A 153)) ::
  .inl (0, 1024, .inl (A 154)) ::
  .inl (0, 1024, .inl (A 155)) ::
  .inl (0, 16, .inl (A 156)) ::
  .inl (0, 4, .inl (A 157)) ::
  .inl (0, 30, .inl (A 158)) ::
  .inl (0, 4, .inl (A 159)) ::
  .inl (0, 4, .inl (A 160)) ::
  .inl (0, 160, .inl (A 161)) ::
  .inl (0, 40, .inl (A 162)) :: xh_tx 163 tx
/-- what a heap holds -/
def xh_rA (h : xq_H) (a : Nat) : Nat → Int32 := match h[a - 64]? with
  | some (.inl (_, _, .inl f)) => f
  | _ => fun _ => 0
def xh_rV (h : xq_H) (a k : Nat) : Int32 := match h[a - 64]? with
  | some (.inr (_, fs)) => (match fs[k]? with
    | some (.int x) => x
    | _ => 0)
  | _ => 0
