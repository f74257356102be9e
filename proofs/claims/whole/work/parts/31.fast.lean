/-! THE FAST PATHS: the heap's shape is fixed, so a path runs over what it holds (A, V, cu) alone. -/
abbrev yF : Type := Nat ⊕ (Int32 ⊕ Bool)
def y_v (V : Nat → Nat → Int32) (cu : Value) (r k : Nat) : yF → Value
  | .inl n => .ref n
  | .inr (.inl x) => .int x
  | .inr (.inr true) => .int (V r k)
  | .inr (.inr false) => cu
def ys_A (r : Nat) : Option (Nat × Nat) := (bif Nat.blt r 117 then (bif Nat.blt r 91 then (bif Nat.blt r 78 then (bif Nat.blt r 71 then (bif Nat.blt r 68 then (bif Nat.blt r 67 then (bif Nat.beq r 66 then some (0, 5) else none) else (bif Nat.beq r 67 then some (0, 5) else none)) else (bif Nat.blt r 69 then (bif Nat.beq r 68 then some (0, 5) else none) else (bif Nat.blt r 70 then (bif Nat.beq r 69 then some (0, 6) else none) else (bif Nat.beq r 70 then some (0, 4) else none)))) else (bif Nat.blt r 74 then (bif Nat.blt r 72 then (bif Nat.beq r 71 then some (0, 4) else none) else (bif Nat.beq r 72 then some (0, 6) else none)) else (bif Nat.blt r 75 then (bif Nat.beq r 74 then some (0, 6) else none) else (bif Nat.blt r 76 then (bif Nat.beq r 75 then some (0, 6) else none) else (bif Nat.beq r 76 then some (0, 6) else none))))) else (bif Nat.blt r 86 then (bif Nat.blt r 80 then (bif Nat.blt r 79 then (bif Nat.beq r 78 then some (0, 6) else none) else (bif Nat.beq r 79 then some (0, 6) else none)) else (bif Nat.blt r 82 then (bif Nat.beq r 80 then some (0, 6) else none) else (bif Nat.blt r 83 then (bif Nat.beq r 82 then some (0, 40) else none) else (bif Nat.beq r 83 then some (0, 6) else none)))) else (bif Nat.blt r 88 then (bif Nat.blt r 87 then (bif Nat.beq r 86 then some (0, 6) else none) else (bif Nat.beq r 87 then some (0, 6) else none)) else (bif Nat.blt r 89 then (bif Nat.beq r 88 then some (0, 6) else none) else (bif Nat.blt r 90 then (bif Nat.beq r 89 then some (0, 243) else none) else (bif Nat.beq r 90 then some (0, 243) else none)))))) else (bif Nat.blt r 104 then (bif Nat.blt r 97 then (bif Nat.blt r 93 then (bif Nat.blt r 92 then (bif Nat.beq r 91 then some (0, 243) else none) else (bif Nat.beq r 92 then some (0, 243) else none)) else (bif Nat.blt r 94 then (bif Nat.beq r 93 then some (0, 243) else none) else (bif Nat.blt r 96 then (bif Nat.beq r 94 then some (0, 216) else none) else (bif Nat.beq r 96 then some (0, 160) else none)))) else (bif Nat.blt r 100 then (bif Nat.blt r 99 then (bif Nat.beq r 97 then some (0, 160) else none) else (bif Nat.beq r 99 then some (0, 4) else none)) else (bif Nat.blt r 102 then (bif Nat.beq r 100 then some (0, 4) else none) else (bif Nat.blt r 103 then (bif Nat.beq r 102 then some (0, 7) else none) else (bif Nat.beq r 103 then some (0, 7) else none))))) else (bif Nat.blt r 109 then (bif Nat.blt r 106 then (bif Nat.blt r 105 then (bif Nat.beq r 104 then some (0, 7) else none) else (bif Nat.beq r 105 then some (0, 7) else none)) else (bif Nat.blt r 107 then (bif Nat.beq r 106 then some (0, 7) else none) else (bif Nat.blt r 108 then (bif Nat.beq r 107 then some (0, 7) else none) else (bif Nat.beq r 108 then some (0, 7) else none)))) else (bif Nat.blt r 111 then (bif Nat.blt r 110 then (bif Nat.beq r 109 then some (0, 7) else none) else (bif Nat.beq r 110 then some (0, 7) else none)) else (bif Nat.blt r 112 then (bif Nat.beq r 111 then some (0, 7) else none) else (bif Nat.blt r 113 then (bif Nat.beq r 112 then some (0, 7) else none) else (bif Nat.beq r 113 then some (0, 7) else none))))))) else (bif Nat.blt r 143 then (bif Nat.blt r 133 then (bif Nat.blt r 123 then (bif Nat.blt r 119 then (bif Nat.blt r 118 then (bif Nat.beq r 117 then some (0, 6) else none) else (bif Nat.beq r 118 then some (0, 6) else none)) else (bif Nat.blt r 120 then (bif Nat.beq r 119 then some (0, 6) else none) else (bif Nat.blt r 121 then (bif Nat.beq r 120 then some (0, 4) else none) else (bif Nat.beq r 121 then some (0, 4) else none)))) else (bif Nat.blt r 127 then (bif Nat.blt r 125 then (bif Nat.beq r 123 then some (0, 40) else none) else (bif Nat.beq r 125 then some (0, 40) else none)) else (bif Nat.blt r 129 then (bif Nat.beq r 127 then some (0, 40) else none) else (bif Nat.blt r 131 then (bif Nat.beq r 129 then some (0, 40) else none) else (bif Nat.beq r 131 then some (0, 9) else none))))) else (bif Nat.blt r 138 then (bif Nat.blt r 135 then (bif Nat.blt r 134 then (bif Nat.beq r 133 then some (0, 16) else none) else (bif Nat.beq r 134 then some (0, 4) else none)) else (bif Nat.blt r 136 then (bif Nat.beq r 135 then some (0, 6) else none) else (bif Nat.blt r 137 then (bif Nat.beq r 136 then some (0, 5) else none) else (bif Nat.beq r 137 then some (0, 5) else none)))) else (bif Nat.blt r 140 then (bif Nat.blt r 139 then (bif Nat.beq r 138 then some (0, 5) else none) else (bif Nat.beq r 139 then some (0, 30) else none)) else (bif Nat.blt r 141 then (bif Nat.beq r 140 then some (0, 12) else none) else (bif Nat.blt r 142 then (bif Nat.beq r 141 then some (0, 12) else none) else (bif Nat.beq r 142 then some (0, 60) else none)))))) else (bif Nat.blt r 153 then (bif Nat.blt r 148 then (bif Nat.blt r 145 then (bif Nat.blt r 144 then (bif Nat.beq r 143 then some (0, 160) else none) else (bif Nat.beq r 144 then some (0, 2880) else none)) else (bif Nat.blt r 146 then (bif Nat.beq r 145 then some (0, 18) else none) else (bif Nat.blt r 147 then (bif Nat.beq r 146 then some (2, 45) else none) else (bif Nat.beq r 147 then some (0, 13) else none)))) else (bif Nat.blt r 150 then (bif Nat.blt r 149 then (bif Nat.beq r 148 then some (0, 170) else none) else (bif Nat.beq r 149 then some (1, 8) else none)) else (bif Nat.blt r 151 then (bif Nat.beq r 150 then some (0, 170) else none) else (bif Nat.blt r 152 then (bif Nat.beq r 151 then some (0, 6) else none) else (bif Nat.beq r 152 then some (0, 5) else none))))) else (bif Nat.blt r 158 then (bif Nat.blt r 155 then (bif Nat.blt r 154 then (bif Nat.beq r 153 then some (0, 30) else none) else (bif Nat.beq r 154 then some (0, 1024) else none)) else (bif Nat.blt r 156 then (bif Nat.beq r 155 then some (0, 1024) else none) else (bif Nat.blt r 157 then (bif Nat.beq r 156 then some (0, 1024) else none) else (bif Nat.beq r 157 then some (0, 16) else none)))) else (bif Nat.blt r 161 then (bif Nat.blt r 159 then (bif Nat.beq r 158 then some (0, 4) else none) else (bif Nat.blt r 160 then (bif Nat.beq r 159 then some (0, 30) else none) else (bif Nat.beq r 160 then some (0, 4) else none))) else (bif Nat.blt r 162 then (bif Nat.beq r 161 then some (0, 4) else none) else (bif Nat.blt r 163 then (bif Nat.beq r 162 then some (0, 160) else none) else (bif Nat.beq r 163 then some (0, 40) else none))))))))
def ys_O (r : Nat) : Option (Nat × List yF) := (bif Nat.blt r 115 then (bif Nat.blt r 81 then (bif Nat.blt r 73 then (bif Nat.blt r 65 then (bif Nat.beq r 64 then some (8, [.inl 65, .inl 72, .inl 73, .inl 77, .inl 81, .inl 84, .inl 95, .inl 98, .inl 99, .inl 100, .inl 101, .inl 114, .inl 115, .inr (.inr true), .inr (.inr true), .inr (.inr true), .inr (.inr true)]) else none) else (bif Nat.beq r 65 then some (2, [.inl 66, .inl 67, .inl 68, .inr (.inr true), .inl 69, .inl 70, .inl 71, .inr (.inr true)]) else none)) else (bif Nat.blt r 77 then (bif Nat.beq r 73 then some (1, [.inl 74, .inl 75, .inl 76]) else none) else (bif Nat.beq r 77 then some (1, [.inl 78, .inl 79, .inl 80]) else none))) else (bif Nat.blt r 85 then (bif Nat.blt r 84 then (bif Nat.beq r 81 then some (6, [.inl 65, .inl 72, .inl 82, .inl 83, .inr (.inr false), .inr (.inr true)]) else none) else (bif Nat.beq r 84 then some (3, [.inr (.inr true), .inr (.inr true), .inl 65, .inl 81, .inl 73, .inl 85, .inl 89, .inl 90, .inl 91, .inl 92, .inl 93, .inr (.inr true), .inl 94, .inr (.inr true), .inr (.inr true)]) else none)) else (bif Nat.blt r 95 then (bif Nat.beq r 85 then some (1, [.inl 86, .inl 87, .inl 88]) else none) else (bif Nat.beq r 95 then some (4, [.inl 96, .inr (.inr true), .inr (.inr true), .inl 97, .inr (.inr true), .inr (.inr true), .inr (.inr true), .inr (.inr true), .inr (.inr true)]) else none)))) else (bif Nat.blt r 126 then (bif Nat.blt r 122 then (bif Nat.blt r 116 then (bif Nat.beq r 115 then some (0, [.inl 116, .inl 120, .inl 121, .inr (.inr true), .inr (.inr true), .inr (.inr true), .inr (.inr true)]) else none) else (bif Nat.beq r 116 then some (1, [.inl 117, .inl 118, .inl 119]) else none)) else (bif Nat.blt r 124 then (bif Nat.beq r 122 then some (5, [.inl 123, .inr (.inr true), .inr (.inr true)]) else none) else (bif Nat.beq r 124 then some (5, [.inl 125, .inr (.inr true), .inr (.inr true)]) else none))) else (bif Nat.blt r 130 then (bif Nat.blt r 128 then (bif Nat.beq r 126 then some (5, [.inl 127, .inr (.inr true), .inr (.inr true)]) else none) else (bif Nat.beq r 128 then some (5, [.inl 129, .inr (.inr true), .inr (.inr true)]) else none)) else (bif Nat.blt r 132 then (bif Nat.beq r 130 then some (7, [.inl 131, .inr (.inl 7), .inr (.inl 8)]) else none) else (bif Nat.beq r 132 then some (9, [.inl 133, .inl 134, .inr (.inr true), .inl 135, .inr (.inr true), .inl 136, .inl 137, .inl 138, .inl 139, .inr (.inr true), .inl 140, .inl 141, .inl 142, .inl 143, .inr (.inr true), .inr (.inr true), .inr (.inr true), .inl 144, .inl 145, .inr (.inr true), .inr (.inr true), .inr (.inr true), .inr (.inr true), .inl 146, .inl 147, .inl 148, .inr (.inr true), .inr (.inr true), .inr (.inr true), .inl 149, .inr (.inr true), .inr (.inr true), .inl 150, .inl 151, .inl 152, .inr (.inr true), .inr (.inr true), .inl 153, .inl 154, .inl 155, .inl 156, .inr (.inr true), .inr (.inr true), .inr (.inr true), .inl 157, .inl 158, .inl 159, .inr (.inr true), .inr (.inr true), .inr (.inr true), .inr (.inr true), .inl 160, .inl 161, .inl 162, .inl 163]) else none)))))
def ys_R (tx : List xh_T) (r : Nat) : Option (Nat × Nat × (Nat → Option Nat)) := (bif Nat.blt r 101 then (bif Nat.beq r 98 then some (5, 6, (xh_tr tx.length)) else none) else (bif Nat.blt r 114 then (bif Nat.beq r 101 then some (3, 12, (fun i => if i < 12 then some (102 + i) else none)) else none) else (bif Nat.beq r 114 then some (4, 4, xh_sh) else none)))
theorem ya_66 (A V : Nat → Nat → Int32) (tx : List xh_T) (cu : Value) : (xh A V tx cu)[2]? = some (.inl (0, 5, .inl (A 66))) ∧ ∀ f, (xh A V tx cu).set 2 (.inl (0, 5, .inl f)) = xh (va_up A 66 f) V tx cu := ⟨rfl, fun _ => rfl⟩
theorem ya_67 (A V : Nat → Nat → Int32) (tx : List xh_T) (cu : Value) : (xh A V tx cu)[3]? = some (.inl (0, 5, .inl (A 67))) ∧ ∀ f, (xh A V tx cu).set 3 (.inl (0, 5, .inl f)) = xh (va_up A 67 f) V tx cu := ⟨rfl, fun _ => rfl⟩
theorem ya_68 (A V : Nat → Nat → Int32) (tx : List xh_T) (cu : Value) : (xh A V tx cu)[4]? = some (.inl (0, 5, .inl (A 68))) ∧ ∀ f, (xh A V tx cu).set 4 (.inl (0, 5, .inl f)) = xh (va_up A 68 f) V tx cu := ⟨rfl, fun _ => rfl⟩
theorem ya_69 (A V : Nat → Nat → Int32) (tx : List xh_T) (cu : Value) : (xh A V tx cu)[5]? = some (.inl (0, 6, .inl (A 69))) ∧ ∀ f, (xh A V tx cu).set 5 (.inl (0, 6, .inl f)) = xh (va_up A 69 f) V tx cu := ⟨rfl, fun _ => rfl⟩
theorem ya_70 (A V : Nat → Nat → Int32) (tx : List xh_T) (cu : Value) : (xh A V tx cu)[6]? = some (.inl (0, 4, .inl (A 70))) ∧ ∀ f, (xh A V tx cu).set 6 (.inl (0, 4, .inl f)) = xh (va_up A 70 f) V tx cu := ⟨rfl, fun _ => rfl⟩
theorem ya_71 (A V : Nat → Nat → Int32) (tx : List xh_T) (cu : Value) : (xh A V tx cu)[7]? = some (.inl (0, 4, .inl (A 71))) ∧ ∀ f, (xh A V tx cu).set 7 (.inl (0, 4, .inl f)) = xh (va_up A 71 f) V tx cu := ⟨rfl, fun _ => rfl⟩
theorem ya_72 (A V : Nat → Nat → Int32) (tx : List xh_T) (cu : Value) : (xh A V tx cu)[8]? = some (.inl (0, 6, .inl (A 72))) ∧ ∀ f, (xh A V tx cu).set 8 (.inl (0, 6, .inl f)) = xh (va_up A 72 f) V tx cu := ⟨rfl, fun _ => rfl⟩
theorem ya_74 (A V : Nat → Nat → Int32) (tx : List xh_T) (cu : Value) : (xh A V tx cu)[10]? = some (.inl (0, 6, .inl (A 74))) ∧ ∀ f, (xh A V tx cu).set 10 (.inl (0, 6, .inl f)) = xh (va_up A 74 f) V tx cu := ⟨rfl, fun _ => rfl⟩
theorem ya_75 (A V : Nat → Nat → Int32) (tx : List xh_T) (cu : Value) : (xh A V tx cu)[11]? = some (.inl (0, 6, .inl (A 75))) ∧ ∀ f, (xh A V tx cu).set 11 (.inl (0, 6, .inl f)) = xh (va_up A 75 f) V tx cu := ⟨rfl, fun _ => rfl⟩
theorem ya_76 (A V : Nat → Nat → Int32) (tx : List xh_T) (cu : Value) : (xh A V tx cu)[12]? = some (.inl (0, 6, .inl (A 76))) ∧ ∀ f, (xh A V tx cu).set 12 (.inl (0, 6, .inl f)) = xh (va_up A 76 f) V tx cu := ⟨rfl, fun _ => rfl⟩
theorem ya_78 (A V : Nat → Nat → Int32) (tx : List xh_T) (cu : Value) : (xh A V tx cu)[14]? = some (.inl (0, 6, .inl (A 78))) ∧ ∀ f, (xh A V tx cu).set 14 (.inl (0, 6, .inl f)) = xh (va_up A 78 f) V tx cu := ⟨rfl, fun _ => rfl⟩
theorem ya_79 (A V : Nat → Nat → Int32) (tx : List xh_T) (cu : Value) : (xh A V tx cu)[15]? = some (.inl (0, 6, .inl (A 79))) ∧ ∀ f, (xh A V tx cu).set 15 (.inl (0, 6, .inl f)) = xh (va_up A 79 f) V tx cu := ⟨rfl, fun _ => rfl⟩
theorem ya_80 (A V : Nat → Nat → Int32) (tx : List xh_T) (cu : Value) : (xh A V tx cu)[16]? = some (.inl (0, 6, .inl (A 80))) ∧ ∀ f, (xh A V tx cu).set 16 (.inl (0, 6, .inl f)) = xh (va_up A 80 f) V tx cu := ⟨rfl, fun _ => rfl⟩
theorem ya_82 (A V : Nat → Nat → Int32) (tx : List xh_T) (cu : Value) : (xh A V tx cu)[18]? = some (.inl (0, 40, .inl (A 82))) ∧ ∀ f, (xh A V tx cu).set 18 (.inl (0, 40, .inl f)) = xh (va_up A 82 f) V tx cu := ⟨rfl, fun _ => rfl⟩
theorem ya_83 (A V : Nat → Nat → Int32) (tx : List xh_T) (cu : Value) : (xh A V tx cu)[19]? = some (.inl (0, 6, .inl (A 83))) ∧ ∀ f, (xh A V tx cu).set 19 (.inl (0, 6, .inl f)) = xh (va_up A 83 f) V tx cu := ⟨rfl, fun _ => rfl⟩
theorem ya_86 (A V : Nat → Nat → Int32) (tx : List xh_T) (cu : Value) : (xh A V tx cu)[22]? = some (.inl (0, 6, .inl (A 86))) ∧ ∀ f, (xh A V tx cu).set 22 (.inl (0, 6, .inl f)) = xh (va_up A 86 f) V tx cu := ⟨rfl, fun _ => rfl⟩
theorem ya_87 (A V : Nat → Nat → Int32) (tx : List xh_T) (cu : Value) : (xh A V tx cu)[23]? = some (.inl (0, 6, .inl (A 87))) ∧ ∀ f, (xh A V tx cu).set 23 (.inl (0, 6, .inl f)) = xh (va_up A 87 f) V tx cu := ⟨rfl, fun _ => rfl⟩
theorem ya_88 (A V : Nat → Nat → Int32) (tx : List xh_T) (cu : Value) : (xh A V tx cu)[24]? = some (.inl (0, 6, .inl (A 88))) ∧ ∀ f, (xh A V tx cu).set 24 (.inl (0, 6, .inl f)) = xh (va_up A 88 f) V tx cu := ⟨rfl, fun _ => rfl⟩
theorem ya_89 (A V : Nat → Nat → Int32) (tx : List xh_T) (cu : Value) : (xh A V tx cu)[25]? = some (.inl (0, 243, .inl (A 89))) ∧ ∀ f, (xh A V tx cu).set 25 (.inl (0, 243, .inl f)) = xh (va_up A 89 f) V tx cu := ⟨rfl, fun _ => rfl⟩
theorem ya_90 (A V : Nat → Nat → Int32) (tx : List xh_T) (cu : Value) : (xh A V tx cu)[26]? = some (.inl (0, 243, .inl (A 90))) ∧ ∀ f, (xh A V tx cu).set 26 (.inl (0, 243, .inl f)) = xh (va_up A 90 f) V tx cu := ⟨rfl, fun _ => rfl⟩
theorem ya_91 (A V : Nat → Nat → Int32) (tx : List xh_T) (cu : Value) : (xh A V tx cu)[27]? = some (.inl (0, 243, .inl (A 91))) ∧ ∀ f, (xh A V tx cu).set 27 (.inl (0, 243, .inl f)) = xh (va_up A 91 f) V tx cu := ⟨rfl, fun _ => rfl⟩
theorem ya_92 (A V : Nat → Nat → Int32) (tx : List xh_T) (cu : Value) : (xh A V tx cu)[28]? = some (.inl (0, 243, .inl (A 92))) ∧ ∀ f, (xh A V tx cu).set 28 (.inl (0, 243, .inl f)) = xh (va_up A 92 f) V tx cu := ⟨rfl, fun _ => rfl⟩
theorem ya_93 (A V : Nat → Nat → Int32) (tx : List xh_T) (cu : Value) : (xh A V tx cu)[29]? = some (.inl (0, 243, .inl (A 93))) ∧ ∀ f, (xh A V tx cu).set 29 (.inl (0, 243, .inl f)) = xh (va_up A 93 f) V tx cu := ⟨rfl, fun _ => rfl⟩
theorem ya_94 (A V : Nat → Nat → Int32) (tx : List xh_T) (cu : Value) : (xh A V tx cu)[30]? = some (.inl (0, 216, .inl (A 94))) ∧ ∀ f, (xh A V tx cu).set 30 (.inl (0, 216, .inl f)) = xh (va_up A 94 f) V tx cu := ⟨rfl, fun _ => rfl⟩
theorem ya_96 (A V : Nat → Nat → Int32) (tx : List xh_T) (cu : Value) : (xh A V tx cu)[32]? = some (.inl (0, 160, .inl (A 96))) ∧ ∀ f, (xh A V tx cu).set 32 (.inl (0, 160, .inl f)) = xh (va_up A 96 f) V tx cu := ⟨rfl, fun _ => rfl⟩
theorem ya_97 (A V : Nat → Nat → Int32) (tx : List xh_T) (cu : Value) : (xh A V tx cu)[33]? = some (.inl (0, 160, .inl (A 97))) ∧ ∀ f, (xh A V tx cu).set 33 (.inl (0, 160, .inl f)) = xh (va_up A 97 f) V tx cu := ⟨rfl, fun _ => rfl⟩
theorem ya_99 (A V : Nat → Nat → Int32) (tx : List xh_T) (cu : Value) : (xh A V tx cu)[35]? = some (.inl (0, 4, .inl (A 99))) ∧ ∀ f, (xh A V tx cu).set 35 (.inl (0, 4, .inl f)) = xh (va_up A 99 f) V tx cu := ⟨rfl, fun _ => rfl⟩
theorem ya_100 (A V : Nat → Nat → Int32) (tx : List xh_T) (cu : Value) : (xh A V tx cu)[36]? = some (.inl (0, 4, .inl (A 100))) ∧ ∀ f, (xh A V tx cu).set 36 (.inl (0, 4, .inl f)) = xh (va_up A 100 f) V tx cu := ⟨rfl, fun _ => rfl⟩
theorem ya_102 (A V : Nat → Nat → Int32) (tx : List xh_T) (cu : Value) : (xh A V tx cu)[38]? = some (.inl (0, 7, .inl (A 102))) ∧ ∀ f, (xh A V tx cu).set 38 (.inl (0, 7, .inl f)) = xh (va_up A 102 f) V tx cu := ⟨rfl, fun _ => rfl⟩
theorem ya_103 (A V : Nat → Nat → Int32) (tx : List xh_T) (cu : Value) : (xh A V tx cu)[39]? = some (.inl (0, 7, .inl (A 103))) ∧ ∀ f, (xh A V tx cu).set 39 (.inl (0, 7, .inl f)) = xh (va_up A 103 f) V tx cu := ⟨rfl, fun _ => rfl⟩
theorem ya_104 (A V : Nat → Nat → Int32) (tx : List xh_T) (cu : Value) : (xh A V tx cu)[40]? = some (.inl (0, 7, .inl (A 104))) ∧ ∀ f, (xh A V tx cu).set 40 (.inl (0, 7, .inl f)) = xh (va_up A 104 f) V tx cu := ⟨rfl, fun _ => rfl⟩
theorem ya_105 (A V : Nat → Nat → Int32) (tx : List xh_T) (cu : Value) : (xh A V tx cu)[41]? = some (.inl (0, 7, .inl (A 105))) ∧ ∀ f, (xh A V tx cu).set 41 (.inl (0, 7, .inl f)) = xh (va_up A 105 f) V tx cu := ⟨rfl, fun _ => rfl⟩
theorem ya_106 (A V : Nat → Nat → Int32) (tx : List xh_T) (cu : Value) : (xh A V tx cu)[42]? = some (.inl (0, 7, .inl (A 106))) ∧ ∀ f, (xh A V tx cu).set 42 (.inl (0, 7, .inl f)) = xh (va_up A 106 f) V tx cu := ⟨rfl, fun _ => rfl⟩
theorem ya_107 (A V : Nat → Nat → Int32) (tx : List xh_T) (cu : Value) : (xh A V tx cu)[43]? = some (.inl (0, 7, .inl (A 107))) ∧ ∀ f, (xh A V tx cu).set 43 (.inl (0, 7, .inl f)) = xh (va_up A 107 f) V tx cu := ⟨rfl, fun _ => rfl⟩
theorem ya_108 (A V : Nat → Nat → Int32) (tx : List xh_T) (cu : Value) : (xh A V tx cu)[44]? = some (.inl (0, 7, .inl (A 108))) ∧ ∀ f, (xh A V tx cu).set 44 (.inl (0, 7, .inl f)) = xh (va_up A 108 f) V tx cu := ⟨rfl, fun _ => rfl⟩
theorem ya_109 (A V : Nat → Nat → Int32) (tx : List xh_T) (cu : Value) : (xh A V tx cu)[45]? = some (.inl (0, 7, .inl (A 109))) ∧ ∀ f, (xh A V tx cu).set 45 (.inl (0, 7, .inl f)) = xh (va_up A 109 f) V tx cu := ⟨rfl, fun _ => rfl⟩
theorem ya_110 (A V : Nat → Nat → Int32) (tx : List xh_T) (cu : Value) : (xh A V tx cu)[46]? = some (.inl (0, 7, .inl (A 110))) ∧ ∀ f, (xh A V tx cu).set 46 (.inl (0, 7, .inl f)) = xh (va_up A 110 f) V tx cu := ⟨rfl, fun _ => rfl⟩
theorem ya_111 (A V : Nat → Nat → Int32) (tx : List xh_T) (cu : Value) : (xh A V tx cu)[47]? = some (.inl (0, 7, .inl (A 111))) ∧ ∀ f, (xh A V tx cu).set 47 (.inl (0, 7, .inl f)) = xh (va_up A 111 f) V tx cu := ⟨rfl, fun _ => rfl⟩
theorem ya_112 (A V : Nat → Nat → Int32) (tx : List xh_T) (cu : Value) : (xh A V tx cu)[48]? = some (.inl (0, 7, .inl (A 112))) ∧ ∀ f, (xh A V tx cu).set 48 (.inl (0, 7, .inl f)) = xh (va_up A 112 f) V tx cu := ⟨rfl, fun _ => rfl⟩
theorem ya_113 (A V : Nat → Nat → Int32) (tx : List xh_T) (cu : Value) : (xh A V tx cu)[49]? = some (.inl (0, 7, .inl (A 113))) ∧ ∀ f, (xh A V tx cu).set 49 (.inl (0, 7, .inl f)) = xh (va_up A 113 f) V tx cu := ⟨rfl, fun _ => rfl⟩
theorem ya_117 (A V : Nat → Nat → Int32) (tx : List xh_T) (cu : Value) : (xh A V tx cu)[53]? = some (.inl (0, 6, .inl (A 117))) ∧ ∀ f, (xh A V tx cu).set 53 (.inl (0, 6, .inl f)) = xh (va_up A 117 f) V tx cu := ⟨rfl, fun _ => rfl⟩
theorem ya_118 (A V : Nat → Nat → Int32) (tx : List xh_T) (cu : Value) : (xh A V tx cu)[54]? = some (.inl (0, 6, .inl (A 118))) ∧ ∀ f, (xh A V tx cu).set 54 (.inl (0, 6, .inl f)) = xh (va_up A 118 f) V tx cu := ⟨rfl, fun _ => rfl⟩
theorem ya_119 (A V : Nat → Nat → Int32) (tx : List xh_T) (cu : Value) : (xh A V tx cu)[55]? = some (.inl (0, 6, .inl (A 119))) ∧ ∀ f, (xh A V tx cu).set 55 (.inl (0, 6, .inl f)) = xh (va_up A 119 f) V tx cu := ⟨rfl, fun _ => rfl⟩
theorem ya_120 (A V : Nat → Nat → Int32) (tx : List xh_T) (cu : Value) : (xh A V tx cu)[56]? = some (.inl (0, 4, .inl (A 120))) ∧ ∀ f, (xh A V tx cu).set 56 (.inl (0, 4, .inl f)) = xh (va_up A 120 f) V tx cu := ⟨rfl, fun _ => rfl⟩
theorem ya_121 (A V : Nat → Nat → Int32) (tx : List xh_T) (cu : Value) : (xh A V tx cu)[57]? = some (.inl (0, 4, .inl (A 121))) ∧ ∀ f, (xh A V tx cu).set 57 (.inl (0, 4, .inl f)) = xh (va_up A 121 f) V tx cu := ⟨rfl, fun _ => rfl⟩
theorem ya_123 (A V : Nat → Nat → Int32) (tx : List xh_T) (cu : Value) : (xh A V tx cu)[59]? = some (.inl (0, 40, .inl (A 123))) ∧ ∀ f, (xh A V tx cu).set 59 (.inl (0, 40, .inl f)) = xh (va_up A 123 f) V tx cu := ⟨rfl, fun _ => rfl⟩
theorem ya_125 (A V : Nat → Nat → Int32) (tx : List xh_T) (cu : Value) : (xh A V tx cu)[61]? = some (.inl (0, 40, .inl (A 125))) ∧ ∀ f, (xh A V tx cu).set 61 (.inl (0, 40, .inl f)) = xh (va_up A 125 f) V tx cu := ⟨rfl, fun _ => rfl⟩
theorem ya_127 (A V : Nat → Nat → Int32) (tx : List xh_T) (cu : Value) : (xh A V tx cu)[63]? = some (.inl (0, 40, .inl (A 127))) ∧ ∀ f, (xh A V tx cu).set 63 (.inl (0, 40, .inl f)) = xh (va_up A 127 f) V tx cu := ⟨rfl, fun _ => rfl⟩
theorem ya_129 (A V : Nat → Nat → Int32) (tx : List xh_T) (cu : Value) : (xh A V tx cu)[65]? = some (.inl (0, 40, .inl (A 129))) ∧ ∀ f, (xh A V tx cu).set 65 (.inl (0, 40, .inl f)) = xh (va_up A 129 f) V tx cu := ⟨rfl, fun _ => rfl⟩
theorem ya_131 (A V : Nat → Nat → Int32) (tx : List xh_T) (cu : Value) : (xh A V tx cu)[67]? = some (.inl (0, 9, .inl (A 131))) ∧ ∀ f, (xh A V tx cu).set 67 (.inl (0, 9, .inl f)) = xh (va_up A 131 f) V tx cu := ⟨rfl, fun _ => rfl⟩
theorem ya_133 (A V : Nat → Nat → Int32) (tx : List xh_T) (cu : Value) : (xh A V tx cu)[69]? = some (.inl (0, 16, .inl (A 133))) ∧ ∀ f, (xh A V tx cu).set 69 (.inl (0, 16, .inl f)) = xh (va_up A 133 f) V tx cu := ⟨rfl, fun _ => rfl⟩
theorem ya_134 (A V : Nat → Nat → Int32) (tx : List xh_T) (cu : Value) : (xh A V tx cu)[70]? = some (.inl (0, 4, .inl (A 134))) ∧ ∀ f, (xh A V tx cu).set 70 (.inl (0, 4, .inl f)) = xh (va_up A 134 f) V tx cu := ⟨rfl, fun _ => rfl⟩
theorem ya_135 (A V : Nat → Nat → Int32) (tx : List xh_T) (cu : Value) : (xh A V tx cu)[71]? = some (.inl (0, 6, .inl (A 135))) ∧ ∀ f, (xh A V tx cu).set 71 (.inl (0, 6, .inl f)) = xh (va_up A 135 f) V tx cu := ⟨rfl, fun _ => rfl⟩
theorem ya_136 (A V : Nat → Nat → Int32) (tx : List xh_T) (cu : Value) : (xh A V tx cu)[72]? = some (.inl (0, 5, .inl (A 136))) ∧ ∀ f, (xh A V tx cu).set 72 (.inl (0, 5, .inl f)) = xh (va_up A 136 f) V tx cu := ⟨rfl, fun _ => rfl⟩
theorem ya_137 (A V : Nat → Nat → Int32) (tx : List xh_T) (cu : Value) : (xh A V tx cu)[73]? = some (.inl (0, 5, .inl (A 137))) ∧ ∀ f, (xh A V tx cu).set 73 (.inl (0, 5, .inl f)) = xh (va_up A 137 f) V tx cu := ⟨rfl, fun _ => rfl⟩
theorem ya_138 (A V : Nat → Nat → Int32) (tx : List xh_T) (cu : Value) : (xh A V tx cu)[74]? = some (.inl (0, 5, .inl (A 138))) ∧ ∀ f, (xh A V tx cu).set 74 (.inl (0, 5, .inl f)) = xh (va_up A 138 f) V tx cu := ⟨rfl, fun _ => rfl⟩
theorem ya_139 (A V : Nat → Nat → Int32) (tx : List xh_T) (cu : Value) : (xh A V tx cu)[75]? = some (.inl (0, 30, .inl (A 139))) ∧ ∀ f, (xh A V tx cu).set 75 (.inl (0, 30, .inl f)) = xh (va_up A 139 f) V tx cu := ⟨rfl, fun _ => rfl⟩
theorem ya_140 (A V : Nat → Nat → Int32) (tx : List xh_T) (cu : Value) : (xh A V tx cu)[76]? = some (.inl (0, 12, .inl (A 140))) ∧ ∀ f, (xh A V tx cu).set 76 (.inl (0, 12, .inl f)) = xh (va_up A 140 f) V tx cu := ⟨rfl, fun _ => rfl⟩
theorem ya_141 (A V : Nat → Nat → Int32) (tx : List xh_T) (cu : Value) : (xh A V tx cu)[77]? = some (.inl (0, 12, .inl (A 141))) ∧ ∀ f, (xh A V tx cu).set 77 (.inl (0, 12, .inl f)) = xh (va_up A 141 f) V tx cu := ⟨rfl, fun _ => rfl⟩
theorem ya_142 (A V : Nat → Nat → Int32) (tx : List xh_T) (cu : Value) : (xh A V tx cu)[78]? = some (.inl (0, 60, .inl (A 142))) ∧ ∀ f, (xh A V tx cu).set 78 (.inl (0, 60, .inl f)) = xh (va_up A 142 f) V tx cu := ⟨rfl, fun _ => rfl⟩
theorem ya_143 (A V : Nat → Nat → Int32) (tx : List xh_T) (cu : Value) : (xh A V tx cu)[79]? = some (.inl (0, 160, .inl (A 143))) ∧ ∀ f, (xh A V tx cu).set 79 (.inl (0, 160, .inl f)) = xh (va_up A 143 f) V tx cu := ⟨rfl, fun _ => rfl⟩
theorem ya_144 (A V : Nat → Nat → Int32) (tx : List xh_T) (cu : Value) : (xh A V tx cu)[80]? = some (.inl (0, 2880, .inl (A 144))) ∧ ∀ f, (xh A V tx cu).set 80 (.inl (0, 2880, .inl f)) = xh (va_up A 144 f) V tx cu := ⟨rfl, fun _ => rfl⟩
theorem ya_145 (A V : Nat → Nat → Int32) (tx : List xh_T) (cu : Value) : (xh A V tx cu)[81]? = some (.inl (0, 18, .inl (A 145))) ∧ ∀ f, (xh A V tx cu).set 81 (.inl (0, 18, .inl f)) = xh (va_up A 145 f) V tx cu := ⟨rfl, fun _ => rfl⟩
theorem ya_146 (A V : Nat → Nat → Int32) (tx : List xh_T) (cu : Value) : (xh A V tx cu)[82]? = some (.inl (2, 45, .inl (A 146))) ∧ ∀ f, (xh A V tx cu).set 82 (.inl (2, 45, .inl f)) = xh (va_up A 146 f) V tx cu := ⟨rfl, fun _ => rfl⟩
theorem ya_147 (A V : Nat → Nat → Int32) (tx : List xh_T) (cu : Value) : (xh A V tx cu)[83]? = some (.inl (0, 13, .inl (A 147))) ∧ ∀ f, (xh A V tx cu).set 83 (.inl (0, 13, .inl f)) = xh (va_up A 147 f) V tx cu := ⟨rfl, fun _ => rfl⟩
theorem ya_148 (A V : Nat → Nat → Int32) (tx : List xh_T) (cu : Value) : (xh A V tx cu)[84]? = some (.inl (0, 170, .inl (A 148))) ∧ ∀ f, (xh A V tx cu).set 84 (.inl (0, 170, .inl f)) = xh (va_up A 148 f) V tx cu := ⟨rfl, fun _ => rfl⟩
theorem ya_149 (A V : Nat → Nat → Int32) (tx : List xh_T) (cu : Value) : (xh A V tx cu)[85]? = some (.inl (1, 8, .inl (A 149))) ∧ ∀ f, (xh A V tx cu).set 85 (.inl (1, 8, .inl f)) = xh (va_up A 149 f) V tx cu := ⟨rfl, fun _ => rfl⟩
theorem ya_150 (A V : Nat → Nat → Int32) (tx : List xh_T) (cu : Value) : (xh A V tx cu)[86]? = some (.inl (0, 170, .inl (A 150))) ∧ ∀ f, (xh A V tx cu).set 86 (.inl (0, 170, .inl f)) = xh (va_up A 150 f) V tx cu := ⟨rfl, fun _ => rfl⟩
theorem ya_151 (A V : Nat → Nat → Int32) (tx : List xh_T) (cu : Value) : (xh A V tx cu)[87]? = some (.inl (0, 6, .inl (A 151))) ∧ ∀ f, (xh A V tx cu).set 87 (.inl (0, 6, .inl f)) = xh (va_up A 151 f) V tx cu := ⟨rfl, fun _ => rfl⟩
theorem ya_152 (A V : Nat → Nat → Int32) (tx : List xh_T) (cu : Value) : (xh A V tx cu)[88]? = some (.inl (0, 5, .inl (A 152))) ∧ ∀ f, (xh A V tx cu).set 88 (.inl (0, 5, .inl f)) = xh (va_up A 152 f) V tx cu := ⟨rfl, fun _ => rfl⟩
theorem ya_153 (A V : Nat → Nat → Int32) (tx : List xh_T) (cu : Value) : (xh A V tx cu)[89]? = some (.inl (0, 30, .inl (A 153))) ∧ ∀ f, (xh A V tx cu).set 89 (.inl (0, 30, .inl f)) = xh (va_up A 153 f) V tx cu := ⟨rfl, fun _ => rfl⟩
theorem ya_154 (A V : Nat → Nat → Int32) (tx : List xh_T) (cu : Value) : (xh A V tx cu)[90]? = some (.inl (0, 1024, .inl (A 154))) ∧ ∀ f, (xh A V tx cu).set 90 (.inl (0, 1024, .inl f)) = xh (va_up A 154 f) V tx cu := ⟨rfl, fun _ => rfl⟩
theorem ya_155 (A V : Nat → Nat → Int32) (tx : List xh_T) (cu : Value) : (xh A V tx cu)[91]? = some (.inl (0, 1024, .inl (A 155))) ∧ ∀ f, (xh A V tx cu).set 91 (.inl (0, 1024, .inl f)) = xh (va_up A 155 f) V tx cu := ⟨rfl, fun _ => rfl⟩
theorem ya_156 (A V : Nat → Nat → Int32) (tx : List xh_T) (cu : Value) : (xh A V tx cu)[92]? = some (.inl (0, 1024, .inl (A 156))) ∧ ∀ f, (xh A V tx cu).set 92 (.inl (0, 1024, .inl f)) = xh (va_up A 156 f) V tx cu := ⟨rfl, fun _ => rfl⟩
theorem ya_157 (A V : Nat → Nat → Int32) (tx : List xh_T) (cu : Value) : (xh A V tx cu)[93]? = some (.inl (0, 16, .inl (A 157))) ∧ ∀ f, (xh A V tx cu).set 93 (.inl (0, 16, .inl f)) = xh (va_up A 157 f) V tx cu := ⟨rfl, fun _ => rfl⟩
theorem ya_158 (A V : Nat → Nat → Int32) (tx : List xh_T) (cu : Value) : (xh A V tx cu)[94]? = some (.inl (0, 4, .inl (A 158))) ∧ ∀ f, (xh A V tx cu).set 94 (.inl (0, 4, .inl f)) = xh (va_up A 158 f) V tx cu := ⟨rfl, fun _ => rfl⟩
theorem ya_159 (A V : Nat → Nat → Int32) (tx : List xh_T) (cu : Value) : (xh A V tx cu)[95]? = some (.inl (0, 30, .inl (A 159))) ∧ ∀ f, (xh A V tx cu).set 95 (.inl (0, 30, .inl f)) = xh (va_up A 159 f) V tx cu := ⟨rfl, fun _ => rfl⟩
theorem ya_160 (A V : Nat → Nat → Int32) (tx : List xh_T) (cu : Value) : (xh A V tx cu)[96]? = some (.inl (0, 4, .inl (A 160))) ∧ ∀ f, (xh A V tx cu).set 96 (.inl (0, 4, .inl f)) = xh (va_up A 160 f) V tx cu := ⟨rfl, fun _ => rfl⟩
theorem ya_161 (A V : Nat → Nat → Int32) (tx : List xh_T) (cu : Value) : (xh A V tx cu)[97]? = some (.inl (0, 4, .inl (A 161))) ∧ ∀ f, (xh A V tx cu).set 97 (.inl (0, 4, .inl f)) = xh (va_up A 161 f) V tx cu := ⟨rfl, fun _ => rfl⟩
theorem ya_162 (A V : Nat → Nat → Int32) (tx : List xh_T) (cu : Value) : (xh A V tx cu)[98]? = some (.inl (0, 160, .inl (A 162))) ∧ ∀ f, (xh A V tx cu).set 98 (.inl (0, 160, .inl f)) = xh (va_up A 162 f) V tx cu := ⟨rfl, fun _ => rfl⟩
theorem ya_163 (A V : Nat → Nat → Int32) (tx : List xh_T) (cu : Value) : (xh A V tx cu)[99]? = some (.inl (0, 40, .inl (A 163))) ∧ ∀ f, (xh A V tx cu).set 99 (.inl (0, 40, .inl f)) = xh (va_up A 163 f) V tx cu := ⟨rfl, fun _ => rfl⟩
def ya_ok (r : Nat) : Prop := ∀ k n, ys_A r = some (k, n) → 64 ≤ r ∧ ∀ (A V : Nat → Nat → Int32) (tx : List xh_T) (cu : Value), (xh A V tx cu)[r - 64]? = some (.inl (k, n, .inl (A r))) ∧ ∀ f, (xh A V tx cu).set (r - 64) (.inl (k, n, .inl f)) = xh (va_up A r f) V tx cu
theorem ya_all (r : Nat) : ya_ok r := by
  intro k n e
  unfold ys_A at e
  cases q : Nat.blt r 117 with
  | true =>
    rw [q, cond_true] at e
    cases q : Nat.blt r 91 with
    | true =>
      rw [q, cond_true] at e
      cases q : Nat.blt r 78 with
      | true =>
        rw [q, cond_true] at e
        cases q : Nat.blt r 71 with
        | true =>
          rw [q, cond_true] at e
          cases q : Nat.blt r 68 with
          | true =>
            rw [q, cond_true] at e
            cases q : Nat.blt r 67 with
            | true =>
              rw [q, cond_true] at e
              cases q : Nat.beq r 66 with
              | true => have q := Nat.eq_of_beq_eq_true q; subst q; exact (by cases e; exact ⟨by decide, ya_66⟩)
              | false => rw [q] at e; cases e
            | false =>
              rw [q, cond_false] at e
              cases q : Nat.beq r 67 with
              | true => have q := Nat.eq_of_beq_eq_true q; subst q; exact (by cases e; exact ⟨by decide, ya_67⟩)
              | false => rw [q] at e; cases e
          | false =>
            rw [q, cond_false] at e
            cases q : Nat.blt r 69 with
            | true =>
              rw [q, cond_true] at e
              cases q : Nat.beq r 68 with
              | true => have q := Nat.eq_of_beq_eq_true q; subst q; exact (by cases e; exact ⟨by decide, ya_68⟩)
              | false => rw [q] at e; cases e
            | false =>
              rw [q, cond_false] at e
              cases q : Nat.blt r 70 with
              | true =>
                rw [q, cond_true] at e
                cases q : Nat.beq r 69 with
                | true => have q := Nat.eq_of_beq_eq_true q; subst q; exact (by cases e; exact ⟨by decide, ya_69⟩)
                | false => rw [q] at e; cases e
              | false =>
                rw [q, cond_false] at e
                cases q : Nat.beq r 70 with
                | true => have q := Nat.eq_of_beq_eq_true q; subst q; exact (by cases e; exact ⟨by decide, ya_70⟩)
                | false => rw [q] at e; cases e
        | false =>
          rw [q, cond_false] at e
          cases q : Nat.blt r 74 with
          | true =>
            rw [q, cond_true] at e
            cases q : Nat.blt r 72 with
            | true =>
              rw [q, cond_true] at e
              cases q : Nat.beq r 71 with
              | true => have q := Nat.eq_of_beq_eq_true q; subst q; exact (by cases e; exact ⟨by decide, ya_71⟩)
              | false => rw [q] at e; cases e
            | false =>
              rw [q, cond_false] at e
              cases q : Nat.beq r 72 with
              | true => have q := Nat.eq_of_beq_eq_true q; subst q; exact (by cases e; exact ⟨by decide, ya_72⟩)
              | false => rw [q] at e; cases e
          | false =>
            rw [q, cond_false] at e
            cases q : Nat.blt r 75 with
            | true =>
              rw [q, cond_true] at e
              cases q : Nat.beq r 74 with
              | true => have q := Nat.eq_of_beq_eq_true q; subst q; exact (by cases e; exact ⟨by decide, ya_74⟩)
              | false => rw [q] at e; cases e
            | false =>
              rw [q, cond_false] at e
              cases q : Nat.blt r 76 with
              | true =>
                rw [q, cond_true] at e
                cases q : Nat.beq r 75 with
                | true => have q := Nat.eq_of_beq_eq_true q; subst q; exact (by cases e; exact ⟨by decide, ya_75⟩)
                | false => rw [q] at e; cases e
              | false =>
                rw [q, cond_false] at e
                cases q : Nat.beq r 76 with
                | true => have q := Nat.eq_of_beq_eq_true q; subst q; exact (by cases e; exact ⟨by decide, ya_76⟩)
                | false => rw [q] at e; cases e
      | false =>
        rw [q, cond_false] at e
        cases q : Nat.blt r 86 with
        | true =>
          rw [q, cond_true] at e
          cases q : Nat.blt r 80 with
          | true =>
            rw [q, cond_true] at e
            cases q : Nat.blt r 79 with
            | true =>
              rw [q, cond_true] at e
              cases q : Nat.beq r 78 with
              | true => have q := Nat.eq_of_beq_eq_true q; subst q; exact (by cases e; exact ⟨by decide, ya_78⟩)
              | false => rw [q] at e; cases e
            | false =>
              rw [q, cond_false] at e
              cases q : Nat.beq r 79 with
              | true => have q := Nat.eq_of_beq_eq_true q; subst q; exact (by cases e; exact ⟨by decide, ya_79⟩)
              | false => rw [q] at e; cases e
          | false =>
            rw [q, cond_false] at e
            cases q : Nat.blt r 82 with
            | true =>
              rw [q, cond_true] at e
              cases q : Nat.beq r 80 with
              | true => have q := Nat.eq_of_beq_eq_true q; subst q; exact (by cases e; exact ⟨by decide, ya_80⟩)
              | false => rw [q] at e; cases e
            | false =>
              rw [q, cond_false] at e
              cases q : Nat.blt r 83 with
              | true =>
                rw [q, cond_true] at e
                cases q : Nat.beq r 82 with
                | true => have q := Nat.eq_of_beq_eq_true q; subst q; exact (by cases e; exact ⟨by decide, ya_82⟩)
                | false => rw [q] at e; cases e
              | false =>
                rw [q, cond_false] at e
                cases q : Nat.beq r 83 with
                | true => have q := Nat.eq_of_beq_eq_true q; subst q; exact (by cases e; exact ⟨by decide, ya_83⟩)
                | false => rw [q] at e; cases e
        | false =>
          rw [q, cond_false] at e
          cases q : Nat.blt r 88 with
          | true =>
            rw [q, cond_true] at e
            cases q : Nat.blt r 87 with
            | true =>
              rw [q, cond_true] at e
              cases q : Nat.beq r 86 with
              | true => have q := Nat.eq_of_beq_eq_true q; subst q; exact (by cases e; exact ⟨by decide, ya_86⟩)
              | false => rw [q] at e; cases e
            | false =>
              rw [q, cond_false] at e
              cases q : Nat.beq r 87 with
              | true => have q := Nat.eq_of_beq_eq_true q; subst q; exact (by cases e; exact ⟨by decide, ya_87⟩)
              | false => rw [q] at e; cases e
          | false =>
            rw [q, cond_false] at e
            cases q : Nat.blt r 89 with
            | true =>
              rw [q, cond_true] at e
              cases q : Nat.beq r 88 with
              | true => have q := Nat.eq_of_beq_eq_true q; subst q; exact (by cases e; exact ⟨by decide, ya_88⟩)
              | false => rw [q] at e; cases e
            | false =>
              rw [q, cond_false] at e
              cases q : Nat.blt r 90 with
              | true =>
                rw [q, cond_true] at e
                cases q : Nat.beq r 89 with
                | true => have q := Nat.eq_of_beq_eq_true q; subst q; exact (by cases e; exact ⟨by decide, ya_89⟩)
                | false => rw [q] at e; cases e
              | false =>
                rw [q, cond_false] at e
                cases q : Nat.beq r 90 with
                | true => have q := Nat.eq_of_beq_eq_true q; subst q; exact (by cases e; exact ⟨by decide, ya_90⟩)
                | false => rw [q] at e; cases e
    | false =>
      rw [q, cond_false] at e
      cases q : Nat.blt r 104 with
      | true =>
        rw [q, cond_true] at e
        cases q : Nat.blt r 97 with
        | true =>
          rw [q, cond_true] at e
          cases q : Nat.blt r 93 with
          | true =>
            rw [q, cond_true] at e
            cases q : Nat.blt r 92 with
            | true =>
              rw [q, cond_true] at e
              cases q : Nat.beq r 91 with
              | true => have q := Nat.eq_of_beq_eq_true q; subst q; exact (by cases e; exact ⟨by decide, ya_91⟩)
              | false => rw [q] at e; cases e
            | false =>
              rw [q, cond_false] at e
              cases q : Nat.beq r 92 with
              | true => have q := Nat.eq_of_beq_eq_true q; subst q; exact (by cases e; exact ⟨by decide, ya_92⟩)
              | false => rw [q] at e; cases e
          | false =>
            rw [q, cond_false] at e
            cases q : Nat.blt r 94 with
            | true =>
              rw [q, cond_true] at e
              cases q : Nat.beq r 93 with
              | true => have q := Nat.eq_of_beq_eq_true q; subst q; exact (by cases e; exact ⟨by decide, ya_93⟩)
              | false => rw [q] at e; cases e
            | false =>
              rw [q, cond_false] at e
              cases q : Nat.blt r 96 with
              | true =>
                rw [q, cond_true] at e
                cases q : Nat.beq r 94 with
                | true => have q := Nat.eq_of_beq_eq_true q; subst q; exact (by cases e; exact ⟨by decide, ya_94⟩)
                | false => rw [q] at e; cases e
              | false =>
                rw [q, cond_false] at e
                cases q : Nat.beq r 96 with
                | true => have q := Nat.eq_of_beq_eq_true q; subst q; exact (by cases e; exact ⟨by decide, ya_96⟩)
                | false => rw [q] at e; cases e
        | false =>
          rw [q, cond_false] at e
          cases q : Nat.blt r 100 with
          | true =>
            rw [q, cond_true] at e
            cases q : Nat.blt r 99 with
            | true =>
              rw [q, cond_true] at e
              cases q : Nat.beq r 97 with
              | true => have q := Nat.eq_of_beq_eq_true q; subst q; exact (by cases e; exact ⟨by decide, ya_97⟩)
              | false => rw [q] at e; cases e
            | false =>
              rw [q, cond_false] at e
              cases q : Nat.beq r 99 with
              | true => have q := Nat.eq_of_beq_eq_true q; subst q; exact (by cases e; exact ⟨by decide, ya_99⟩)
              | false => rw [q] at e; cases e
          | false =>
            rw [q, cond_false] at e
            cases q : Nat.blt r 102 with
            | true =>
              rw [q, cond_true] at e
              cases q : Nat.beq r 100 with
              | true => have q := Nat.eq_of_beq_eq_true q; subst q; exact (by cases e; exact ⟨by decide, ya_100⟩)
              | false => rw [q] at e; cases e
            | false =>
              rw [q, cond_false] at e
              cases q : Nat.blt r 103 with
              | true =>
                rw [q, cond_true] at e
                cases q : Nat.beq r 102 with
                | true => have q := Nat.eq_of_beq_eq_true q; subst q; exact (by cases e; exact ⟨by decide, ya_102⟩)
                | false => rw [q] at e; cases e
              | false =>
                rw [q, cond_false] at e
                cases q : Nat.beq r 103 with
                | true => have q := Nat.eq_of_beq_eq_true q; subst q; exact (by cases e; exact ⟨by decide, ya_103⟩)
                | false => rw [q] at e; cases e
      | false =>
        rw [q, cond_false] at e
        cases q : Nat.blt r 109 with
        | true =>
          rw [q, cond_true] at e
          cases q : Nat.blt r 106 with
          | true =>
            rw [q, cond_true] at e
            cases q : Nat.blt r 105 with
            | true =>
              rw [q, cond_true] at e
              cases q : Nat.beq r 104 with
              | true => have q := Nat.eq_of_beq_eq_true q; subst q; exact (by cases e; exact ⟨by decide, ya_104⟩)
              | false => rw [q] at e; cases e
            | false =>
              rw [q, cond_false] at e
              cases q : Nat.beq r 105 with
              | true => have q := Nat.eq_of_beq_eq_true q; subst q; exact (by cases e; exact ⟨by decide, ya_105⟩)
              | false => rw [q] at e; cases e
          | false =>
            rw [q, cond_false] at e
            cases q : Nat.blt r 107 with
            | true =>
              rw [q, cond_true] at e
              cases q : Nat.beq r 106 with
              | true => have q := Nat.eq_of_beq_eq_true q; subst q; exact (by cases e; exact ⟨by decide, ya_106⟩)
              | false => rw [q] at e; cases e
            | false =>
              rw [q, cond_false] at e
              cases q : Nat.blt r 108 with
              | true =>
                rw [q, cond_true] at e
                cases q : Nat.beq r 107 with
                | true => have q := Nat.eq_of_beq_eq_true q; subst q; exact (by cases e; exact ⟨by decide, ya_107⟩)
                | false => rw [q] at e; cases e
              | false =>
                rw [q, cond_false] at e
                cases q : Nat.beq r 108 with
                | true => have q := Nat.eq_of_beq_eq_true q; subst q; exact (by cases e; exact ⟨by decide, ya_108⟩)
                | false => rw [q] at e; cases e
        | false =>
          rw [q, cond_false] at e
          cases q : Nat.blt r 111 with
          | true =>
            rw [q, cond_true] at e
            cases q : Nat.blt r 110 with
            | true =>
              rw [q, cond_true] at e
              cases q : Nat.beq r 109 with
              | true => have q := Nat.eq_of_beq_eq_true q; subst q; exact (by cases e; exact ⟨by decide, ya_109⟩)
              | false => rw [q] at e; cases e
            | false =>
              rw [q, cond_false] at e
              cases q : Nat.beq r 110 with
              | true => have q := Nat.eq_of_beq_eq_true q; subst q; exact (by cases e; exact ⟨by decide, ya_110⟩)
              | false => rw [q] at e; cases e
          | false =>
            rw [q, cond_false] at e
            cases q : Nat.blt r 112 with
            | true =>
              rw [q, cond_true] at e
              cases q : Nat.beq r 111 with
              | true => have q := Nat.eq_of_beq_eq_true q; subst q; exact (by cases e; exact ⟨by decide, ya_111⟩)
              | false => rw [q] at e; cases e
            | false =>
              rw [q, cond_false] at e
              cases q : Nat.blt r 113 with
              | true =>
                rw [q, cond_true] at e
                cases q : Nat.beq r 112 with
                | true => have q := Nat.eq_of_beq_eq_true q; subst q; exact (by cases e; exact ⟨by decide, ya_112⟩)
                | false => rw [q] at e; cases e
              | false =>
                rw [q, cond_false] at e
                cases q : Nat.beq r 113 with
                | true => have q := Nat.eq_of_beq_eq_true q; subst q; exact (by cases e; exact ⟨by decide, ya_113⟩)
                | false => rw [q] at e; cases e
  | false =>
    rw [q, cond_false] at e
    cases q : Nat.blt r 143 with
    | true =>
      rw [q, cond_true] at e
      cases q : Nat.blt r 133 with
      | true =>
        rw [q, cond_true] at e
        cases q : Nat.blt r 123 with
        | true =>
          rw [q, cond_true] at e
          cases q : Nat.blt r 119 with
          | true =>
            rw [q, cond_true] at e
            cases q : Nat.blt r 118 with
            | true =>
              rw [q, cond_true] at e
              cases q : Nat.beq r 117 with
              | true => have q := Nat.eq_of_beq_eq_true q; subst q; exact (by cases e; exact ⟨by decide, ya_117⟩)
              | false => rw [q] at e; cases e
            | false =>
              rw [q, cond_false] at e
              cases q : Nat.beq r 118 with
              | true => have q := Nat.eq_of_beq_eq_true q; subst q; exact (by cases e; exact ⟨by decide, ya_118⟩)
              | false => rw [q] at e; cases e
          | false =>
            rw [q, cond_false] at e
            cases q : Nat.blt r 120 with
            | true =>
              rw [q, cond_true] at e
              cases q : Nat.beq r 119 with
              | true => have q := Nat.eq_of_beq_eq_true q; subst q; exact (by cases e; exact ⟨by decide, ya_119⟩)
              | false => rw [q] at e; cases e
            | false =>
              rw [q, cond_false] at e
              cases q : Nat.blt r 121 with
              | true =>
                rw [q, cond_true] at e
                cases q : Nat.beq r 120 with
                | true => have q := Nat.eq_of_beq_eq_true q; subst q; exact (by cases e; exact ⟨by decide, ya_120⟩)
                | false => rw [q] at e; cases e
              | false =>
                rw [q, cond_false] at e
                cases q : Nat.beq r 121 with
                | true => have q := Nat.eq_of_beq_eq_true q; subst q; exact (by cases e; exact ⟨by decide, ya_121⟩)
                | false => rw [q] at e; cases e
        | false =>
          rw [q, cond_false] at e
          cases q : Nat.blt r 127 with
          | true =>
            rw [q, cond_true] at e
            cases q : Nat.blt r 125 with
            | true =>
              rw [q, cond_true] at e
              cases q : Nat.beq r 123 with
              | true => have q := Nat.eq_of_beq_eq_true q; subst q; exact (by cases e; exact ⟨by decide, ya_123⟩)
              | false => rw [q] at e; cases e
            | false =>
              rw [q, cond_false] at e
              cases q : Nat.beq r 125 with
              | true => have q := Nat.eq_of_beq_eq_true q; subst q; exact (by cases e; exact ⟨by decide, ya_125⟩)
              | false => rw [q] at e; cases e
          | false =>
            rw [q, cond_false] at e
            cases q : Nat.blt r 129 with
            | true =>
              rw [q, cond_true] at e
              cases q : Nat.beq r 127 with
              | true => have q := Nat.eq_of_beq_eq_true q; subst q; exact (by cases e; exact ⟨by decide, ya_127⟩)
              | false => rw [q] at e; cases e
            | false =>
              rw [q, cond_false] at e
              cases q : Nat.blt r 131 with
              | true =>
                rw [q, cond_true] at e
                cases q : Nat.beq r 129 with
                | true => have q := Nat.eq_of_beq_eq_true q; subst q; exact (by cases e; exact ⟨by decide, ya_129⟩)
                | false => rw [q] at e; cases e
              | false =>
                rw [q, cond_false] at e
                cases q : Nat.beq r 131 with
                | true => have q := Nat.eq_of_beq_eq_true q; subst q; exact (by cases e; exact ⟨by decide, ya_131⟩)
                | false => rw [q] at e; cases e
      | false =>
        rw [q, cond_false] at e
        cases q : Nat.blt r 138 with
        | true =>
          rw [q, cond_true] at e
          cases q : Nat.blt r 135 with
          | true =>
            rw [q, cond_true] at e
            cases q : Nat.blt r 134 with
            | true =>
              rw [q, cond_true] at e
              cases q : Nat.beq r 133 with
              | true => have q := Nat.eq_of_beq_eq_true q; subst q; exact (by cases e; exact ⟨by decide, ya_133⟩)
              | false => rw [q] at e; cases e
            | false =>
              rw [q, cond_false] at e
              cases q : Nat.beq r 134 with
              | true => have q := Nat.eq_of_beq_eq_true q; subst q; exact (by cases e; exact ⟨by decide, ya_134⟩)
              | false => rw [q] at e; cases e
          | false =>
            rw [q, cond_false] at e
            cases q : Nat.blt r 136 with
            | true =>
              rw [q, cond_true] at e
              cases q : Nat.beq r 135 with
              | true => have q := Nat.eq_of_beq_eq_true q; subst q; exact (by cases e; exact ⟨by decide, ya_135⟩)
              | false => rw [q] at e; cases e
            | false =>
              rw [q, cond_false] at e
              cases q : Nat.blt r 137 with
              | true =>
                rw [q, cond_true] at e
                cases q : Nat.beq r 136 with
                | true => have q := Nat.eq_of_beq_eq_true q; subst q; exact (by cases e; exact ⟨by decide, ya_136⟩)
                | false => rw [q] at e; cases e
              | false =>
                rw [q, cond_false] at e
                cases q : Nat.beq r 137 with
                | true => have q := Nat.eq_of_beq_eq_true q; subst q; exact (by cases e; exact ⟨by decide, ya_137⟩)
                | false => rw [q] at e; cases e
        | false =>
          rw [q, cond_false] at e
          cases q : Nat.blt r 140 with
          | true =>
            rw [q, cond_true] at e
            cases q : Nat.blt r 139 with
            | true =>
              rw [q, cond_true] at e
              cases q : Nat.beq r 138 with
              | true => have q := Nat.eq_of_beq_eq_true q; subst q; exact (by cases e; exact ⟨by decide, ya_138⟩)
              | false => rw [q] at e; cases e
            | false =>
              rw [q, cond_false] at e
              cases q : Nat.beq r 139 with
              | true => have q := Nat.eq_of_beq_eq_true q; subst q; exact (by cases e; exact ⟨by decide, ya_139⟩)
              | false => rw [q] at e; cases e
          | false =>
            rw [q, cond_false] at e
            cases q : Nat.blt r 141 with
            | true =>
              rw [q, cond_true] at e
              cases q : Nat.beq r 140 with
              | true => have q := Nat.eq_of_beq_eq_true q; subst q; exact (by cases e; exact ⟨by decide, ya_140⟩)
              | false => rw [q] at e; cases e
            | false =>
              rw [q, cond_false] at e
              cases q : Nat.blt r 142 with
              | true =>
                rw [q, cond_true] at e
                cases q : Nat.beq r 141 with
                | true => have q := Nat.eq_of_beq_eq_true q; subst q; exact (by cases e; exact ⟨by decide, ya_141⟩)
                | false => rw [q] at e; cases e
              | false =>
                rw [q, cond_false] at e
                cases q : Nat.beq r 142 with
                | true => have q := Nat.eq_of_beq_eq_true q; subst q; exact (by cases e; exact ⟨by decide, ya_142⟩)
                | false => rw [q] at e; cases e
    | false =>
      rw [q, cond_false] at e
      cases q : Nat.blt r 153 with
      | true =>
        rw [q, cond_true] at e
        cases q : Nat.blt r 148 with
        | true =>
          rw [q, cond_true] at e
          cases q : Nat.blt r 145 with
          | true =>
            rw [q, cond_true] at e
            cases q : Nat.blt r 144 with
            | true =>
              rw [q, cond_true] at e
              cases q : Nat.beq r 143 with
              | true => have q := Nat.eq_of_beq_eq_true q; subst q; exact (by cases e; exact ⟨by decide, ya_143⟩)
              | false => rw [q] at e; cases e
            | false =>
              rw [q, cond_false] at e
              cases q : Nat.beq r 144 with
              | true => have q := Nat.eq_of_beq_eq_true q; subst q; exact (by cases e; exact ⟨by decide, ya_144⟩)
              | false => rw [q] at e; cases e
          | false =>
            rw [q, cond_false] at e
            cases q : Nat.blt r 146 with
            | true =>
              rw [q, cond_true] at e
              cases q : Nat.beq r 145 with
              | true => have q := Nat.eq_of_beq_eq_true q; subst q; exact (by cases e; exact ⟨by decide, ya_145⟩)
              | false => rw [q] at e; cases e
            | false =>
              rw [q, cond_false] at e
              cases q : Nat.blt r 147 with
              | true =>
                rw [q, cond_true] at e
                cases q : Nat.beq r 146 with
                | true => have q := Nat.eq_of_beq_eq_true q; subst q; exact (by cases e; exact ⟨by decide, ya_146⟩)
                | false => rw [q] at e; cases e
              | false =>
                rw [q, cond_false] at e
                cases q : Nat.beq r 147 with
                | true => have q := Nat.eq_of_beq_eq_true q; subst q; exact (by cases e; exact ⟨by decide, ya_147⟩)
                | false => rw [q] at e; cases e
        | false =>
          rw [q, cond_false] at e
          cases q : Nat.blt r 150 with
          | true =>
            rw [q, cond_true] at e
            cases q : Nat.blt r 149 with
            | true =>
              rw [q, cond_true] at e
              cases q : Nat.beq r 148 with
              | true => have q := Nat.eq_of_beq_eq_true q; subst q; exact (by cases e; exact ⟨by decide, ya_148⟩)
              | false => rw [q] at e; cases e
            | false =>
              rw [q, cond_false] at e
              cases q : Nat.beq r 149 with
              | true => have q := Nat.eq_of_beq_eq_true q; subst q; exact (by cases e; exact ⟨by decide, ya_149⟩)
              | false => rw [q] at e; cases e
          | false =>
            rw [q, cond_false] at e
            cases q : Nat.blt r 151 with
            | true =>
              rw [q, cond_true] at e
              cases q : Nat.beq r 150 with
              | true => have q := Nat.eq_of_beq_eq_true q; subst q; exact (by cases e; exact ⟨by decide, ya_150⟩)
              | false => rw [q] at e; cases e
            | false =>
              rw [q, cond_false] at e
              cases q : Nat.blt r 152 with
              | true =>
                rw [q, cond_true] at e
                cases q : Nat.beq r 151 with
                | true => have q := Nat.eq_of_beq_eq_true q; subst q; exact (by cases e; exact ⟨by decide, ya_151⟩)
                | false => rw [q] at e; cases e
              | false =>
                rw [q, cond_false] at e
                cases q : Nat.beq r 152 with
                | true => have q := Nat.eq_of_beq_eq_true q; subst q; exact (by cases e; exact ⟨by decide, ya_152⟩)
                | false => rw [q] at e; cases e
      | false =>
        rw [q, cond_false] at e
        cases q : Nat.blt r 158 with
        | true =>
          rw [q, cond_true] at e
          cases q : Nat.blt r 155 with
          | true =>
            rw [q, cond_true] at e
            cases q : Nat.blt r 154 with
            | true =>
              rw [q, cond_true] at e
              cases q : Nat.beq r 153 with
              | true => have q := Nat.eq_of_beq_eq_true q; subst q; exact (by cases e; exact ⟨by decide, ya_153⟩)
              | false => rw [q] at e; cases e
            | false =>
              rw [q, cond_false] at e
              cases q : Nat.beq r 154 with
              | true => have q := Nat.eq_of_beq_eq_true q; subst q; exact (by cases e; exact ⟨by decide, ya_154⟩)
              | false => rw [q] at e; cases e
          | false =>
            rw [q, cond_false] at e
            cases q : Nat.blt r 156 with
            | true =>
              rw [q, cond_true] at e
              cases q : Nat.beq r 155 with
              | true => have q := Nat.eq_of_beq_eq_true q; subst q; exact (by cases e; exact ⟨by decide, ya_155⟩)
              | false => rw [q] at e; cases e
            | false =>
              rw [q, cond_false] at e
              cases q : Nat.blt r 157 with
              | true =>
                rw [q, cond_true] at e
                cases q : Nat.beq r 156 with
                | true => have q := Nat.eq_of_beq_eq_true q; subst q; exact (by cases e; exact ⟨by decide, ya_156⟩)
                | false => rw [q] at e; cases e
              | false =>
                rw [q, cond_false] at e
                cases q : Nat.beq r 157 with
                | true => have q := Nat.eq_of_beq_eq_true q; subst q; exact (by cases e; exact ⟨by decide, ya_157⟩)
                | false => rw [q] at e; cases e
        | false =>
          rw [q, cond_false] at e
          cases q : Nat.blt r 161 with
          | true =>
            rw [q, cond_true] at e
            cases q : Nat.blt r 159 with
            | true =>
              rw [q, cond_true] at e
              cases q : Nat.beq r 158 with
              | true => have q := Nat.eq_of_beq_eq_true q; subst q; exact (by cases e; exact ⟨by decide, ya_158⟩)
              | false => rw [q] at e; cases e
            | false =>
              rw [q, cond_false] at e
              cases q : Nat.blt r 160 with
              | true =>
                rw [q, cond_true] at e
                cases q : Nat.beq r 159 with
                | true => have q := Nat.eq_of_beq_eq_true q; subst q; exact (by cases e; exact ⟨by decide, ya_159⟩)
                | false => rw [q] at e; cases e
              | false =>
                rw [q, cond_false] at e
                cases q : Nat.beq r 160 with
                | true => have q := Nat.eq_of_beq_eq_true q; subst q; exact (by cases e; exact ⟨by decide, ya_160⟩)
                | false => rw [q] at e; cases e
          | false =>
            rw [q, cond_false] at e
            cases q : Nat.blt r 162 with
            | true =>
              rw [q, cond_true] at e
              cases q : Nat.beq r 161 with
              | true => have q := Nat.eq_of_beq_eq_true q; subst q; exact (by cases e; exact ⟨by decide, ya_161⟩)
              | false => rw [q] at e; cases e
            | false =>
              rw [q, cond_false] at e
              cases q : Nat.blt r 163 with
              | true =>
                rw [q, cond_true] at e
                cases q : Nat.beq r 162 with
                | true => have q := Nat.eq_of_beq_eq_true q; subst q; exact (by cases e; exact ⟨by decide, ya_162⟩)
                | false => rw [q] at e; cases e
              | false =>
                rw [q, cond_false] at e
                cases q : Nat.beq r 163 with
                | true => have q := Nat.eq_of_beq_eq_true q; subst q; exact (by cases e; exact ⟨by decide, ya_163⟩)
                | false => rw [q] at e; cases e
theorem yo_64 (A V : Nat → Nat → Int32) (tx : List xh_T) (cu : Value) : (xh A V tx cu)[0]? = some (.inr (8, [.ref 65, .ref 72, .ref 73, .ref 77, .ref 81, .ref 84, .ref 95, .ref 98, .ref 99, .ref 100, .ref 101, .ref 114, .ref 115, .int (V 64 13), .int (V 64 14), .int (V 64 15), .int (V 64 16)])) := rfl
theorem yp_64_13 (A V : Nat → Nat → Int32) (tx : List xh_T) (cu : Value) (x : Int32) : (xh A V tx cu).set 0 (.inr (8, [.ref 65, .ref 72, .ref 73, .ref 77, .ref 81, .ref 84, .ref 95, .ref 98, .ref 99, .ref 100, .ref 101, .ref 114, .ref 115, .int x, .int (V 64 14), .int (V 64 15), .int (V 64 16)])) = xh A (up2 V 64 13 x) tx cu := rfl
theorem yp_64_14 (A V : Nat → Nat → Int32) (tx : List xh_T) (cu : Value) (x : Int32) : (xh A V tx cu).set 0 (.inr (8, [.ref 65, .ref 72, .ref 73, .ref 77, .ref 81, .ref 84, .ref 95, .ref 98, .ref 99, .ref 100, .ref 101, .ref 114, .ref 115, .int (V 64 13), .int x, .int (V 64 15), .int (V 64 16)])) = xh A (up2 V 64 14 x) tx cu := rfl
theorem yp_64_15 (A V : Nat → Nat → Int32) (tx : List xh_T) (cu : Value) (x : Int32) : (xh A V tx cu).set 0 (.inr (8, [.ref 65, .ref 72, .ref 73, .ref 77, .ref 81, .ref 84, .ref 95, .ref 98, .ref 99, .ref 100, .ref 101, .ref 114, .ref 115, .int (V 64 13), .int (V 64 14), .int x, .int (V 64 16)])) = xh A (up2 V 64 15 x) tx cu := rfl
theorem yp_64_16 (A V : Nat → Nat → Int32) (tx : List xh_T) (cu : Value) (x : Int32) : (xh A V tx cu).set 0 (.inr (8, [.ref 65, .ref 72, .ref 73, .ref 77, .ref 81, .ref 84, .ref 95, .ref 98, .ref 99, .ref 100, .ref 101, .ref 114, .ref 115, .int (V 64 13), .int (V 64 14), .int (V 64 15), .int x])) = xh A (up2 V 64 16 x) tx cu := rfl
theorem yo_65 (A V : Nat → Nat → Int32) (tx : List xh_T) (cu : Value) : (xh A V tx cu)[1]? = some (.inr (2, [.ref 66, .ref 67, .ref 68, .int (V 65 3), .ref 69, .ref 70, .ref 71, .int (V 65 7)])) := rfl
theorem yp_65_3 (A V : Nat → Nat → Int32) (tx : List xh_T) (cu : Value) (x : Int32) : (xh A V tx cu).set 1 (.inr (2, [.ref 66, .ref 67, .ref 68, .int x, .ref 69, .ref 70, .ref 71, .int (V 65 7)])) = xh A (up2 V 65 3 x) tx cu := rfl
theorem yp_65_7 (A V : Nat → Nat → Int32) (tx : List xh_T) (cu : Value) (x : Int32) : (xh A V tx cu).set 1 (.inr (2, [.ref 66, .ref 67, .ref 68, .int (V 65 3), .ref 69, .ref 70, .ref 71, .int x])) = xh A (up2 V 65 7 x) tx cu := rfl
theorem yo_73 (A V : Nat → Nat → Int32) (tx : List xh_T) (cu : Value) : (xh A V tx cu)[9]? = some (.inr (1, [.ref 74, .ref 75, .ref 76])) := rfl
theorem yo_77 (A V : Nat → Nat → Int32) (tx : List xh_T) (cu : Value) : (xh A V tx cu)[13]? = some (.inr (1, [.ref 78, .ref 79, .ref 80])) := rfl
theorem yo_81 (A V : Nat → Nat → Int32) (tx : List xh_T) (cu : Value) : (xh A V tx cu)[17]? = some (.inr (6, [.ref 65, .ref 72, .ref 82, .ref 83, cu, .int (V 81 5)])) := rfl
theorem yp_81_4 (A V : Nat → Nat → Int32) (tx : List xh_T) (cu x : Value) : (xh A V tx cu).set 17 (.inr (6, [.ref 65, .ref 72, .ref 82, .ref 83, x, .int (V 81 5)])) = xh A V tx x := rfl
theorem yp_81_5 (A V : Nat → Nat → Int32) (tx : List xh_T) (cu : Value) (x : Int32) : (xh A V tx cu).set 17 (.inr (6, [.ref 65, .ref 72, .ref 82, .ref 83, cu, .int x])) = xh A (up2 V 81 5 x) tx cu := rfl
theorem yo_84 (A V : Nat → Nat → Int32) (tx : List xh_T) (cu : Value) : (xh A V tx cu)[20]? = some (.inr (3, [.int (V 84 0), .int (V 84 1), .ref 65, .ref 81, .ref 73, .ref 85, .ref 89, .ref 90, .ref 91, .ref 92, .ref 93, .int (V 84 11), .ref 94, .int (V 84 13), .int (V 84 14)])) := rfl
theorem yp_84_0 (A V : Nat → Nat → Int32) (tx : List xh_T) (cu : Value) (x : Int32) : (xh A V tx cu).set 20 (.inr (3, [.int x, .int (V 84 1), .ref 65, .ref 81, .ref 73, .ref 85, .ref 89, .ref 90, .ref 91, .ref 92, .ref 93, .int (V 84 11), .ref 94, .int (V 84 13), .int (V 84 14)])) = xh A (up2 V 84 0 x) tx cu := rfl
theorem yp_84_1 (A V : Nat → Nat → Int32) (tx : List xh_T) (cu : Value) (x : Int32) : (xh A V tx cu).set 20 (.inr (3, [.int (V 84 0), .int x, .ref 65, .ref 81, .ref 73, .ref 85, .ref 89, .ref 90, .ref 91, .ref 92, .ref 93, .int (V 84 11), .ref 94, .int (V 84 13), .int (V 84 14)])) = xh A (up2 V 84 1 x) tx cu := rfl
theorem yp_84_11 (A V : Nat → Nat → Int32) (tx : List xh_T) (cu : Value) (x : Int32) : (xh A V tx cu).set 20 (.inr (3, [.int (V 84 0), .int (V 84 1), .ref 65, .ref 81, .ref 73, .ref 85, .ref 89, .ref 90, .ref 91, .ref 92, .ref 93, .int x, .ref 94, .int (V 84 13), .int (V 84 14)])) = xh A (up2 V 84 11 x) tx cu := rfl
theorem yp_84_13 (A V : Nat → Nat → Int32) (tx : List xh_T) (cu : Value) (x : Int32) : (xh A V tx cu).set 20 (.inr (3, [.int (V 84 0), .int (V 84 1), .ref 65, .ref 81, .ref 73, .ref 85, .ref 89, .ref 90, .ref 91, .ref 92, .ref 93, .int (V 84 11), .ref 94, .int x, .int (V 84 14)])) = xh A (up2 V 84 13 x) tx cu := rfl
theorem yp_84_14 (A V : Nat → Nat → Int32) (tx : List xh_T) (cu : Value) (x : Int32) : (xh A V tx cu).set 20 (.inr (3, [.int (V 84 0), .int (V 84 1), .ref 65, .ref 81, .ref 73, .ref 85, .ref 89, .ref 90, .ref 91, .ref 92, .ref 93, .int (V 84 11), .ref 94, .int (V 84 13), .int x])) = xh A (up2 V 84 14 x) tx cu := rfl
theorem yo_85 (A V : Nat → Nat → Int32) (tx : List xh_T) (cu : Value) : (xh A V tx cu)[21]? = some (.inr (1, [.ref 86, .ref 87, .ref 88])) := rfl
theorem yo_95 (A V : Nat → Nat → Int32) (tx : List xh_T) (cu : Value) : (xh A V tx cu)[31]? = some (.inr (4, [.ref 96, .int (V 95 1), .int (V 95 2), .ref 97, .int (V 95 4), .int (V 95 5), .int (V 95 6), .int (V 95 7), .int (V 95 8)])) := rfl
theorem yp_95_1 (A V : Nat → Nat → Int32) (tx : List xh_T) (cu : Value) (x : Int32) : (xh A V tx cu).set 31 (.inr (4, [.ref 96, .int x, .int (V 95 2), .ref 97, .int (V 95 4), .int (V 95 5), .int (V 95 6), .int (V 95 7), .int (V 95 8)])) = xh A (up2 V 95 1 x) tx cu := rfl
theorem yp_95_2 (A V : Nat → Nat → Int32) (tx : List xh_T) (cu : Value) (x : Int32) : (xh A V tx cu).set 31 (.inr (4, [.ref 96, .int (V 95 1), .int x, .ref 97, .int (V 95 4), .int (V 95 5), .int (V 95 6), .int (V 95 7), .int (V 95 8)])) = xh A (up2 V 95 2 x) tx cu := rfl
theorem yp_95_4 (A V : Nat → Nat → Int32) (tx : List xh_T) (cu : Value) (x : Int32) : (xh A V tx cu).set 31 (.inr (4, [.ref 96, .int (V 95 1), .int (V 95 2), .ref 97, .int x, .int (V 95 5), .int (V 95 6), .int (V 95 7), .int (V 95 8)])) = xh A (up2 V 95 4 x) tx cu := rfl
theorem yp_95_5 (A V : Nat → Nat → Int32) (tx : List xh_T) (cu : Value) (x : Int32) : (xh A V tx cu).set 31 (.inr (4, [.ref 96, .int (V 95 1), .int (V 95 2), .ref 97, .int (V 95 4), .int x, .int (V 95 6), .int (V 95 7), .int (V 95 8)])) = xh A (up2 V 95 5 x) tx cu := rfl
theorem yp_95_6 (A V : Nat → Nat → Int32) (tx : List xh_T) (cu : Value) (x : Int32) : (xh A V tx cu).set 31 (.inr (4, [.ref 96, .int (V 95 1), .int (V 95 2), .ref 97, .int (V 95 4), .int (V 95 5), .int x, .int (V 95 7), .int (V 95 8)])) = xh A (up2 V 95 6 x) tx cu := rfl
theorem yp_95_7 (A V : Nat → Nat → Int32) (tx : List xh_T) (cu : Value) (x : Int32) : (xh A V tx cu).set 31 (.inr (4, [.ref 96, .int (V 95 1), .int (V 95 2), .ref 97, .int (V 95 4), .int (V 95 5), .int (V 95 6), .int x, .int (V 95 8)])) = xh A (up2 V 95 7 x) tx cu := rfl
theorem yp_95_8 (A V : Nat → Nat → Int32) (tx : List xh_T) (cu : Value) (x : Int32) : (xh A V tx cu).set 31 (.inr (4, [.ref 96, .int (V 95 1), .int (V 95 2), .ref 97, .int (V 95 4), .int (V 95 5), .int (V 95 6), .int (V 95 7), .int x])) = xh A (up2 V 95 8 x) tx cu := rfl
theorem yo_115 (A V : Nat → Nat → Int32) (tx : List xh_T) (cu : Value) : (xh A V tx cu)[51]? = some (.inr (0, [.ref 116, .ref 120, .ref 121, .int (V 115 3), .int (V 115 4), .int (V 115 5), .int (V 115 6)])) := rfl
theorem yp_115_3 (A V : Nat → Nat → Int32) (tx : List xh_T) (cu : Value) (x : Int32) : (xh A V tx cu).set 51 (.inr (0, [.ref 116, .ref 120, .ref 121, .int x, .int (V 115 4), .int (V 115 5), .int (V 115 6)])) = xh A (up2 V 115 3 x) tx cu := rfl
theorem yp_115_4 (A V : Nat → Nat → Int32) (tx : List xh_T) (cu : Value) (x : Int32) : (xh A V tx cu).set 51 (.inr (0, [.ref 116, .ref 120, .ref 121, .int (V 115 3), .int x, .int (V 115 5), .int (V 115 6)])) = xh A (up2 V 115 4 x) tx cu := rfl
theorem yp_115_5 (A V : Nat → Nat → Int32) (tx : List xh_T) (cu : Value) (x : Int32) : (xh A V tx cu).set 51 (.inr (0, [.ref 116, .ref 120, .ref 121, .int (V 115 3), .int (V 115 4), .int x, .int (V 115 6)])) = xh A (up2 V 115 5 x) tx cu := rfl
theorem yp_115_6 (A V : Nat → Nat → Int32) (tx : List xh_T) (cu : Value) (x : Int32) : (xh A V tx cu).set 51 (.inr (0, [.ref 116, .ref 120, .ref 121, .int (V 115 3), .int (V 115 4), .int (V 115 5), .int x])) = xh A (up2 V 115 6 x) tx cu := rfl
theorem yo_116 (A V : Nat → Nat → Int32) (tx : List xh_T) (cu : Value) : (xh A V tx cu)[52]? = some (.inr (1, [.ref 117, .ref 118, .ref 119])) := rfl
theorem yo_122 (A V : Nat → Nat → Int32) (tx : List xh_T) (cu : Value) : (xh A V tx cu)[58]? = some (.inr (5, [.ref 123, .int (V 122 1), .int (V 122 2)])) := rfl
theorem yp_122_1 (A V : Nat → Nat → Int32) (tx : List xh_T) (cu : Value) (x : Int32) : (xh A V tx cu).set 58 (.inr (5, [.ref 123, .int x, .int (V 122 2)])) = xh A (up2 V 122 1 x) tx cu := rfl
theorem yp_122_2 (A V : Nat → Nat → Int32) (tx : List xh_T) (cu : Value) (x : Int32) : (xh A V tx cu).set 58 (.inr (5, [.ref 123, .int (V 122 1), .int x])) = xh A (up2 V 122 2 x) tx cu := rfl
theorem yo_124 (A V : Nat → Nat → Int32) (tx : List xh_T) (cu : Value) : (xh A V tx cu)[60]? = some (.inr (5, [.ref 125, .int (V 124 1), .int (V 124 2)])) := rfl
theorem yp_124_1 (A V : Nat → Nat → Int32) (tx : List xh_T) (cu : Value) (x : Int32) : (xh A V tx cu).set 60 (.inr (5, [.ref 125, .int x, .int (V 124 2)])) = xh A (up2 V 124 1 x) tx cu := rfl
theorem yp_124_2 (A V : Nat → Nat → Int32) (tx : List xh_T) (cu : Value) (x : Int32) : (xh A V tx cu).set 60 (.inr (5, [.ref 125, .int (V 124 1), .int x])) = xh A (up2 V 124 2 x) tx cu := rfl
theorem yo_126 (A V : Nat → Nat → Int32) (tx : List xh_T) (cu : Value) : (xh A V tx cu)[62]? = some (.inr (5, [.ref 127, .int (V 126 1), .int (V 126 2)])) := rfl
theorem yp_126_1 (A V : Nat → Nat → Int32) (tx : List xh_T) (cu : Value) (x : Int32) : (xh A V tx cu).set 62 (.inr (5, [.ref 127, .int x, .int (V 126 2)])) = xh A (up2 V 126 1 x) tx cu := rfl
theorem yp_126_2 (A V : Nat → Nat → Int32) (tx : List xh_T) (cu : Value) (x : Int32) : (xh A V tx cu).set 62 (.inr (5, [.ref 127, .int (V 126 1), .int x])) = xh A (up2 V 126 2 x) tx cu := rfl
theorem yo_128 (A V : Nat → Nat → Int32) (tx : List xh_T) (cu : Value) : (xh A V tx cu)[64]? = some (.inr (5, [.ref 129, .int (V 128 1), .int (V 128 2)])) := rfl
theorem yp_128_1 (A V : Nat → Nat → Int32) (tx : List xh_T) (cu : Value) (x : Int32) : (xh A V tx cu).set 64 (.inr (5, [.ref 129, .int x, .int (V 128 2)])) = xh A (up2 V 128 1 x) tx cu := rfl
theorem yp_128_2 (A V : Nat → Nat → Int32) (tx : List xh_T) (cu : Value) (x : Int32) : (xh A V tx cu).set 64 (.inr (5, [.ref 129, .int (V 128 1), .int x])) = xh A (up2 V 128 2 x) tx cu := rfl
theorem yo_130 (A V : Nat → Nat → Int32) (tx : List xh_T) (cu : Value) : (xh A V tx cu)[66]? = some (.inr (7, [.ref 131, .int 7, .int 8])) := rfl
theorem yo_132 (A V : Nat → Nat → Int32) (tx : List xh_T) (cu : Value) : (xh A V tx cu)[68]? = some (.inr (9, [.ref 133, .ref 134, .int (V 132 2), .ref 135, .int (V 132 4), .ref 136, .ref 137, .ref 138, .ref 139, .int (V 132 9), .ref 140, .ref 141, .ref 142, .ref 143, .int (V 132 14), .int (V 132 15), .int (V 132 16), .ref 144, .ref 145, .int (V 132 19), .int (V 132 20), .int (V 132 21), .int (V 132 22), .ref 146, .ref 147, .ref 148, .int (V 132 26), .int (V 132 27), .int (V 132 28), .ref 149, .int (V 132 30), .int (V 132 31), .ref 150, .ref 151, .ref 152, .int (V 132 35), .int (V 132 36), .ref 153, .ref 154, .ref 155, .ref 156, .int (V 132 41), .int (V 132 42), .int (V 132 43), .ref 157, .ref 158, .ref 159, .int (V 132 47), .int (V 132 48), .int (V 132 49), .int (V 132 50), .ref 160, .ref 161, .ref 162, .ref 163])) := rfl
theorem yp_132_2 (A V : Nat → Nat → Int32) (tx : List xh_T) (cu : Value) (x : Int32) : (xh A V tx cu).set 68 (.inr (9, [.ref 133, .ref 134, .int x, .ref 135, .int (V 132 4), .ref 136, .ref 137, .ref 138, .ref 139, .int (V 132 9), .ref 140, .ref 141, .ref 142, .ref 143, .int (V 132 14), .int (V 132 15), .int (V 132 16), .ref 144, .ref 145, .int (V 132 19), .int (V 132 20), .int (V 132 21), .int (V 132 22), .ref 146, .ref 147, .ref 148, .int (V 132 26), .int (V 132 27), .int (V 132 28), .ref 149, .int (V 132 30), .int (V 132 31), .ref 150, .ref 151, .ref 152, .int (V 132 35), .int (V 132 36), .ref 153, .ref 154, .ref 155, .ref 156, .int (V 132 41), .int (V 132 42), .int (V 132 43), .ref 157, .ref 158, .ref 159, .int (V 132 47), .int (V 132 48), .int (V 132 49), .int (V 132 50), .ref 160, .ref 161, .ref 162, .ref 163])) = xh A (up2 V 132 2 x) tx cu := rfl
theorem yp_132_4 (A V : Nat → Nat → Int32) (tx : List xh_T) (cu : Value) (x : Int32) : (xh A V tx cu).set 68 (.inr (9, [.ref 133, .ref 134, .int (V 132 2), .ref 135, .int x, .ref 136, .ref 137, .ref 138, .ref 139, .int (V 132 9), .ref 140, .ref 141, .ref 142, .ref 143, .int (V 132 14), .int (V 132 15), .int (V 132 16), .ref 144, .ref 145, .int (V 132 19), .int (V 132 20), .int (V 132 21), .int (V 132 22), .ref 146, .ref 147, .ref 148, .int (V 132 26), .int (V 132 27), .int (V 132 28), .ref 149, .int (V 132 30), .int (V 132 31), .ref 150, .ref 151, .ref 152, .int (V 132 35), .int (V 132 36), .ref 153, .ref 154, .ref 155, .ref 156, .int (V 132 41), .int (V 132 42), .int (V 132 43), .ref 157, .ref 158, .ref 159, .int (V 132 47), .int (V 132 48), .int (V 132 49), .int (V 132 50), .ref 160, .ref 161, .ref 162, .ref 163])) = xh A (up2 V 132 4 x) tx cu := rfl
theorem yp_132_9 (A V : Nat → Nat → Int32) (tx : List xh_T) (cu : Value) (x : Int32) : (xh A V tx cu).set 68 (.inr (9, [.ref 133, .ref 134, .int (V 132 2), .ref 135, .int (V 132 4), .ref 136, .ref 137, .ref 138, .ref 139, .int x, .ref 140, .ref 141, .ref 142, .ref 143, .int (V 132 14), .int (V 132 15), .int (V 132 16), .ref 144, .ref 145, .int (V 132 19), .int (V 132 20), .int (V 132 21), .int (V 132 22), .ref 146, .ref 147, .ref 148, .int (V 132 26), .int (V 132 27), .int (V 132 28), .ref 149, .int (V 132 30), .int (V 132 31), .ref 150, .ref 151, .ref 152, .int (V 132 35), .int (V 132 36), .ref 153, .ref 154, .ref 155, .ref 156, .int (V 132 41), .int (V 132 42), .int (V 132 43), .ref 157, .ref 158, .ref 159, .int (V 132 47), .int (V 132 48), .int (V 132 49), .int (V 132 50), .ref 160, .ref 161, .ref 162, .ref 163])) = xh A (up2 V 132 9 x) tx cu := rfl
theorem yp_132_14 (A V : Nat → Nat → Int32) (tx : List xh_T) (cu : Value) (x : Int32) : (xh A V tx cu).set 68 (.inr (9, [.ref 133, .ref 134, .int (V 132 2), .ref 135, .int (V 132 4), .ref 136, .ref 137, .ref 138, .ref 139, .int (V 132 9), .ref 140, .ref 141, .ref 142, .ref 143, .int x, .int (V 132 15), .int (V 132 16), .ref 144, .ref 145, .int (V 132 19), .int (V 132 20), .int (V 132 21), .int (V 132 22), .ref 146, .ref 147, .ref 148, .int (V 132 26), .int (V 132 27), .int (V 132 28), .ref 149, .int (V 132 30), .int (V 132 31), .ref 150, .ref 151, .ref 152, .int (V 132 35), .int (V 132 36), .ref 153, .ref 154, .ref 155, .ref 156, .int (V 132 41), .int (V 132 42), .int (V 132 43), .ref 157, .ref 158, .ref 159, .int (V 132 47), .int (V 132 48), .int (V 132 49), .int (V 132 50), .ref 160, .ref 161, .ref 162, .ref 163])) = xh A (up2 V 132 14 x) tx cu := rfl
theorem yp_132_15 (A V : Nat → Nat → Int32) (tx : List xh_T) (cu : Value) (x : Int32) : (xh A V tx cu).set 68 (.inr (9, [.ref 133, .ref 134, .int (V 132 2), .ref 135, .int (V 132 4), .ref 136, .ref 137, .ref 138, .ref 139, .int (V 132 9), .ref 140, .ref 141, .ref 142, .ref 143, .int (V 132 14), .int x, .int (V 132 16), .ref 144, .ref 145, .int (V 132 19), .int (V 132 20), .int (V 132 21), .int (V 132 22), .ref 146, .ref 147, .ref 148, .int (V 132 26), .int (V 132 27), .int (V 132 28), .ref 149, .int (V 132 30), .int (V 132 31), .ref 150, .ref 151, .ref 152, .int (V 132 35), .int (V 132 36), .ref 153, .ref 154, .ref 155, .ref 156, .int (V 132 41), .int (V 132 42), .int (V 132 43), .ref 157, .ref 158, .ref 159, .int (V 132 47), .int (V 132 48), .int (V 132 49), .int (V 132 50), .ref 160, .ref 161, .ref 162, .ref 163])) = xh A (up2 V 132 15 x) tx cu := rfl
theorem yp_132_16 (A V : Nat → Nat → Int32) (tx : List xh_T) (cu : Value) (x : Int32) : (xh A V tx cu).set 68 (.inr (9, [.ref 133, .ref 134, .int (V 132 2), .ref 135, .int (V 132 4), .ref 136, .ref 137, .ref 138, .ref 139, .int (V 132 9), .ref 140, .ref 141, .ref 142, .ref 143, .int (V 132 14), .int (V 132 15), .int x, .ref 144, .ref 145, .int (V 132 19), .int (V 132 20), .int (V 132 21), .int (V 132 22), .ref 146, .ref 147, .ref 148, .int (V 132 26), .int (V 132 27), .int (V 132 28), .ref 149, .int (V 132 30), .int (V 132 31), .ref 150, .ref 151, .ref 152, .int (V 132 35), .int (V 132 36), .ref 153, .ref 154, .ref 155, .ref 156, .int (V 132 41), .int (V 132 42), .int (V 132 43), .ref 157, .ref 158, .ref 159, .int (V 132 47), .int (V 132 48), .int (V 132 49), .int (V 132 50), .ref 160, .ref 161, .ref 162, .ref 163])) = xh A (up2 V 132 16 x) tx cu := rfl
theorem yp_132_19 (A V : Nat → Nat → Int32) (tx : List xh_T) (cu : Value) (x : Int32) : (xh A V tx cu).set 68 (.inr (9, [.ref 133, .ref 134, .int (V 132 2), .ref 135, .int (V 132 4), .ref 136, .ref 137, .ref 138, .ref 139, .int (V 132 9), .ref 140, .ref 141, .ref 142, .ref 143, .int (V 132 14), .int (V 132 15), .int (V 132 16), .ref 144, .ref 145, .int x, .int (V 132 20), .int (V 132 21), .int (V 132 22), .ref 146, .ref 147, .ref 148, .int (V 132 26), .int (V 132 27), .int (V 132 28), .ref 149, .int (V 132 30), .int (V 132 31), .ref 150, .ref 151, .ref 152, .int (V 132 35), .int (V 132 36), .ref 153, .ref 154, .ref 155, .ref 156, .int (V 132 41), .int (V 132 42), .int (V 132 43), .ref 157, .ref 158, .ref 159, .int (V 132 47), .int (V 132 48), .int (V 132 49), .int (V 132 50), .ref 160, .ref 161, .ref 162, .ref 163])) = xh A (up2 V 132 19 x) tx cu := rfl
theorem yp_132_20 (A V : Nat → Nat → Int32) (tx : List xh_T) (cu : Value) (x : Int32) : (xh A V tx cu).set 68 (.inr (9, [.ref 133, .ref 134, .int (V 132 2), .ref 135, .int (V 132 4), .ref 136, .ref 137, .ref 138, .ref 139, .int (V 132 9), .ref 140, .ref 141, .ref 142, .ref 143, .int (V 132 14), .int (V 132 15), .int (V 132 16), .ref 144, .ref 145, .int (V 132 19), .int x, .int (V 132 21), .int (V 132 22), .ref 146, .ref 147, .ref 148, .int (V 132 26), .int (V 132 27), .int (V 132 28), .ref 149, .int (V 132 30), .int (V 132 31), .ref 150, .ref 151, .ref 152, .int (V 132 35), .int (V 132 36), .ref 153, .ref 154, .ref 155, .ref 156, .int (V 132 41), .int (V 132 42), .int (V 132 43), .ref 157, .ref 158, .ref 159, .int (V 132 47), .int (V 132 48), .int (V 132 49), .int (V 132 50), .ref 160, .ref 161, .ref 162, .ref 163])) = xh A (up2 V 132 20 x) tx cu := rfl
theorem yp_132_21 (A V : Nat → Nat → Int32) (tx : List xh_T) (cu : Value) (x : Int32) : (xh A V tx cu).set 68 (.inr (9, [.ref 133, .ref 134, .int (V 132 2), .ref 135, .int (V 132 4), .ref 136, .ref 137, .ref 138, .ref 139, .int (V 132 9), .ref 140, .ref 141, .ref 142, .ref 143, .int (V 132 14), .int (V 132 15), .int (V 132 16), .ref 144, .ref 145, .int (V 132 19), .int (V 132 20), .int x, .int (V 132 22), .ref 146, .ref 147, .ref 148, .int (V 132 26), .int (V 132 27), .int (V 132 28), .ref 149, .int (V 132 30), .int (V 132 31), .ref 150, .ref 151, .ref 152, .int (V 132 35), .int (V 132 36), .ref 153, .ref 154, .ref 155, .ref 156, .int (V 132 41), .int (V 132 42), .int (V 132 43), .ref 157, .ref 158, .ref 159, .int (V 132 47), .int (V 132 48), .int (V 132 49), .int (V 132 50), .ref 160, .ref 161, .ref 162, .ref 163])) = xh A (up2 V 132 21 x) tx cu := rfl
theorem yp_132_22 (A V : Nat → Nat → Int32) (tx : List xh_T) (cu : Value) (x : Int32) : (xh A V tx cu).set 68 (.inr (9, [.ref 133, .ref 134, .int (V 132 2), .ref 135, .int (V 132 4), .ref 136, .ref 137, .ref 138, .ref 139, .int (V 132 9), .ref 140, .ref 141, .ref 142, .ref 143, .int (V 132 14), .int (V 132 15), .int (V 132 16), .ref 144, .ref 145, .int (V 132 19), .int (V 132 20), .int (V 132 21), .int x, .ref 146, .ref 147, .ref 148, .int (V 132 26), .int (V 132 27), .int (V 132 28), .ref 149, .int (V 132 30), .int (V 132 31), .ref 150, .ref 151, .ref 152, .int (V 132 35), .int (V 132 36), .ref 153, .ref 154, .ref 155, .ref 156, .int (V 132 41), .int (V 132 42), .int (V 132 43), .ref 157, .ref 158, .ref 159, .int (V 132 47), .int (V 132 48), .int (V 132 49), .int (V 132 50), .ref 160, .ref 161, .ref 162, .ref 163])) = xh A (up2 V 132 22 x) tx cu := rfl
theorem yp_132_26 (A V : Nat → Nat → Int32) (tx : List xh_T) (cu : Value) (x : Int32) : (xh A V tx cu).set 68 (.inr (9, [.ref 133, .ref 134, .int (V 132 2), .ref 135, .int (V 132 4), .ref 136, .ref 137, .ref 138, .ref 139, .int (V 132 9), .ref 140, .ref 141, .ref 142, .ref 143, .int (V 132 14), .int (V 132 15), .int (V 132 16), .ref 144, .ref 145, .int (V 132 19), .int (V 132 20), .int (V 132 21), .int (V 132 22), .ref 146, .ref 147, .ref 148, .int x, .int (V 132 27), .int (V 132 28), .ref 149, .int (V 132 30), .int (V 132 31), .ref 150, .ref 151, .ref 152, .int (V 132 35), .int (V 132 36), .ref 153, .ref 154, .ref 155, .ref 156, .int (V 132 41), .int (V 132 42), .int (V 132 43), .ref 157, .ref 158, .ref 159, .int (V 132 47), .int (V 132 48), .int (V 132 49), .int (V 132 50), .ref 160, .ref 161, .ref 162, .ref 163])) = xh A (up2 V 132 26 x) tx cu := rfl
theorem yp_132_27 (A V : Nat → Nat → Int32) (tx : List xh_T) (cu : Value) (x : Int32) : (xh A V tx cu).set 68 (.inr (9, [.ref 133, .ref 134, .int (V 132 2), .ref 135, .int (V 132 4), .ref 136, .ref 137, .ref 138, .ref 139, .int (V 132 9), .ref 140, .ref 141, .ref 142, .ref 143, .int (V 132 14), .int (V 132 15), .int (V 132 16), .ref 144, .ref 145, .int (V 132 19), .int (V 132 20), .int (V 132 21), .int (V 132 22), .ref 146, .ref 147, .ref 148, .int (V 132 26), .int x, .int (V 132 28), .ref 149, .int (V 132 30), .int (V 132 31), .ref 150, .ref 151, .ref 152, .int (V 132 35), .int (V 132 36), .ref 153, .ref 154, .ref 155, .ref 156, .int (V 132 41), .int (V 132 42), .int (V 132 43), .ref 157, .ref 158, .ref 159, .int (V 132 47), .int (V 132 48), .int (V 132 49), .int (V 132 50), .ref 160, .ref 161, .ref 162, .ref 163])) = xh A (up2 V 132 27 x) tx cu := rfl
theorem yp_132_28 (A V : Nat → Nat → Int32) (tx : List xh_T) (cu : Value) (x : Int32) : (xh A V tx cu).set 68 (.inr (9, [.ref 133, .ref 134, .int (V 132 2), .ref 135, .int (V 132 4), .ref 136, .ref 137, .ref 138, .ref 139, .int (V 132 9), .ref 140, .ref 141, .ref 142, .ref 143, .int (V 132 14), .int (V 132 15), .int (V 132 16), .ref 144, .ref 145, .int (V 132 19), .int (V 132 20), .int (V 132 21), .int (V 132 22), .ref 146, .ref 147, .ref 148, .int (V 132 26), .int (V 132 27), .int x, .ref 149, .int (V 132 30), .int (V 132 31), .ref 150, .ref 151, .ref 152, .int (V 132 35), .int (V 132 36), .ref 153, .ref 154, .ref 155, .ref 156, .int (V 132 41), .int (V 132 42), .int (V 132 43), .ref 157, .ref 158, .ref 159, .int (V 132 47), .int (V 132 48), .int (V 132 49), .int (V 132 50), .ref 160, .ref 161, .ref 162, .ref 163])) = xh A (up2 V 132 28 x) tx cu := rfl
theorem yp_132_30 (A V : Nat → Nat → Int32) (tx : List xh_T) (cu : Value) (x : Int32) : (xh A V tx cu).set 68 (.inr (9, [.ref 133, .ref 134, .int (V 132 2), .ref 135, .int (V 132 4), .ref 136, .ref 137, .ref 138, .ref 139, .int (V 132 9), .ref 140, .ref 141, .ref 142, .ref 143, .int (V 132 14), .int (V 132 15), .int (V 132 16), .ref 144, .ref 145, .int (V 132 19), .int (V 132 20), .int (V 132 21), .int (V 132 22), .ref 146, .ref 147, .ref 148, .int (V 132 26), .int (V 132 27), .int (V 132 28), .ref 149, .int x, .int (V 132 31), .ref 150, .ref 151, .ref 152, .int (V 132 35), .int (V 132 36), .ref 153, .ref 154, .ref 155, .ref 156, .int (V 132 41), .int (V 132 42), .int (V 132 43), .ref 157, .ref 158, .ref 159, .int (V 132 47), .int (V 132 48), .int (V 132 49), .int (V 132 50), .ref 160, .ref 161, .ref 162, .ref 163])) = xh A (up2 V 132 30 x) tx cu := rfl
theorem yp_132_31 (A V : Nat → Nat → Int32) (tx : List xh_T) (cu : Value) (x : Int32) : (xh A V tx cu).set 68 (.inr (9, [.ref 133, .ref 134, .int (V 132 2), .ref 135, .int (V 132 4), .ref 136, .ref 137, .ref 138, .ref 139, .int (V 132 9), .ref 140, .ref 141, .ref 142, .ref 143, .int (V 132 14), .int (V 132 15), .int (V 132 16), .ref 144, .ref 145, .int (V 132 19), .int (V 132 20), .int (V 132 21), .int (V 132 22), .ref 146, .ref 147, .ref 148, .int (V 132 26), .int (V 132 27), .int (V 132 28), .ref 149, .int (V 132 30), .int x, .ref 150, .ref 151, .ref 152, .int (V 132 35), .int (V 132 36), .ref 153, .ref 154, .ref 155, .ref 156, .int (V 132 41), .int (V 132 42), .int (V 132 43), .ref 157, .ref 158, .ref 159, .int (V 132 47), .int (V 132 48), .int (V 132 49), .int (V 132 50), .ref 160, .ref 161, .ref 162, .ref 163])) = xh A (up2 V 132 31 x) tx cu := rfl
theorem yp_132_35 (A V : Nat → Nat → Int32) (tx : List xh_T) (cu : Value) (x : Int32) : (xh A V tx cu).set 68 (.inr (9, [.ref 133, .ref 134, .int (V 132 2), .ref 135, .int (V 132 4), .ref 136, .ref 137, .ref 138, .ref 139, .int (V 132 9), .ref 140, .ref 141, .ref 142, .ref 143, .int (V 132 14), .int (V 132 15), .int (V 132 16), .ref 144, .ref 145, .int (V 132 19), .int (V 132 20), .int (V 132 21), .int (V 132 22), .ref 146, .ref 147, .ref 148, .int (V 132 26), .int (V 132 27), .int (V 132 28), .ref 149, .int (V 132 30), .int (V 132 31), .ref 150, .ref 151, .ref 152, .int x, .int (V 132 36), .ref 153, .ref 154, .ref 155, .ref 156, .int (V 132 41), .int (V 132 42), .int (V 132 43), .ref 157, .ref 158, .ref 159, .int (V 132 47), .int (V 132 48), .int (V 132 49), .int (V 132 50), .ref 160, .ref 161, .ref 162, .ref 163])) = xh A (up2 V 132 35 x) tx cu := rfl
theorem yp_132_36 (A V : Nat → Nat → Int32) (tx : List xh_T) (cu : Value) (x : Int32) : (xh A V tx cu).set 68 (.inr (9, [.ref 133, .ref 134, .int (V 132 2), .ref 135, .int (V 132 4), .ref 136, .ref 137, .ref 138, .ref 139, .int (V 132 9), .ref 140, .ref 141, .ref 142, .ref 143, .int (V 132 14), .int (V 132 15), .int (V 132 16), .ref 144, .ref 145, .int (V 132 19), .int (V 132 20), .int (V 132 21), .int (V 132 22), .ref 146, .ref 147, .ref 148, .int (V 132 26), .int (V 132 27), .int (V 132 28), .ref 149, .int (V 132 30), .int (V 132 31), .ref 150, .ref 151, .ref 152, .int (V 132 35), .int x, .ref 153, .ref 154, .ref 155, .ref 156, .int (V 132 41), .int (V 132 42), .int (V 132 43), .ref 157, .ref 158, .ref 159, .int (V 132 47), .int (V 132 48), .int (V 132 49), .int (V 132 50), .ref 160, .ref 161, .ref 162, .ref 163])) = xh A (up2 V 132 36 x) tx cu := rfl
theorem yp_132_41 (A V : Nat → Nat → Int32) (tx : List xh_T) (cu : Value) (x : Int32) : (xh A V tx cu).set 68 (.inr (9, [.ref 133, .ref 134, .int (V 132 2), .ref 135, .int (V 132 4), .ref 136, .ref 137, .ref 138, .ref 139, .int (V 132 9), .ref 140, .ref 141, .ref 142, .ref 143, .int (V 132 14), .int (V 132 15), .int (V 132 16), .ref 144, .ref 145, .int (V 132 19), .int (V 132 20), .int (V 132 21), .int (V 132 22), .ref 146, .ref 147, .ref 148, .int (V 132 26), .int (V 132 27), .int (V 132 28), .ref 149, .int (V 132 30), .int (V 132 31), .ref 150, .ref 151, .ref 152, .int (V 132 35), .int (V 132 36), .ref 153, .ref 154, .ref 155, .ref 156, .int x, .int (V 132 42), .int (V 132 43), .ref 157, .ref 158, .ref 159, .int (V 132 47), .int (V 132 48), .int (V 132 49), .int (V 132 50), .ref 160, .ref 161, .ref 162, .ref 163])) = xh A (up2 V 132 41 x) tx cu := rfl
theorem yp_132_42 (A V : Nat → Nat → Int32) (tx : List xh_T) (cu : Value) (x : Int32) : (xh A V tx cu).set 68 (.inr (9, [.ref 133, .ref 134, .int (V 132 2), .ref 135, .int (V 132 4), .ref 136, .ref 137, .ref 138, .ref 139, .int (V 132 9), .ref 140, .ref 141, .ref 142, .ref 143, .int (V 132 14), .int (V 132 15), .int (V 132 16), .ref 144, .ref 145, .int (V 132 19), .int (V 132 20), .int (V 132 21), .int (V 132 22), .ref 146, .ref 147, .ref 148, .int (V 132 26), .int (V 132 27), .int (V 132 28), .ref 149, .int (V 132 30), .int (V 132 31), .ref 150, .ref 151, .ref 152, .int (V 132 35), .int (V 132 36), .ref 153, .ref 154, .ref 155, .ref 156, .int (V 132 41), .int x, .int (V 132 43), .ref 157, .ref 158, .ref 159, .int (V 132 47), .int (V 132 48), .int (V 132 49), .int (V 132 50), .ref 160, .ref 161, .ref 162, .ref 163])) = xh A (up2 V 132 42 x) tx cu := rfl
theorem yp_132_43 (A V : Nat → Nat → Int32) (tx : List xh_T) (cu : Value) (x : Int32) : (xh A V tx cu).set 68 (.inr (9, [.ref 133, .ref 134, .int (V 132 2), .ref 135, .int (V 132 4), .ref 136, .ref 137, .ref 138, .ref 139, .int (V 132 9), .ref 140, .ref 141, .ref 142, .ref 143, .int (V 132 14), .int (V 132 15), .int (V 132 16), .ref 144, .ref 145, .int (V 132 19), .int (V 132 20), .int (V 132 21), .int (V 132 22), .ref 146, .ref 147, .ref 148, .int (V 132 26), .int (V 132 27), .int (V 132 28), .ref 149, .int (V 132 30), .int (V 132 31), .ref 150, .ref 151, .ref 152, .int (V 132 35), .int (V 132 36), .ref 153, .ref 154, .ref 155, .ref 156, .int (V 132 41), .int (V 132 42), .int x, .ref 157, .ref 158, .ref 159, .int (V 132 47), .int (V 132 48), .int (V 132 49), .int (V 132 50), .ref 160, .ref 161, .ref 162, .ref 163])) = xh A (up2 V 132 43 x) tx cu := rfl
theorem yp_132_47 (A V : Nat → Nat → Int32) (tx : List xh_T) (cu : Value) (x : Int32) : (xh A V tx cu).set 68 (.inr (9, [.ref 133, .ref 134, .int (V 132 2), .ref 135, .int (V 132 4), .ref 136, .ref 137, .ref 138, .ref 139, .int (V 132 9), .ref 140, .ref 141, .ref 142, .ref 143, .int (V 132 14), .int (V 132 15), .int (V 132 16), .ref 144, .ref 145, .int (V 132 19), .int (V 132 20), .int (V 132 21), .int (V 132 22), .ref 146, .ref 147, .ref 148, .int (V 132 26), .int (V 132 27), .int (V 132 28), .ref 149, .int (V 132 30), .int (V 132 31), .ref 150, .ref 151, .ref 152, .int (V 132 35), .int (V 132 36), .ref 153, .ref 154, .ref 155, .ref 156, .int (V 132 41), .int (V 132 42), .int (V 132 43), .ref 157, .ref 158, .ref 159, .int x, .int (V 132 48), .int (V 132 49), .int (V 132 50), .ref 160, .ref 161, .ref 162, .ref 163])) = xh A (up2 V 132 47 x) tx cu := rfl
theorem yp_132_48 (A V : Nat → Nat → Int32) (tx : List xh_T) (cu : Value) (x : Int32) : (xh A V tx cu).set 68 (.inr (9, [.ref 133, .ref 134, .int (V 132 2), .ref 135, .int (V 132 4), .ref 136, .ref 137, .ref 138, .ref 139, .int (V 132 9), .ref 140, .ref 141, .ref 142, .ref 143, .int (V 132 14), .int (V 132 15), .int (V 132 16), .ref 144, .ref 145, .int (V 132 19), .int (V 132 20), .int (V 132 21), .int (V 132 22), .ref 146, .ref 147, .ref 148, .int (V 132 26), .int (V 132 27), .int (V 132 28), .ref 149, .int (V 132 30), .int (V 132 31), .ref 150, .ref 151, .ref 152, .int (V 132 35), .int (V 132 36), .ref 153, .ref 154, .ref 155, .ref 156, .int (V 132 41), .int (V 132 42), .int (V 132 43), .ref 157, .ref 158, .ref 159, .int (V 132 47), .int x, .int (V 132 49), .int (V 132 50), .ref 160, .ref 161, .ref 162, .ref 163])) = xh A (up2 V 132 48 x) tx cu := rfl
theorem yp_132_49 (A V : Nat → Nat → Int32) (tx : List xh_T) (cu : Value) (x : Int32) : (xh A V tx cu).set 68 (.inr (9, [.ref 133, .ref 134, .int (V 132 2), .ref 135, .int (V 132 4), .ref 136, .ref 137, .ref 138, .ref 139, .int (V 132 9), .ref 140, .ref 141, .ref 142, .ref 143, .int (V 132 14), .int (V 132 15), .int (V 132 16), .ref 144, .ref 145, .int (V 132 19), .int (V 132 20), .int (V 132 21), .int (V 132 22), .ref 146, .ref 147, .ref 148, .int (V 132 26), .int (V 132 27), .int (V 132 28), .ref 149, .int (V 132 30), .int (V 132 31), .ref 150, .ref 151, .ref 152, .int (V 132 35), .int (V 132 36), .ref 153, .ref 154, .ref 155, .ref 156, .int (V 132 41), .int (V 132 42), .int (V 132 43), .ref 157, .ref 158, .ref 159, .int (V 132 47), .int (V 132 48), .int x, .int (V 132 50), .ref 160, .ref 161, .ref 162, .ref 163])) = xh A (up2 V 132 49 x) tx cu := rfl
theorem yp_132_50 (A V : Nat → Nat → Int32) (tx : List xh_T) (cu : Value) (x : Int32) : (xh A V tx cu).set 68 (.inr (9, [.ref 133, .ref 134, .int (V 132 2), .ref 135, .int (V 132 4), .ref 136, .ref 137, .ref 138, .ref 139, .int (V 132 9), .ref 140, .ref 141, .ref 142, .ref 143, .int (V 132 14), .int (V 132 15), .int (V 132 16), .ref 144, .ref 145, .int (V 132 19), .int (V 132 20), .int (V 132 21), .int (V 132 22), .ref 146, .ref 147, .ref 148, .int (V 132 26), .int (V 132 27), .int (V 132 28), .ref 149, .int (V 132 30), .int (V 132 31), .ref 150, .ref 151, .ref 152, .int (V 132 35), .int (V 132 36), .ref 153, .ref 154, .ref 155, .ref 156, .int (V 132 41), .int (V 132 42), .int (V 132 43), .ref 157, .ref 158, .ref 159, .int (V 132 47), .int (V 132 48), .int (V 132 49), .int x, .ref 160, .ref 161, .ref 162, .ref 163])) = xh A (up2 V 132 50 x) tx cu := rfl
/-- the fields of an object -/
def yl (V : Nat → Nat → Int32) (cu : Value) (r : Nat) : Nat → List yF → List Value
  | _, [] => []
  | k, f :: t => y_v V cu r k f :: yl V cu r (k + 1) t
theorem yl_len (V : Nat → Nat → Int32) (cu : Value) (r : Nat) : ∀ (fs : List yF) (k : Nat), (yl V cu r k fs).length = fs.length
  | [], _ => rfl
  | _ :: t, k => by rw [yl, List.length_cons, List.length_cons, yl_len V cu r t]
theorem yl_get (V : Nat → Nat → Int32) (cu : Value) (r : Nat) : ∀ (fs : List yF) (k j : Nat) (f : yF), fs[j]? = some f → (yl V cu r k fs)[j]? = some (y_v V cu r (k + j) f)
  | [], _, _, _, h => by simp at h
  | g :: t, k, 0, f, h => by simp at h; subst h; rfl
  | g :: t, k, j + 1, f, h => by
    rw [List.getElem?_cons_succ] at h
    rw [yl, List.getElem?_cons_succ, yl_get V cu r t (k + 1) j f h, show k + 1 + j = k + (j + 1) by omega]
def yo_ok (r : Nat) : Prop := ∀ c fs, ys_O r = some (c, fs) → 64 ≤ r ∧ ∀ (A V : Nat → Nat → Int32) (tx : List xh_T) (cu : Value), (xh A V tx cu)[r - 64]? = some (.inr (c, yl V cu r 0 fs)) ∧ (∀ k, fs[k]? = some (.inr (.inr true)) → ∀ x, (xh A V tx cu).set (r - 64) (.inr (c, (yl V cu r 0 fs).set k (.int x))) = xh A (up2 V r k x) tx cu) ∧ ∀ k, fs[k]? = some (.inr (.inr false)) → ∀ x, (xh A V tx cu).set (r - 64) (.inr (c, (yl V cu r 0 fs).set k x)) = xh A V tx x
theorem yk_64 : yo_ok 64 := by
  intro c fs e
  have e2 : some (8, [.inl 65, .inl 72, .inl 73, .inl 77, .inl 81, .inl 84, .inl 95, .inl 98, .inl 99, .inl 100, .inl 101, .inl 114, .inl 115, .inr (.inr true), .inr (.inr true), .inr (.inr true), .inr (.inr true)]) = some (c, fs) := e
  cases e2
  refine ⟨by decide, fun A V tx cu => ⟨yo_64 A V tx cu, ?_, ?_⟩⟩
  ·
    intro k hk x
    match k, hk with
    | 0, hk => cases hk
    | 1, hk => cases hk
    | 2, hk => cases hk
    | 3, hk => cases hk
    | 4, hk => cases hk
    | 5, hk => cases hk
    | 6, hk => cases hk
    | 7, hk => cases hk
    | 8, hk => cases hk
    | 9, hk => cases hk
    | 10, hk => cases hk
    | 11, hk => cases hk
    | 12, hk => cases hk
    | 13, _ => exact yp_64_13 A V tx cu x
    | 14, _ => exact yp_64_14 A V tx cu x
    | 15, _ => exact yp_64_15 A V tx cu x
    | 16, _ => exact yp_64_16 A V tx cu x
    | (j + 17), hk => simp at hk
  ·
    intro k hk x
    exfalso
    match k, hk with
    | 0, hk => cases hk
    | 1, hk => cases hk
    | 2, hk => cases hk
    | 3, hk => cases hk
    | 4, hk => cases hk
    | 5, hk => cases hk
    | 6, hk => cases hk
    | 7, hk => cases hk
    | 8, hk => cases hk
    | 9, hk => cases hk
    | 10, hk => cases hk
    | 11, hk => cases hk
    | 12, hk => cases hk
    | 13, hk => cases hk
    | 14, hk => cases hk
    | 15, hk => cases hk
    | 16, hk => cases hk
    | (j + 17), hk => simp at hk
theorem yk_65 : yo_ok 65 := by
  intro c fs e
  have e2 : some (2, [.inl 66, .inl 67, .inl 68, .inr (.inr true), .inl 69, .inl 70, .inl 71, .inr (.inr true)]) = some (c, fs) := e
  cases e2
  refine ⟨by decide, fun A V tx cu => ⟨yo_65 A V tx cu, ?_, ?_⟩⟩
  ·
    intro k hk x
    match k, hk with
    | 0, hk => cases hk
    | 1, hk => cases hk
    | 2, hk => cases hk
    | 3, _ => exact yp_65_3 A V tx cu x
    | 4, hk => cases hk
    | 5, hk => cases hk
    | 6, hk => cases hk
    | 7, _ => exact yp_65_7 A V tx cu x
    | (j + 8), hk => simp at hk
  ·
    intro k hk x
    exfalso
    match k, hk with
    | 0, hk => cases hk
    | 1, hk => cases hk
    | 2, hk => cases hk
    | 3, hk => cases hk
    | 4, hk => cases hk
    | 5, hk => cases hk
    | 6, hk => cases hk
    | 7, hk => cases hk
    | (j + 8), hk => simp at hk
theorem yk_73 : yo_ok 73 := by
  intro c fs e
  have e2 : some (1, [.inl 74, .inl 75, .inl 76]) = some (c, fs) := e
  cases e2
  refine ⟨by decide, fun A V tx cu => ⟨yo_73 A V tx cu, ?_, ?_⟩⟩
  ·
    intro k hk x
    exfalso
    match k, hk with
    | 0, hk => cases hk
    | 1, hk => cases hk
    | 2, hk => cases hk
    | (j + 3), hk => simp at hk
  ·
    intro k hk x
    exfalso
    match k, hk with
    | 0, hk => cases hk
    | 1, hk => cases hk
    | 2, hk => cases hk
    | (j + 3), hk => simp at hk
theorem yk_77 : yo_ok 77 := by
  intro c fs e
  have e2 : some (1, [.inl 78, .inl 79, .inl 80]) = some (c, fs) := e
  cases e2
  refine ⟨by decide, fun A V tx cu => ⟨yo_77 A V tx cu, ?_, ?_⟩⟩
  ·
    intro k hk x
    exfalso
    match k, hk with
    | 0, hk => cases hk
    | 1, hk => cases hk
    | 2, hk => cases hk
    | (j + 3), hk => simp at hk
  ·
    intro k hk x
    exfalso
    match k, hk with
    | 0, hk => cases hk
    | 1, hk => cases hk
    | 2, hk => cases hk
    | (j + 3), hk => simp at hk
theorem yk_81 : yo_ok 81 := by
  intro c fs e
  have e2 : some (6, [.inl 65, .inl 72, .inl 82, .inl 83, .inr (.inr false), .inr (.inr true)]) = some (c, fs) := e
  cases e2
  refine ⟨by decide, fun A V tx cu => ⟨yo_81 A V tx cu, ?_, ?_⟩⟩
  ·
    intro k hk x
    match k, hk with
    | 0, hk => cases hk
    | 1, hk => cases hk
    | 2, hk => cases hk
    | 3, hk => cases hk
    | 4, hk => cases hk
    | 5, _ => exact yp_81_5 A V tx cu x
    | (j + 6), hk => simp at hk
  ·
    intro k hk x
    match k, hk with
    | 0, hk => cases hk
    | 1, hk => cases hk
    | 2, hk => cases hk
    | 3, hk => cases hk
    | 4, _ => exact yp_81_4 A V tx cu x
    | 5, hk => cases hk
    | (j + 6), hk => simp at hk
theorem yk_84 : yo_ok 84 := by
  intro c fs e
  have e2 : some (3, [.inr (.inr true), .inr (.inr true), .inl 65, .inl 81, .inl 73, .inl 85, .inl 89, .inl 90, .inl 91, .inl 92, .inl 93, .inr (.inr true), .inl 94, .inr (.inr true), .inr (.inr true)]) = some (c, fs) := e
  cases e2
  refine ⟨by decide, fun A V tx cu => ⟨yo_84 A V tx cu, ?_, ?_⟩⟩
  ·
    intro k hk x
    match k, hk with
    | 0, _ => exact yp_84_0 A V tx cu x
    | 1, _ => exact yp_84_1 A V tx cu x
    | 2, hk => cases hk
    | 3, hk => cases hk
    | 4, hk => cases hk
    | 5, hk => cases hk
    | 6, hk => cases hk
    | 7, hk => cases hk
    | 8, hk => cases hk
    | 9, hk => cases hk
    | 10, hk => cases hk
    | 11, _ => exact yp_84_11 A V tx cu x
    | 12, hk => cases hk
    | 13, _ => exact yp_84_13 A V tx cu x
    | 14, _ => exact yp_84_14 A V tx cu x
    | (j + 15), hk => simp at hk
  ·
    intro k hk x
    exfalso
    match k, hk with
    | 0, hk => cases hk
    | 1, hk => cases hk
    | 2, hk => cases hk
    | 3, hk => cases hk
    | 4, hk => cases hk
    | 5, hk => cases hk
    | 6, hk => cases hk
    | 7, hk => cases hk
    | 8, hk => cases hk
    | 9, hk => cases hk
    | 10, hk => cases hk
    | 11, hk => cases hk
    | 12, hk => cases hk
    | 13, hk => cases hk
    | 14, hk => cases hk
    | (j + 15), hk => simp at hk
theorem yk_85 : yo_ok 85 := by
  intro c fs e
  have e2 : some (1, [.inl 86, .inl 87, .inl 88]) = some (c, fs) := e
  cases e2
  refine ⟨by decide, fun A V tx cu => ⟨yo_85 A V tx cu, ?_, ?_⟩⟩
  ·
    intro k hk x
    exfalso
    match k, hk with
    | 0, hk => cases hk
    | 1, hk => cases hk
    | 2, hk => cases hk
    | (j + 3), hk => simp at hk
  ·
    intro k hk x
    exfalso
    match k, hk with
    | 0, hk => cases hk
    | 1, hk => cases hk
    | 2, hk => cases hk
    | (j + 3), hk => simp at hk
theorem yk_95 : yo_ok 95 := by
  intro c fs e
  have e2 : some (4, [.inl 96, .inr (.inr true), .inr (.inr true), .inl 97, .inr (.inr true), .inr (.inr true), .inr (.inr true), .inr (.inr true), .inr (.inr true)]) = some (c, fs) := e
  cases e2
  refine ⟨by decide, fun A V tx cu => ⟨yo_95 A V tx cu, ?_, ?_⟩⟩
  ·
    intro k hk x
    match k, hk with
    | 0, hk => cases hk
    | 1, _ => exact yp_95_1 A V tx cu x
    | 2, _ => exact yp_95_2 A V tx cu x
    | 3, hk => cases hk
    | 4, _ => exact yp_95_4 A V tx cu x
    | 5, _ => exact yp_95_5 A V tx cu x
    | 6, _ => exact yp_95_6 A V tx cu x
    | 7, _ => exact yp_95_7 A V tx cu x
    | 8, _ => exact yp_95_8 A V tx cu x
    | (j + 9), hk => simp at hk
  ·
    intro k hk x
    exfalso
    match k, hk with
    | 0, hk => cases hk
    | 1, hk => cases hk
    | 2, hk => cases hk
    | 3, hk => cases hk
    | 4, hk => cases hk
    | 5, hk => cases hk
    | 6, hk => cases hk
    | 7, hk => cases hk
    | 8, hk => cases hk
    | (j + 9), hk => simp at hk
theorem yk_115 : yo_ok 115 := by
  intro c fs e
  have e2 : some (0, [.inl 116, .inl 120, .inl 121, .inr (.inr true), .inr (.inr true), .inr (.inr true), .inr (.inr true)]) = some (c, fs) := e
  cases e2
  refine ⟨by decide, fun A V tx cu => ⟨yo_115 A V tx cu, ?_, ?_⟩⟩
  ·
    intro k hk x
    match k, hk with
    | 0, hk => cases hk
    | 1, hk => cases hk
    | 2, hk => cases hk
    | 3, _ => exact yp_115_3 A V tx cu x
    | 4, _ => exact yp_115_4 A V tx cu x
    | 5, _ => exact yp_115_5 A V tx cu x
    | 6, _ => exact yp_115_6 A V tx cu x
    | (j + 7), hk => simp at hk
  ·
    intro k hk x
    exfalso
    match k, hk with
    | 0, hk => cases hk
    | 1, hk => cases hk
    | 2, hk => cases hk
    | 3, hk => cases hk
    | 4, hk => cases hk
    | 5, hk => cases hk
    | 6, hk => cases hk
    | (j + 7), hk => simp at hk
theorem yk_116 : yo_ok 116 := by
  intro c fs e
  have e2 : some (1, [.inl 117, .inl 118, .inl 119]) = some (c, fs) := e
  cases e2
  refine ⟨by decide, fun A V tx cu => ⟨yo_116 A V tx cu, ?_, ?_⟩⟩
  ·
    intro k hk x
    exfalso
    match k, hk with
    | 0, hk => cases hk
    | 1, hk => cases hk
    | 2, hk => cases hk
    | (j + 3), hk => simp at hk
  ·
    intro k hk x
    exfalso
    match k, hk with
    | 0, hk => cases hk
    | 1, hk => cases hk
    | 2, hk => cases hk
    | (j + 3), hk => simp at hk
theorem yk_122 : yo_ok 122 := by
  intro c fs e
  have e2 : some (5, [.inl 123, .inr (.inr true), .inr (.inr true)]) = some (c, fs) := e
  cases e2
  refine ⟨by decide, fun A V tx cu => ⟨yo_122 A V tx cu, ?_, ?_⟩⟩
  ·
    intro k hk x
    match k, hk with
    | 0, hk => cases hk
    | 1, _ => exact yp_122_1 A V tx cu x
    | 2, _ => exact yp_122_2 A V tx cu x
    | (j + 3), hk => simp at hk
  ·
    intro k hk x
    exfalso
    match k, hk with
    | 0, hk => cases hk
    | 1, hk => cases hk
    | 2, hk => cases hk
    | (j + 3), hk => simp at hk
theorem yk_124 : yo_ok 124 := by
  intro c fs e
  have e2 : some (5, [.inl 125, .inr (.inr true), .inr (.inr true)]) = some (c, fs) := e
  cases e2
  refine ⟨by decide, fun A V tx cu => ⟨yo_124 A V tx cu, ?_, ?_⟩⟩
  ·
    intro k hk x
    match k, hk with
    | 0, hk => cases hk
    | 1, _ => exact yp_124_1 A V tx cu x
    | 2, _ => exact yp_124_2 A V tx cu x
    | (j + 3), hk => simp at hk
  ·
    intro k hk x
    exfalso
    match k, hk with
    | 0, hk => cases hk
    | 1, hk => cases hk
    | 2, hk => cases hk
    | (j + 3), hk => simp at hk
theorem yk_126 : yo_ok 126 := by
  intro c fs e
  have e2 : some (5, [.inl 127, .inr (.inr true), .inr (.inr true)]) = some (c, fs) := e
  cases e2
  refine ⟨by decide, fun A V tx cu => ⟨yo_126 A V tx cu, ?_, ?_⟩⟩
  ·
    intro k hk x
    match k, hk with
    | 0, hk => cases hk
    | 1, _ => exact yp_126_1 A V tx cu x
    | 2, _ => exact yp_126_2 A V tx cu x
    | (j + 3), hk => simp at hk
  ·
    intro k hk x
    exfalso
    match k, hk with
    | 0, hk => cases hk
    | 1, hk => cases hk
    | 2, hk => cases hk
    | (j + 3), hk => simp at hk
theorem yk_128 : yo_ok 128 := by
  intro c fs e
  have e2 : some (5, [.inl 129, .inr (.inr true), .inr (.inr true)]) = some (c, fs) := e
  cases e2
  refine ⟨by decide, fun A V tx cu => ⟨yo_128 A V tx cu, ?_, ?_⟩⟩
  ·
    intro k hk x
    match k, hk with
    | 0, hk => cases hk
    | 1, _ => exact yp_128_1 A V tx cu x
    | 2, _ => exact yp_128_2 A V tx cu x
    | (j + 3), hk => simp at hk
  ·
    intro k hk x
    exfalso
    match k, hk with
    | 0, hk => cases hk
    | 1, hk => cases hk
    | 2, hk => cases hk
    | (j + 3), hk => simp at hk
theorem yk_130 : yo_ok 130 := by
  intro c fs e
  have e2 : some (7, [.inl 131, .inr (.inl 7), .inr (.inl 8)]) = some (c, fs) := e
  cases e2
  refine ⟨by decide, fun A V tx cu => ⟨yo_130 A V tx cu, ?_, ?_⟩⟩
  ·
    intro k hk x
    exfalso
    match k, hk with
    | 0, hk => cases hk
    | 1, hk => cases hk
    | 2, hk => cases hk
    | (j + 3), hk => simp at hk
  ·
    intro k hk x
    exfalso
    match k, hk with
    | 0, hk => cases hk
    | 1, hk => cases hk
    | 2, hk => cases hk
    | (j + 3), hk => simp at hk
theorem yk_132 : yo_ok 132 := by
  intro c fs e
  have e2 : some (9, [.inl 133, .inl 134, .inr (.inr true), .inl 135, .inr (.inr true), .inl 136, .inl 137, .inl 138, .inl 139, .inr (.inr true), .inl 140, .inl 141, .inl 142, .inl 143, .inr (.inr true), .inr (.inr true), .inr (.inr true), .inl 144, .inl 145, .inr (.inr true), .inr (.inr true), .inr (.inr true), .inr (.inr true), .inl 146, .inl 147, .inl 148, .inr (.inr true), .inr (.inr true), .inr (.inr true), .inl 149, .inr (.inr true), .inr (.inr true), .inl 150, .inl 151, .inl 152, .inr (.inr true), .inr (.inr true), .inl 153, .inl 154, .inl 155, .inl 156, .inr (.inr true), .inr (.inr true), .inr (.inr true), .inl 157, .inl 158, .inl 159, .inr (.inr true), .inr (.inr true), .inr (.inr true), .inr (.inr true), .inl 160, .inl 161, .inl 162, .inl 163]) = some (c, fs) := e
  cases e2
  refine ⟨by decide, fun A V tx cu => ⟨yo_132 A V tx cu, ?_, ?_⟩⟩
  ·
    intro k hk x
    match k, hk with
    | 0, hk => cases hk
    | 1, hk => cases hk
    | 2, _ => exact yp_132_2 A V tx cu x
    | 3, hk => cases hk
    | 4, _ => exact yp_132_4 A V tx cu x
    | 5, hk => cases hk
    | 6, hk => cases hk
    | 7, hk => cases hk
    | 8, hk => cases hk
    | 9, _ => exact yp_132_9 A V tx cu x
    | 10, hk => cases hk
    | 11, hk => cases hk
    | 12, hk => cases hk
    | 13, hk => cases hk
    | 14, _ => exact yp_132_14 A V tx cu x
    | 15, _ => exact yp_132_15 A V tx cu x
    | 16, _ => exact yp_132_16 A V tx cu x
    | 17, hk => cases hk
    | 18, hk => cases hk
    | 19, _ => exact yp_132_19 A V tx cu x
    | 20, _ => exact yp_132_20 A V tx cu x
    | 21, _ => exact yp_132_21 A V tx cu x
    | 22, _ => exact yp_132_22 A V tx cu x
    | 23, hk => cases hk
    | 24, hk => cases hk
    | 25, hk => cases hk
    | 26, _ => exact yp_132_26 A V tx cu x
    | 27, _ => exact yp_132_27 A V tx cu x
    | 28, _ => exact yp_132_28 A V tx cu x
    | 29, hk => cases hk
    | 30, _ => exact yp_132_30 A V tx cu x
    | 31, _ => exact yp_132_31 A V tx cu x
    | 32, hk => cases hk
    | 33, hk => cases hk
    | 34, hk => cases hk
    | 35, _ => exact yp_132_35 A V tx cu x
    | 36, _ => exact yp_132_36 A V tx cu x
    | 37, hk => cases hk
    | 38, hk => cases hk
    | 39, hk => cases hk
    | 40, hk => cases hk
    | 41, _ => exact yp_132_41 A V tx cu x
    | 42, _ => exact yp_132_42 A V tx cu x
    | 43, _ => exact yp_132_43 A V tx cu x
    | 44, hk => cases hk
    | 45, hk => cases hk
    | 46, hk => cases hk
    | 47, _ => exact yp_132_47 A V tx cu x
    | 48, _ => exact yp_132_48 A V tx cu x
    | 49, _ => exact yp_132_49 A V tx cu x
    | 50, _ => exact yp_132_50 A V tx cu x
    | 51, hk => cases hk
    | 52, hk => cases hk
    | 53, hk => cases hk
    | 54, hk => cases hk
    | (j + 55), hk => simp at hk
  ·
    intro k hk x
    exfalso
    match k, hk with
    | 0, hk => cases hk
    | 1, hk => cases hk
    | 2, hk => cases hk
    | 3, hk => cases hk
    | 4, hk => cases hk
    | 5, hk => cases hk
    | 6, hk => cases hk
    | 7, hk => cases hk
    | 8, hk => cases hk
    | 9, hk => cases hk
    | 10, hk => cases hk
    | 11, hk => cases hk
    | 12, hk => cases hk
    | 13, hk => cases hk
    | 14, hk => cases hk
    | 15, hk => cases hk
    | 16, hk => cases hk
    | 17, hk => cases hk
    | 18, hk => cases hk
    | 19, hk => cases hk
    | 20, hk => cases hk
    | 21, hk => cases hk
    | 22, hk => cases hk
    | 23, hk => cases hk
    | 24, hk => cases hk
    | 25, hk => cases hk
    | 26, hk => cases hk
    | 27, hk => cases hk
    | 28, hk => cases hk
    | 29, hk => cases hk
    | 30, hk => cases hk
    | 31, hk => cases hk
    | 32, hk => cases hk
    | 33, hk => cases hk
    | 34, hk => cases hk
    | 35, hk => cases hk
    | 36, hk => cases hk
    | 37, hk => cases hk
    | 38, hk => cases hk
    | 39, hk => cases hk
    | 40, hk => cases hk
    | 41, hk => cases hk
    | 42, hk => cases hk
    | 43, hk => cases hk
    | 44, hk => cases hk
    | 45, hk => cases hk
    | 46, hk => cases hk
    | 47, hk => cases hk
    | 48, hk => cases hk
    | 49, hk => cases hk
    | 50, hk => cases hk
    | 51, hk => cases hk
    | 52, hk => cases hk
    | 53, hk => cases hk
    | 54, hk => cases hk
    | (j + 55), hk => simp at hk
theorem yo_all (r : Nat) : yo_ok r := by
  intro k n e
  have e0 := e
  unfold ys_O at e
  cases q : Nat.blt r 115 with
  | true =>
    rw [q, cond_true] at e
    cases q : Nat.blt r 81 with
    | true =>
      rw [q, cond_true] at e
      cases q : Nat.blt r 73 with
      | true =>
        rw [q, cond_true] at e
        cases q : Nat.blt r 65 with
        | true =>
          rw [q, cond_true] at e
          cases q : Nat.beq r 64 with
          | true => have q := Nat.eq_of_beq_eq_true q; subst q; exact yk_64 k n e0
          | false => rw [q] at e; cases e
        | false =>
          rw [q, cond_false] at e
          cases q : Nat.beq r 65 with
          | true => have q := Nat.eq_of_beq_eq_true q; subst q; exact yk_65 k n e0
          | false => rw [q] at e; cases e
      | false =>
        rw [q, cond_false] at e
        cases q : Nat.blt r 77 with
        | true =>
          rw [q, cond_true] at e
          cases q : Nat.beq r 73 with
          | true => have q := Nat.eq_of_beq_eq_true q; subst q; exact yk_73 k n e0
          | false => rw [q] at e; cases e
        | false =>
          rw [q, cond_false] at e
          cases q : Nat.beq r 77 with
          | true => have q := Nat.eq_of_beq_eq_true q; subst q; exact yk_77 k n e0
          | false => rw [q] at e; cases e
    | false =>
      rw [q, cond_false] at e
      cases q : Nat.blt r 85 with
      | true =>
        rw [q, cond_true] at e
        cases q : Nat.blt r 84 with
        | true =>
          rw [q, cond_true] at e
          cases q : Nat.beq r 81 with
          | true => have q := Nat.eq_of_beq_eq_true q; subst q; exact yk_81 k n e0
          | false => rw [q] at e; cases e
        | false =>
          rw [q, cond_false] at e
          cases q : Nat.beq r 84 with
          | true => have q := Nat.eq_of_beq_eq_true q; subst q; exact yk_84 k n e0
          | false => rw [q] at e; cases e
      | false =>
        rw [q, cond_false] at e
        cases q : Nat.blt r 95 with
        | true =>
          rw [q, cond_true] at e
          cases q : Nat.beq r 85 with
          | true => have q := Nat.eq_of_beq_eq_true q; subst q; exact yk_85 k n e0
          | false => rw [q] at e; cases e
        | false =>
          rw [q, cond_false] at e
          cases q : Nat.beq r 95 with
          | true => have q := Nat.eq_of_beq_eq_true q; subst q; exact yk_95 k n e0
          | false => rw [q] at e; cases e
  | false =>
    rw [q, cond_false] at e
    cases q : Nat.blt r 126 with
    | true =>
      rw [q, cond_true] at e
      cases q : Nat.blt r 122 with
      | true =>
        rw [q, cond_true] at e
        cases q : Nat.blt r 116 with
        | true =>
          rw [q, cond_true] at e
          cases q : Nat.beq r 115 with
          | true => have q := Nat.eq_of_beq_eq_true q; subst q; exact yk_115 k n e0
          | false => rw [q] at e; cases e
        | false =>
          rw [q, cond_false] at e
          cases q : Nat.beq r 116 with
          | true => have q := Nat.eq_of_beq_eq_true q; subst q; exact yk_116 k n e0
          | false => rw [q] at e; cases e
      | false =>
        rw [q, cond_false] at e
        cases q : Nat.blt r 124 with
        | true =>
          rw [q, cond_true] at e
          cases q : Nat.beq r 122 with
          | true => have q := Nat.eq_of_beq_eq_true q; subst q; exact yk_122 k n e0
          | false => rw [q] at e; cases e
        | false =>
          rw [q, cond_false] at e
          cases q : Nat.beq r 124 with
          | true => have q := Nat.eq_of_beq_eq_true q; subst q; exact yk_124 k n e0
          | false => rw [q] at e; cases e
    | false =>
      rw [q, cond_false] at e
      cases q : Nat.blt r 130 with
      | true =>
        rw [q, cond_true] at e
        cases q : Nat.blt r 128 with
        | true =>
          rw [q, cond_true] at e
          cases q : Nat.beq r 126 with
          | true => have q := Nat.eq_of_beq_eq_true q; subst q; exact yk_126 k n e0
          | false => rw [q] at e; cases e
        | false =>
          rw [q, cond_false] at e
          cases q : Nat.beq r 128 with
          | true => have q := Nat.eq_of_beq_eq_true q; subst q; exact yk_128 k n e0
          | false => rw [q] at e; cases e
      | false =>
        rw [q, cond_false] at e
        cases q : Nat.blt r 132 with
        | true =>
          rw [q, cond_true] at e
          cases q : Nat.beq r 130 with
          | true => have q := Nat.eq_of_beq_eq_true q; subst q; exact yk_130 k n e0
          | false => rw [q] at e; cases e
        | false =>
          rw [q, cond_false] at e
          cases q : Nat.beq r 132 with
          | true => have q := Nat.eq_of_beq_eq_true q; subst q; exact yk_132 k n e0
          | false => rw [q] at e; cases e
theorem yr_98 (A V : Nat → Nat → Int32) (tx : List xh_T) (cu : Value) : (xh A V tx cu)[34]? = some (.inl (5, 6, .inr (xh_tr tx.length))) := rfl
theorem yr_101 (A V : Nat → Nat → Int32) (tx : List xh_T) (cu : Value) : (xh A V tx cu)[37]? = some (.inl (3, 12, .inr (fun i => if i < 12 then some (102 + i) else none))) := rfl
theorem yr_114 (A V : Nat → Nat → Int32) (tx : List xh_T) (cu : Value) : (xh A V tx cu)[50]? = some (.inl (4, 4, .inr xh_sh)) := rfl
theorem yr_all (r k n : Nat) (tx : List xh_T) (f : Nat → Option Nat) (e : ys_R tx r = some (k, n, f)) : 64 ≤ r ∧ ∀ (A V : Nat → Nat → Int32) (cu : Value), (xh A V tx cu)[r - 64]? = some (.inl (k, n, .inr f)) := by
  unfold ys_R at e
  cases q : Nat.blt r 101 with
  | true =>
    rw [q, cond_true] at e
    cases q : Nat.beq r 98 with
    | true => have q := Nat.eq_of_beq_eq_true q; subst q; exact (by cases e; exact ⟨by decide, fun A V cu => yr_98 A V tx cu⟩)
    | false => rw [q] at e; cases e
  | false =>
    rw [q, cond_false] at e
    cases q : Nat.blt r 114 with
    | true =>
      rw [q, cond_true] at e
      cases q : Nat.beq r 101 with
      | true => have q := Nat.eq_of_beq_eq_true q; subst q; exact (by cases e; exact ⟨by decide, fun A V cu => yr_101 A V tx cu⟩)
      | false => rw [q] at e; cases e
    | false =>
      rw [q, cond_false] at e
      cases q : Nat.beq r 114 with
      | true => have q := Nat.eq_of_beq_eq_true q; subst q; exact (by cases e; exact ⟨by decide, fun A V cu => yr_114 A V tx cu⟩)
      | false => rw [q] at e; cases e
abbrev y_S : Type := Nat × List (Option Value) × List Value × (Nat → Nat → Int32) × (Nat → Nat → Int32) × Value
abbrev y_Y : Type := Option ((y_S ⊕ Option Value) × Option Bool)
def y_go (pc : Nat) (L : List (Option Value)) (st : List Value) (A V : Nat → Nat → Int32) (cu : Value) (c : Option Bool) : y_Y := some (.inl (pc, L, st, A, V, cu), c)
/-- what leaves the heap alone -/
def y_pl : Instr → Bool
  | .iconst _ => true
  | .bipush _ => true
  | .sipush _ => true
  | .lconst _ => true
  | .ldc _ => true
  | .ldc_w _ => true
  | .ldc2_w _ => true
  | .aconst_null => true
  | .getstatic _ => true
  | .iload _ => true
  | .iload_n _ => true
  | .lload _ => true
  | .lload_n _ => true
  | .aload _ => true
  | .aload_n _ => true
  | .istore _ => true
  | .istore_n _ => true
  | .lstore _ => true
  | .lstore_n _ => true
  | .astore _ => true
  | .astore_n _ => true
  | .iinc _ _ => true
  | .iadd => true
  | .isub => true
  | .imul => true
  | .iand => true
  | .ior => true
  | .ixor => true
  | .ishl => true
  | .ishr => true
  | .iushr => true
  | .idiv => true
  | .irem => true
  | .ineg => true
  | .i2l => true
  | .i2b => true
  | .i2s => true
  | .l2i => true
  | .ladd => true
  | .lmul => true
  | .land => true
  | .ldiv => true
  | .lrem => true
  | .lcmp => true
  | .dup => true
  | .dup2 => true
  | .pop => true
  | .ifCond _ _ => true
  | .if_icmp _ _ => true
  | .ifnull _ => true
  | .ifnonnull _ => true
  | .goto _ => true
  | .tableswitch _ _ _ _ => true
  | .lookupswitch _ _ => true
  | .ireturn => true
  | .lreturn => true
  | .areturn => true
  | .return_ => true
  | _ => false
def y_li (k : Nat) (A V : Nat → Nat → Int32) (cu : Value) : xq_Y → y_Y
  | some (.inl (pc, L, st, _), c) => some (.inl (pc, L, st, A, V, cu), match k with | 0 => none | _ => some c)
  | some (.inr (r, _), c) => some (.inr r, match k with | 0 => none | _ => some c)
  | none => none
def y_rh (h : xq_H) : xq_S ⊕ xq_R → xq_S ⊕ xq_R
  | .inl (pc, L, st, _) => .inl (pc, L, st, h)
  | .inr (r, _) => .inr (r, h)
theorem y_hi {ro : Nat → Option xq_C} {b pc : Nat} {L : List (Option Value)} {st : List Value} {I : xq_I} (hp : y_pl I.1 = true) (h : xq_H) : xq_sy ro b pc L st h I = (xq_sy ro b pc L st [] I).map (fun p => (y_rh h p.1, p.2)) := by
  obtain ⟨i, len, a, b', e, pl, v⟩ := I
  cases i <;> (first | (cases hp; done) | rfl | skip)
  all_goals first
    | (rcases st with _ | ⟨v1, t⟩ <;> first | rfl | (cases v1 <;> rfl))
    | (rcases st with _ | ⟨v1, _ | ⟨v2, t⟩⟩ <;> first | rfl | (cases v1 <;> rfl) | (cases v1 <;> cases v2 <;> rfl))
    | (rcases st with _ | ⟨v1, _ | ⟨v2, t⟩⟩ <;> first | rfl | (cases v1 <;> rfl) | (cases v1 <;> rcases b with _ | b <;> rfl) | (cases v1 <;> cases v2 <;> rcases b with _ | b <;> rfl))
    | (dsimp only [xq_sy, xq_step]; cases xq_ld L a with | none => rfl | some w => cases w <;> rfl)
    | (dsimp only [xq_sy, xq_step]; cases xq_ld L a with | none => rfl | some w => (cases w <;> first | rfl | (cases xq_st1 L a _ <;> rfl)))
    | (dsimp only [xq_sy, xq_step]; cases xq_ld L a with | none => rfl | some w => (cases w <;> first | rfl | (rename_i x; cases q : xq_st1 L a (.int (x + Int32.ofInt _)) <;> rfl)))
    | (dsimp only [xq_sy, xq_step]; rcases st with _ | ⟨v1, t⟩ <;> first | rfl | (cases v1 <;> first | rfl | (dsimp only; cases xq_st1 L a _ <;> rfl) | (dsimp only; cases xq_st2 L a _ <;> rfl)))
    | (rcases st with _ | ⟨v1, _ | ⟨v2, t⟩⟩ <;> first | rfl | (cases v1 <;> first | rfl | (cases v2 <;> first | rfl | (dsimp only [xq_sy, xq_step]; split <;> rfl))) )
    | (rcases st with _ | ⟨v1, t⟩ <;> first | rfl | (cases v1 <;> first | rfl | (rcases b with _ | b <;> first | rfl | (dsimp only [xq_sy]; cases (Array.toList _)[b]? <;> rfl))))
    | (dsimp only [xq_sy, xq_step]; cases xq_ld L a with | none => rfl | some w => (cases w <;> first | rfl | (dsimp only; generalize xq_st1 L a _ = z; cases z <;> rfl)))

theorem y_k0 {ro : Nat → Option xq_C} {b pc : Nat} {L : List (Option Value)} {st : List Value} {h : xq_H} {I : xq_I} {o : xq_S ⊕ xq_R} {c : Bool} (hk : xq_kd I.1 = 0) (e : xq_sy ro b pc L st h I = some (o, c)) : c = true := by
  obtain ⟨i, len, a, b', e', pl, v⟩ := I
  cases i <;> first | (cases hk; done) | (dsimp only [xq_sy] at e; split at e <;> cases e; rfl)
def y_ald (ro : Nat → Option xq_C) (k pc : Nat) (L : List (Option Value)) (st : List Value) (A V : Nat → Nat → Int32) (cu : Value) : y_Y := match st with
  | .int i :: .ref r :: t => bif Nat.blt r 64 then (match ro r with
      | some (.inl (k', n, .inl f)) => bif Nat.beq k k' then y_go (pc + 1) L (.int (f i.toNatClampNeg) :: t) A V cu (some (xq_in i n)) else none
      | _ => none) else (match ys_A r with
      | some (k', n) => bif Nat.beq k k' then y_go (pc + 1) L (.int (A r i.toNatClampNeg) :: t) A V cu (some (xq_in i n)) else none
      | none => none)
  | _ => none
def y_ast (k : Nat) (nar : Int32 → Int32) (pc : Nat) (L : List (Option Value)) (st : List Value) (A V : Nat → Nat → Int32) (cu : Value) : y_Y := match st with
  | .int x :: .int i :: .ref r :: t => (match ys_A r with
      | some (k', n) => bif Nat.beq k k' then y_go (pc + 1) L t (va_up A r (upd (A r) i.toNatClampNeg (nar x))) V cu (some (xq_in i n)) else none
      | none => none)
  | _ => none
def y_cpy (pc : Nat) (L : List (Option Value)) (st : List Value) (A V : Nat → Nat → Int32) (cu : Value) : y_Y := match st with
  | .int n :: .int dp :: .ref d :: .int sp :: .ref r :: t => (match ys_A r, ys_A d with
    | some (0, n0), some (0, n1) => bif Nat.ble (xq_sum t) 8 then y_go (pc + 3) L t (va_up A d (va_cpy (A r) (A d) sp.toNatClampNeg dp.toNatClampNeg n.toNatClampNeg)) V cu (some (!decide (sp < 0) && !decide (dp < 0) && !decide (n < 0) && Nat.ble (sp.toNatClampNeg + n.toNatClampNeg) n0 && Nat.ble (dp.toNatClampNeg + n.toNatClampNeg) n1)) else none
    | _, _ => none)
  | _ => none
def y_sy (ro : Nat → Option xq_C) (tx : List xh_T) (b pc : Nat) (L : List (Option Value)) (st : List Value) (A V : Nat → Nat → Int32) (cu : Value) (I : xq_I) : y_Y := match I with
  | (i0, ln, fa, fb, fe, pl, fv) => match i0 with
  | .getfield _ => (match st with
    | .ref r :: t => (match ys_O r with
      | some (c, fs) => bif Nat.beq fa c then (match fs[fb]? with
        | some f => y_go (pc + 3) L (y_v V cu r fb f :: t) A V cu none
        | none => none) else none
      | none => none)
    | _ => none)
  | .putfield _ => (match st with
    | v :: .ref r :: t => (match ys_O r with
      | some (c, fs) => bif Nat.beq fa c then (match fs[fb]? with
        | some (.inr (.inr true)) => (match v with
          | .int x => y_go (pc + 3) L t A (up2 V r fb x) cu (some (xq_fit fe v))
          | _ => none)
        | some (.inr (.inr false)) => bif xq_fit fe v then y_go (pc + 3) L t A V v none else none
        | _ => none) else none
      | none => none)
    | _ => none)
  | .iaload => y_ald ro 0 pc L st A V cu
  | .baload => y_ald ro 1 pc L st A V cu
  | .caload => y_ald ro 2 pc L st A V cu
  | .iastore => y_ast 0 (fun x => x) pc L st A V cu
  | .bastore => y_ast 1 (fun x => vp_nar .boolean x) pc L st A V cu
  | .aaload => (match st with
    | .int i :: .ref r :: t => (match ys_R tx r with
      | some (k', n, f) => bif Nat.blt 2 k' && Nat.blt k' 6 then y_go (pc + 1) L (xq_ref (f i.toNatClampNeg) :: t) A V cu (some (xq_in i n)) else none
      | none => none)
    | _ => none)
  | .arraylength => (match st with
    | .ref r :: t => bif Nat.blt r 64 then (match ro r with
      | some (.inl (k', n, _)) => bif Nat.blt k' 6 then y_go (pc + 1) L (.int (Int32.ofNat n) :: t) A V cu none else none
      | _ => none) else (match ys_A r with
      | some (k', n) => bif Nat.blt k' 6 then y_go (pc + 1) L (.int (Int32.ofNat n) :: t) A V cu none else none
      | none => none)
    | _ => none)
  | .checkcast _ => (match st with
    | .ref r :: t => (match ys_A r with
      | some (0, _) => y_go (pc + 3) L (.ref r :: t) A V cu none
      | _ => none)
    | _ => none)
  | .invokespecial _ => bif Nat.beq fe 2 then (match st with
      | .ref _ :: t => bif Nat.ble (xq_sum t) 8 then y_go (pc + 3) L t A V cu none else none
      | _ => none) else none
  | .invokestatic _ => bif Nat.beq fe 2 then y_cpy pc L st A V cu else bif Nat.beq fe 3 then (match st with
      | .int y :: .int x :: t => bif Nat.ble (xq_sum t) 8 then y_go (pc + 3) L (.int (xq_mm fa x y) :: t) A V cu none else none
      | _ => none) else none
  | _ => bif y_pl i0 then y_li (xq_kd i0) A V cu (xq_sy ro b pc L st [] (i0, ln, fa, fb, fe, pl, fv)) else none
def y_o (tx : List xh_T) (A V : Nat → Nat → Int32) (cu : Value) : y_S ⊕ Option Value → xq_S ⊕ xq_R
  | .inl (pc, L, st, A', V', cu') => .inl (pc, L, st, xh A' V' tx cu')
  | .inr r => .inr (r, xh A V tx cu)
def y_tr : Option Bool → Prop
  | none => True
  | some c => c = true
theorem y_pl_ok {ro : Nat → Option xq_C} {tx : List xh_T} {b pc : Nat} {L : List (Option Value)} {st : List Value} {A V : Nat → Nat → Int32} {cu : Value} {I : xq_I} {o : y_S ⊕ Option Value} {c : Option Bool} (e : (bif y_pl I.1 then y_li (xq_kd I.1) A V cu (xq_sy ro b pc L st [] I) else none) = some (o, c)) (hc : y_tr c) (F : xq_F) : xq_step ro xq_df F pc L st (xh A V tx cu) I = some (y_o tx A V cu o) := by
  cases hp : y_pl I.1 with
  | false => rw [hp] at e; cases e
  | true =>
    rw [hp, cond_true] at e
    have hh := y_hi (ro := ro) (b := b) (pc := pc) (L := L) (st := st) hp (xh A V tx cu)
    cases q : xq_sy ro b pc L st [] I with
    | none => rw [q] at e; cases e
    | some p =>
      obtain ⟨o1, c1⟩ := p
      rw [q] at e hh
      have hk : c1 = true ∧ y_o tx A V cu o = y_rh (xh A V tx cu) o1 := by
        rcases o1 with ⟨pc', L', st', h'⟩ | ⟨r, h'⟩
        · simp only [y_li] at e
          cases e
          refine ⟨?_, rfl⟩
          cases hk : xq_kd I.1 with
          | zero =>
            exact y_k0 hk q
          | succ n => rw [hk] at hc; exact hc
        · simp only [y_li] at e
          cases e
          refine ⟨?_, rfl⟩
          cases hk : xq_kd I.1 with
          | zero => exact y_k0 hk q
          | succ n => rw [hk] at hc; exact hc
      rw [hk.2]
      exact xq_sy_ok hh hk.1 F

theorem y_ald_ok {ro : Nat → Option xq_C} {tx : List xh_T} {k pc : Nat} {L : List (Option Value)} {st : List Value} {A V : Nat → Nat → Int32} {cu : Value} {o : y_S ⊕ Option Value} {c : Option Bool} (e : y_ald ro k pc L st A V cu = some (o, c)) (hc : y_tr c) : xq_aldi ro k pc L st (xh A V tx cu) = some (y_o tx A V cu o) := by
  unfold y_ald at e
  split at e
  · rename_i i r t
    unfold xq_aldi xq_at
    dsimp only
    cases hr : Nat.blt r 64 with
    | true =>
      rw [hr, cond_true] at e
      rw [cond_true]
      split at e
      · rename_i k' n f hq
        rw [hq]
        dsimp only
        cases hk : Nat.beq k k' with
        | false => rw [hk] at e; cases e
        | true =>
          rw [hk, cond_true] at e
          cases e
          rw [show xq_in i n = true from hc]
          rfl
      · cases e
    | false =>
      rw [hr, cond_false] at e
      rw [cond_false]
      split at e
      · rename_i k' n hq
        rw [((ya_all r k' n hq).2 A V tx cu).1]
        dsimp only
        cases hk : Nat.beq k k' with
        | false => rw [hk] at e; cases e
        | true =>
          rw [hk, cond_true] at e
          cases e
          rw [show xq_in i n = true from hc]
          rfl
      · cases e
  · cases e
theorem y_r64 {r : Nat} (h : 64 ≤ r) : Nat.blt r 64 = false := by
  cases q : Nat.blt r 64 with
  | false => rfl
  | true => rw [Nat.blt_eq] at q; omega
theorem y_ast_ok {tx : List xh_T} {k pc : Nat} {nar : Int32 → Int32} {L : List (Option Value)} {st : List Value} {A V : Nat → Nat → Int32} {cu : Value} {o : y_S ⊕ Option Value} {c : Option Bool} (e : y_ast k nar pc L st A V cu = some (o, c)) (hc : y_tr c) : xq_asti k nar pc L st (xh A V tx cu) = some (y_o tx A V cu o) := by
  unfold y_ast at e
  split at e
  · rename_i x i r t
    unfold xq_asti
    dsimp only
    split at e
    · rename_i k' n hq
      have ha := ya_all r k' n hq
      have hb := ha.2 A V tx cu
      rw [y_r64 ha.1, cond_false, hb.1]
      dsimp only
      cases hk : Nat.beq k k' with
      | false => rw [hk] at e; cases e
      | true =>
        rw [hk, cond_true] at e
        cases e
        rw [show xq_in i n = true from hc, hb.2]
        rfl
    · cases e
  · cases e
theorem y_cpy_ok {tx : List xh_T} {pc : Nat} {L : List (Option Value)} {st : List Value} {A V : Nat → Nat → Int32} {cu : Value} {o : y_S ⊕ Option Value} {c : Option Bool} (e : y_cpy pc L st A V cu = some (o, c)) (hc : y_tr c) : xq_copy pc L st (xh A V tx cu) = some (y_o tx A V cu o) := by
  unfold y_cpy at e
  split at e
  · rename_i n dp d sp r t
    unfold xq_copy
    dsimp only
    split at e
    · rename_i n0 n1 hr hd
      have ha := ya_all r 0 n0 hr
      have hb := ya_all d 0 n1 hd
      rw [y_r64 ha.1, y_r64 hb.1]
      rw [show (false || false) = false from rfl, cond_false]
      rw [(ha.2 A V tx cu).1, (hb.2 A V tx cu).1]
      try dsimp only
      cases hk : Nat.ble (xq_sum t) 8 with
      | false => rw [hk] at e; cases e
      | true =>
        rw [hk, cond_true] at e
        cases e
        have hc : _ = true := hc
        show (bif (!decide (sp < 0) && !decide (dp < 0) && !decide (n < 0) && Nat.ble (sp.toNatClampNeg + n.toNatClampNeg) n0 && Nat.ble (dp.toNatClampNeg + n.toNatClampNeg) n1 && true) then xq_go (pc + 3) L t ((xh A V tx cu).set (d - 64) (.inl (0, n1, .inl (va_cpy (A r) (A d) sp.toNatClampNeg dp.toNatClampNeg n.toNatClampNeg)))) else none) = _
        rw [hc, (hb.2 A V tx cu).2]
        rfl
    · cases e
  · cases e
theorem y_ok {ro : Nat → Option xq_C} {tx : List xh_T} {b pc : Nat} {L : List (Option Value)} {st : List Value} {A V : Nat → Nat → Int32} {cu : Value} {I : xq_I} {o : y_S ⊕ Option Value} {c : Option Bool} (e : y_sy ro tx b pc L st A V cu I = some (o, c)) (hc : y_tr c) (F : xq_F) : xq_step ro xq_df F pc L st (xh A V tx cu) I = some (y_o tx A V cu o) := by
  obtain ⟨i, len, a, b', e', pl, v⟩ := I
  cases i with
  | getfield idx =>
    dsimp only [y_sy] at e
    dsimp only [xq_step]
    unfold xq_get
    split at e
    · rename_i r t
      dsimp only
      split at e
      · rename_i c' fs hq
        have ha := yo_all r c' fs hq
        rw [y_r64 ha.1, cond_false, (ha.2 A V tx cu).1]
        dsimp only
        cases hk : Nat.beq a c' with
        | false => rw [hk] at e; cases e
        | true =>
          rw [hk, cond_true] at e
          rw [cond_true]
          split at e
          · rename_i f hf
            rw [yl_get V cu r fs 0 b' f hf, Nat.zero_add]
            cases e
            rfl
          · cases e
      · cases e
    · cases e
  | putfield idx =>
    dsimp only [y_sy] at e
    dsimp only [xq_step]
    unfold xq_put
    split at e
    · rename_i v r t
      dsimp only
      split at e
      · rename_i c' fs hq
        have ha := yo_all r c' fs hq
        have hb := ha.2 A V tx cu
        rw [y_r64 ha.1, cond_false, hb.1]
        dsimp only
        cases hk : Nat.beq a c' with
        | false => rw [hk] at e; cases e
        | true =>
          rw [hk, cond_true] at e
          split at e
          · rename_i hf
            have hlt : Nat.blt b' (yl V cu r 0 fs).length = true := by rw [yl_len]; exact Nat.blt_eq.mpr (List.getElem?_eq_some_iff.mp hf).1
            split at e
            · rename_i x
              cases e
              rw [hlt, show xq_fit e' (.int x) = true from hc, hb.2.1 b' hf x]
              rfl
            · cases e
          · rename_i hf
            have hlt : Nat.blt b' (yl V cu r 0 fs).length = true := by rw [yl_len]; exact Nat.blt_eq.mpr (List.getElem?_eq_some_iff.mp hf).1
            cases hfit : xq_fit e' v with
            | false => rw [hfit] at e; cases e
            | true =>
              rw [hfit, cond_true] at e
              cases e
              rw [hlt, hb.2.2 b' hf v]
              rfl
          · cases e
      · cases e
    · cases e
  | iaload => exact y_ald_ok e hc
  | baload => exact y_ald_ok e hc
  | caload => exact y_ald_ok e hc
  | iastore => exact y_ast_ok e hc
  | bastore => exact y_ast_ok e hc
  | aaload =>
    dsimp only [y_sy] at e
    dsimp only [xq_step]
    unfold xq_aldr
    split at e
    · rename_i i r t
      dsimp only
      split at e
      · rename_i k' n f hq
        have ha := yr_all r k' n tx f hq
        rw [y_r64 ha.1, cond_false, ha.2 A V cu]
        dsimp only
        cases hk : (Nat.blt 2 k' && Nat.blt k' 6) with
        | false => rw [hk] at e; cases e
        | true =>
          rw [hk, cond_true] at e
          cases e
          rw [show xq_in i n = true from hc]
          rfl
      · cases e
    · cases e
  | arraylength =>
    dsimp only [y_sy] at e
    dsimp only [xq_step]
    unfold xq_alen xq_at
    split at e
    · rename_i r t
      dsimp only
      cases hr : Nat.blt r 64 with
      | true =>
        rw [hr, cond_true] at e
        rw [cond_true]
        split at e
        · rename_i k' n x hq
          rw [hq]
          dsimp only
          cases hk : Nat.blt k' 6 with
          | false => rw [hk] at e; cases e
          | true => rw [hk, cond_true] at e; cases e; rfl
        · cases e
      | false =>
        rw [hr, cond_false] at e
        rw [cond_false]
        split at e
        · rename_i k' n hq
          rw [((ya_all r k' n hq).2 A V tx cu).1]
          dsimp only
          cases hk : Nat.blt k' 6 with
          | false => rw [hk] at e; cases e
          | true => rw [hk, cond_true] at e; cases e; rfl
        · cases e
    · cases e
  | checkcast idx =>
    dsimp only [y_sy] at e
    dsimp only [xq_step]
    split at e
    · rename_i r t
      dsimp only
      split at e
      · rename_i n hq
        have ha := ya_all r 0 n hq
        rw [y_r64 ha.1, cond_false, (ha.2 A V tx cu).1]
        cases e
        rfl
      · cases e
    · cases e
  | invokespecial idx =>
    dsimp only [y_sy] at e
    dsimp only [xq_step]
    cases h2 : Nat.beq e' 2 with
    | false => rw [h2] at e; cases e
    | true =>
      rw [h2, cond_true] at e
      rw [cond_true]
      split at e
      · rename_i r t
        dsimp only
        cases hk : Nat.ble (xq_sum t) 8 with
        | false => rw [hk] at e; cases e
        | true => rw [hk, cond_true] at e; cases e; rfl
      · cases e
  | invokestatic idx =>
    dsimp only [y_sy] at e
    dsimp only [xq_step]
    cases h2 : Nat.beq e' 2 with
    | true => rw [h2, cond_true] at e; rw [cond_true]; exact y_cpy_ok e hc
    | false =>
      rw [h2, cond_false] at e
      rw [cond_false]
      cases h3 : Nat.beq e' 3 with
      | false => rw [h3] at e; cases e
      | true =>
        rw [h3, cond_true] at e
        rw [cond_true]
        unfold xq_min
        split at e
        · rename_i y x t
          dsimp only
          cases hk : Nat.ble (xq_sum t) 8 with
          | false => rw [hk] at e; cases e
          | true => rw [hk, cond_true] at e; cases e; rfl
        · cases e
  | _ => (refine y_pl_ok (b := b) (c := c) ?_ hc F; exact e)

/-- a call, the object's class by the shape -/
def y_recv (e b : Nat) (st : List Value) : Bool := match st[b]? with
  | some (.ref r) => bif Nat.blt r 64 then Nat.beq e 10 && Nat.blt 2 r && Nat.blt r 16 else (match ys_O r with
    | some (c, _) => Nat.beq e c
    | none => false)
  | _ => false
theorem y_recv_ok {tx : List xh_T} {A V : Nat → Nat → Int32} {cu : Value} {e b : Nat} {st : List Value} (h : y_recv e b st = true) : xq_recv (xh A V tx cu) e b st = true := by
  unfold y_recv at h
  unfold xq_recv
  split at h
  · rename_i r hq
    rw [hq]
    dsimp only
    cases hr : Nat.blt r 64 with
    | true => rw [hr, cond_true] at h; rw [cond_true]; exact h
    | false =>
      rw [hr, cond_false] at h
      rw [cond_false]
      split at h
      · rename_i c fs hs
        rw [((yo_all r c fs hs).2 A V tx cu).1]
        exact h
      · cases h
  · cases h
def y_c (st : List Value) (I : xq_I) : Option (Nat × Nat) := match I with
  | (i, _, a, b, e, _, _) => match i with
    | .invokespecial _ => bif Nat.beq e 2 then none else (match st[b]? with
      | some (.ref _) => some (a, b + 1)
      | _ => none)
    | .invokestatic _ => bif Nat.beq e 2 then none else bif Nat.beq e 3 then none else some (a, b)
    | .invokevirtual _ => bif Nat.beq e 20 then none else bif y_recv e b st then some (a, b + 1) else none
    | _ => none
theorem y_c_ok {tx : List xh_T} {A V : Nat → Nat → Int32} {cu : Value} {st : List Value} {I : xq_I} {k j : Nat} (e : y_c st I = some (k, j)) : xm_c (xh A V tx cu) st I = some (k, j) := by
  obtain ⟨i, len, a, b, e', pl, v⟩ := I
  cases i with
  | invokespecial idx => exact e
  | invokestatic idx => exact e
  | invokevirtual idx =>
    dsimp only [y_c] at e
    dsimp only [xm_c]
    cases h2 : Nat.beq e' 20 with
    | true => rw [h2] at e; cases e
    | false =>
      rw [h2, cond_false] at e
      rw [cond_false]
      cases h3 : y_recv e' b st with
      | false => rw [h3] at e; cases e
      | true => rw [h3, cond_true] at e; rw [y_recv_ok h3, cond_true]; exact e
  | _ => cases e
abbrev y_M : Type := List xm_R × (Nat → Option xq_I) × y_S
abbrev y_E : Type := (Option Value) × (Nat → Nat → Int32) × (Nat → Nat → Int32) × Value
def y_cc : Option Bool → List Bool → List Bool
  | none, cs => cs
  | some c, cs => c :: cs
/-- to have a number, a list evaluated -/
def yN {α : Type} (n : Nat) (k : Nat → α) : α := match n with
  | 0 => k 0
  | m + 1 => k (m + 1)
def yL {β α : Type} : List β → (List β → α) → α
  | [], k => k []
  | x :: t, k => yL t (fun t' => k (x :: t'))
def yB {α : Type} (m : Nat) (bs : List Nat) (k : Nat → List Nat → α) : α := match m with
  | 2 => (match bs with
    | b :: t => k b t
    | [] => k 0 [])
  | _ => k 0 bs
theorem yN_eq {α : Type} (n : Nat) (k : Nat → α) : yN n k = k n := by cases n <;> rfl
theorem yL_eq {β α : Type} : ∀ (l : List β) (k : List β → α), yL l k = k l
  | [], _ => rfl
  | x :: t, k => by rw [yL, yL_eq t]
theorem yB_ex {α : Type} (m : Nat) (bs : List Nat) (k : Nat → List Nat → α) : ∃ b bs', yB m bs k = k b bs' := by
  unfold yB
  split
  · split
    · exact ⟨_, _, rfl⟩
    · exact ⟨_, _, rfl⟩
  · exact ⟨_, _, rfl⟩
theorem yB_ex' {α : Type} {m : Nat} {bs : List Nat} {k : Nat → List Nat → α} {x : α} (e : yB m bs k = x) : ∃ b bs', k b bs' = x := by
  obtain ⟨b, bs', h⟩ := yB_ex m bs k
  exact ⟨b, bs', h.symm.trans e⟩
def y_mk (o : y_M ⊕ y_E) (c : Option Bool) (cs : List Bool) : Option ((y_M ⊕ y_E) × List Bool) := match c with
  | none => some (o, cs)
  | some c => some (o, c :: cs)
theorem y_mk_ok {o o' : y_M ⊕ y_E} {c : Option Bool} {cs cs' : List Bool} (e : y_mk o c cs = some (o', cs')) (h : xq_al cs') : o' = o ∧ y_tr c ∧ xq_al cs := by
  unfold y_mk at e
  split at e
  · cases e; exact ⟨rfl, trivial, h⟩
  · cases e; exact ⟨rfl, h.1, h.2⟩
def y_mx (ro : Nat → Option xq_C) (tx : List xh_T) : Nat → List Nat → List xm_R → (Nat → Option xq_I) → Nat → List (Option Value) → List Value → (Nat → Nat → Int32) → (Nat → Nat → Int32) → Value → Option ((y_M ⊕ y_E) × List Bool)
  | 0, _, fs, co, pc, L, st, A, V, cu => some (.inl (fs, co, pc, L, st, A, V, cu), [])
  | n + 1, bs, fs, co, pc, L, st, A, V, cu => match co pc with
    | none => none
    | some I => match y_c st I with
      | some (k, j) => bif Nat.ble j st.length && (Nat.ble (xq_sum (st.drop j)) 8 && Nat.blt fs.length 40) then (match xk_P k with
        | some (co', nl) => bif (st.take j).reverse.all (fun v => Nat.beq v.category 1) && Nat.ble (st.take j).reverse.length nl then
            yL (xq_lo (st.take j).reverse nl) (fun L' => yL (st.drop j) (fun sd => y_mx ro tx n bs ((co, pc + 3, L, sd) :: fs) co' 0 L' [] A V cu)) else none
        | none => none) else none
      | none => yB (xq_kd I.1) bs (fun b bs' => match y_sy ro tx b pc L st A V cu I with
          | some (.inl (pc', L', st', A', V', cu'), c) => (match yN pc' (fun pc'' => yL L' (fun L'' => y_mx ro tx n bs' fs co pc'' L'' st' A' V' cu')) with
            | some (o, cs) => y_mk o c cs
            | none => none)
          | some (.inr r, c) => (match fs with
            | [] => y_mk (.inr (r, A, V, cu)) c []
            | (co', pc', L', st') :: fs' => (match yN pc' (fun pc'' => y_mx ro tx n bs' fs' co' pc'' L' (r.toList ++ st') A V cu) with
              | some (o, cs) => y_mk o c cs
              | none => none))
          | none => none)
def y_end (ro : Nat → Option xq_C) (tx : List xh_T) (D : Nat) (Q : Option Value → xq_H → Prop) : y_M ⊕ y_E → Prop
  | .inl (fs, co, pc, L, st, A, V, cu) => ∀ d, d + fs.length = D → xw ro d co pc L st (xh A V tx cu) (xK ro fs d Q)
  | .inr (r, A, V, cu) => Q r (xh A V tx cu)
theorem y_cc_ok {c : Option Bool} {cs : List Bool} (h : xq_al (y_cc c cs)) : y_tr c ∧ xq_al cs := by
  cases c with
  | none => exact ⟨trivial, h⟩
  | some c => exact h
theorem ym_ok {ro : Nat → Option xq_C} {tx : List xh_T} {D : Nat} {Q : Option Value → xq_H → Prop} (hD : 60 ≤ D) : ∀ (n : Nat) (bs : List Nat) (fs : List xm_R) (co : Nat → Option xq_I) (pc : Nat) (L : List (Option Value)) (st : List Value) (A V : Nat → Nat → Int32) (cu : Value) (o : y_M ⊕ y_E) (cs : List Bool), y_mx ro tx n bs fs co pc L st A V cu = some (o, cs) → xq_al cs → y_end ro tx D Q o → ∀ d, d + fs.length = D → xw ro d co pc L st (xh A V tx cu) (xK ro fs d Q) := by
  intro n
  induction n with
  | zero =>
    intro bs fs co pc L st A V cu o cs e hc k d hd
    cases e
    exact k d hd
  | succ n ih =>
    intro bs fs co pc L st A V cu o cs e hc k d hd
    rw [y_mx] at e
    split at e
    · cases e
    · rename_i I hI
      split at e
      · rename_i k0 j hcall
        cases hj : (Nat.ble j st.length && (Nat.ble (xq_sum (st.drop j)) 8 && Nat.blt fs.length 40)) with
        | false => rw [hj] at e; cases e
        | true =>
          rw [hj, cond_true] at e
          rw [Bool.and_eq_true, Bool.and_eq_true] at hj
          have hlt := xq_blt_t hj.2.2
          have hj2 : (Nat.ble j st.length && Nat.ble (xq_sum (st.drop j)) 8) = true := by rw [hj.1, hj.2.1]; rfl
          obtain ⟨d', rfl⟩ : ∃ d', d = d' + 1 := ⟨d - 1, by omega⟩
          split at e
          · rename_i co' nl hP
            cases ha : ((st.take j).reverse.all (fun v => Nat.beq v.category 1) && Nat.ble (st.take j).reverse.length nl) with
            | false => rw [ha] at e; cases e
            | true =>
              rw [ha, cond_true, yL_eq, yL_eq] at e
              have := ih _ _ _ _ _ _ _ _ _ _ _ e hc k d' (by rw [List.length_cons]; omega)
              exact xw_call hI (fun F => xm_c_ok (y_c_ok hcall) F) hj2 rfl rfl (xe_of hP ha rfl this) (fun r h1 q => q)
          · cases e
      · obtain ⟨b0, bs0, e⟩ := yB_ex' e
        split at e
        · rename_i pc' L' st' A' V' cu' c es
          rw [yN_eq, yL_eq] at e
          split at e
          · rename_i o' cs' em
            have hc := y_mk_ok e hc
            cases hc.1
            have hc := hc.2
            exact xw_step hI (fun F => y_ok es hc.1 F) (ih _ _ _ _ _ _ _ _ _ _ _ em hc.2 k d hd)
          · cases e
        · rename_i r c es
          split at e
          · have hc := y_mk_ok e hc
            cases hc.1
            have hc := hc.2
            exact xw_ret hI (fun F => y_ok es hc.1 F) k
          · rename_i co' pc' L' st' fs'
            rw [yN_eq] at e
            split at e
            · rename_i o' cs' em
              have hc := y_mk_ok e hc
              cases hc.1
              have hc := hc.2
              exact xw_ret hI (fun F => y_ok es hc.1 F) (ih _ _ _ _ _ _ _ _ _ _ _ em hc.2 k (d + 1) (by rw [List.length_cons] at hd; omega))
            · cases e
        · cases e
/-- a path to a place of the same method -/
theorem xw_y {ro : Nat → Option xq_C} {tx : List xh_T} {d : Nat} {co : Nat → Option xq_I} {Q : Option Value → xq_H → Prop} (hd : 60 ≤ d) (n : Nat) (bs : List Nat) {pc pc' : Nat} {L L' : List (Option Value)} {st st' : List Value} {A V A' V' : Nat → Nat → Int32} {cu cu' : Value} {cs : List Bool} (e : y_mx ro tx n bs [] co pc L st A V cu = some (.inl ([], co, pc', L', st', A', V', cu'), cs)) (hc : xq_al cs) (k : xw ro d co pc' L' st' (xh A' V' tx cu') Q) : xw ro d co pc L st (xh A V tx cu) Q :=
  ym_ok hd n bs [] co pc L st A V cu _ cs e hc (fun d' hd' => by have : d' = d := hd'; subst this; exact k) d rfl
/-- a path to a return -/
theorem xw_yr {ro : Nat → Option xq_C} {tx : List xh_T} {d : Nat} {co : Nat → Option xq_I} {Q : Option Value → xq_H → Prop} (hd : 60 ≤ d) (n : Nat) (bs : List Nat) {pc : Nat} {L : List (Option Value)} {st : List Value} {A V A' V' : Nat → Nat → Int32} {cu cu' : Value} {r : Option Value} {cs : List Bool} (e : y_mx ro tx n bs [] co pc L st A V cu = some (.inr (r, A', V', cu'), cs)) (hc : xq_al cs) (k : Q r (xh A' V' tx cu')) : xw ro d co pc L st (xh A V tx cu) Q :=
  ym_ok hd n bs [] co pc L st A V cu _ cs e hc k d rfl
