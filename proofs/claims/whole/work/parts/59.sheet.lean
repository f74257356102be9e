/-! STATE THAT CHANGES: all else stays. -/
def kA_shee (a : Nat) : Bool := kA a && !(Nat.beq a 123 || Nat.beq a 125 || Nat.beq a 127 || Nat.beq a 129 || Nat.beq a 160 || Nat.beq a 161 || Nat.beq a 162)
def kV_shee (a k : Nat) : Bool := kV a k && !(Nat.beq a 122 || Nat.beq a 124 || Nat.beq a 126 || Nat.beq a 128)
theorem iv_but_shee {N : Nat → Nat} {B : Nat → Nat → Nat} {A V A' V' : xM} {tx : List xh_T} {cu cu' : Value}  (hA : ∀ a, kA_shee a = true → A' a = A a) (hV : ∀ a k, kV_shee a k = true → V' a k = V a k) (hv : iv N B A V tx cu) (n_shee : iv_shee N B A' V' tx cu') : iv N B A' V' tx cu' := by
  have a66 : A' 66 = A 66 := hA 66 rfl
  have a67 : A' 67 = A 67 := hA 67 rfl
  have a68 : A' 68 = A 68 := hA 68 rfl
  have a69 : A' 69 = A 69 := hA 69 rfl
  have a70 : A' 70 = A 70 := hA 70 rfl
  have a71 : A' 71 = A 71 := hA 71 rfl
  have a72 : A' 72 = A 72 := hA 72 rfl
  have a74 : A' 74 = A 74 := hA 74 rfl
  have a75 : A' 75 = A 75 := hA 75 rfl
  have a76 : A' 76 = A 76 := hA 76 rfl
  have a96 : A' 96 = A 96 := hA 96 rfl
  have a99 : A' 99 = A 99 := hA 99 rfl
  have a100 : A' 100 = A 100 := hA 100 rfl
  have a102 : A' 102 = A 102 := hA 102 rfl
  have a103 : A' 103 = A 103 := hA 103 rfl
  have a104 : A' 104 = A 104 := hA 104 rfl
  have a105 : A' 105 = A 105 := hA 105 rfl
  have a106 : A' 106 = A 106 := hA 106 rfl
  have a107 : A' 107 = A 107 := hA 107 rfl
  have a108 : A' 108 = A 108 := hA 108 rfl
  have a109 : A' 109 = A 109 := hA 109 rfl
  have a110 : A' 110 = A 110 := hA 110 rfl
  have a111 : A' 111 = A 111 := hA 111 rfl
  have a112 : A' 112 = A 112 := hA 112 rfl
  have a113 : A' 113 = A 113 := hA 113 rfl
  have a117 : A' 117 = A 117 := hA 117 rfl
  have a118 : A' 118 = A 118 := hA 118 rfl
  have a119 : A' 119 = A 119 := hA 119 rfl
  have a120 : A' 120 = A 120 := hA 120 rfl
  have a121 : A' 121 = A 121 := hA 121 rfl
  have a131 : A' 131 = A 131 := hA 131 rfl
  have a133 : A' 133 = A 133 := hA 133 rfl
  have a134 : A' 134 = A 134 := hA 134 rfl
  have a135 : A' 135 = A 135 := hA 135 rfl
  have a136 : A' 136 = A 136 := hA 136 rfl
  have a137 : A' 137 = A 137 := hA 137 rfl
  have a138 : A' 138 = A 138 := hA 138 rfl
  have a139 : A' 139 = A 139 := hA 139 rfl
  have a140 : A' 140 = A 140 := hA 140 rfl
  have a141 : A' 141 = A 141 := hA 141 rfl
  have a142 : A' 142 = A 142 := hA 142 rfl
  have a143 : A' 143 = A 143 := hA 143 rfl
  have a144 : A' 144 = A 144 := hA 144 rfl
  have a145 : A' 145 = A 145 := hA 145 rfl
  have a146 : A' 146 = A 146 := hA 146 rfl
  have a147 : A' 147 = A 147 := hA 147 rfl
  have a157 : A' 157 = A 157 := hA 157 rfl
  have a158 : A' 158 = A 158 := hA 158 rfl
  have a159 : A' 159 = A 159 := hA 159 rfl
  have v64_13 : V' 64 13 = V 64 13 := hV 64 13 rfl
  have v64_14 : V' 64 14 = V 64 14 := hV 64 14 rfl
  have v64_15 : V' 64 15 = V 64 15 := hV 64 15 rfl
  have v64_16 : V' 64 16 = V 64 16 := hV 64 16 rfl
  have v65_3 : V' 65 3 = V 65 3 := hV 65 3 rfl
  have v95_1 : V' 95 1 = V 95 1 := hV 95 1 rfl
  have v132_2 : V' 132 2 = V 132 2 := hV 132 2 rfl
  have v132_4 : V' 132 4 = V 132 4 := hV 132 4 rfl
  have v132_9 : V' 132 9 = V 132 9 := hV 132 9 rfl
  have v132_14 : V' 132 14 = V 132 14 := hV 132 14 rfl
  have v132_15 : V' 132 15 = V 132 15 := hV 132 15 rfl
  have v132_16 : V' 132 16 = V 132 16 := hV 132 16 rfl
  have v65_7 : V' 65 7 = V 65 7 := hV 65 7 rfl
  have v115_3 : V' 115 3 = V 115 3 := hV 115 3 rfl
  have v115_4 : V' 115 4 = V 115 4 := hV 115 4 rfl
  have v115_5 : V' 115 5 = V 115 5 := hV 115 5 rfl
  have v115_6 : V' 115 6 = V 115 6 := hV 115 6 rfl
  have v132_43 : V' 132 43 = V 132 43 := hV 132 43 rfl
  have v132_47 : V' 132 47 = V 132 47 := hV 132 47 rfl
  have v132_48 : V' 132 48 = V 132 48 := hV 132 48 rfl
  have v132_49 : V' 132 49 = V 132 49 := hV 132 49 rfl
  have v132_50 : V' 132 50 = V 132 50 := hV 132 50 rfl
  obtain ⟨w1, w2, w3, w4, w5, w6, w7, w8, w9, w10, w11, w12, w13⟩ := hv
  refine ⟨?_, ?_, ?_, ?_, ?_, ?_, ?_, ?_, ?_, n_shee, ?_, ?_, ?_⟩
  · unfold iv_num at w1 ⊢
    simp only [a66, a67, a68, a69, a70, a71, a72, a74, a75, a76, a96, a99, a100, a102, a103, a104, a105, a106, a107, a108, a109, a110, a111, a112, a113, a117, a118, a119, a120, a121, a131, a133, a134, a135, a136, a137, a138, a139, a140, a141, a142, a143, a144, a145, a146, a147, a157, a158, a159, v64_13, v64_14, v64_15, v64_16, v65_3, v95_1, v132_2, v132_4, v132_9, v132_14, v132_15, v132_16, v65_7, v115_3, v115_4, v115_5, v115_6, v132_43, v132_47, v132_48, v132_49, v132_50]
    exact w1
  · unfold iv_thin at w2 ⊢
    simp only [a66, a67, a68, a69, a70, a71, a72, a74, a75, a76, a96, a99, a100, a102, a103, a104, a105, a106, a107, a108, a109, a110, a111, a112, a113, a117, a118, a119, a120, a121, a131, a133, a134, a135, a136, a137, a138, a139, a140, a141, a142, a143, a144, a145, a146, a147, a157, a158, a159, v64_13, v64_14, v64_15, v64_16, v65_3, v95_1, v132_2, v132_4, v132_9, v132_14, v132_15, v132_16, v65_7, v115_3, v115_4, v115_5, v115_6, v132_43, v132_47, v132_48, v132_49, v132_50]
    exact w2
  · unfold iv_seat at w3 ⊢
    simp only [a66, a67, a68, a69, a70, a71, a72, a74, a75, a76, a96, a99, a100, a102, a103, a104, a105, a106, a107, a108, a109, a110, a111, a112, a113, a117, a118, a119, a120, a121, a131, a133, a134, a135, a136, a137, a138, a139, a140, a141, a142, a143, a144, a145, a146, a147, a157, a158, a159, v64_13, v64_14, v64_15, v64_16, v65_3, v95_1, v132_2, v132_4, v132_9, v132_14, v132_15, v132_16, v65_7, v115_3, v115_4, v115_5, v115_6, v132_43, v132_47, v132_48, v132_49, v132_50]
    exact w3
  · unfold iv_need at w4 ⊢
    simp only [a66, a67, a68, a69, a70, a71, a72, a74, a75, a76, a96, a99, a100, a102, a103, a104, a105, a106, a107, a108, a109, a110, a111, a112, a113, a117, a118, a119, a120, a121, a131, a133, a134, a135, a136, a137, a138, a139, a140, a141, a142, a143, a144, a145, a146, a147, a157, a158, a159, v64_13, v64_14, v64_15, v64_16, v65_3, v95_1, v132_2, v132_4, v132_9, v132_14, v132_15, v132_16, v65_7, v115_3, v115_4, v115_5, v115_6, v132_43, v132_47, v132_48, v132_49, v132_50]
    exact w4
  · unfold iv_peop at w5 ⊢
    simp only [a66, a67, a68, a69, a70, a71, a72, a74, a75, a76, a96, a99, a100, a102, a103, a104, a105, a106, a107, a108, a109, a110, a111, a112, a113, a117, a118, a119, a120, a121, a131, a133, a134, a135, a136, a137, a138, a139, a140, a141, a142, a143, a144, a145, a146, a147, a157, a158, a159, v64_13, v64_14, v64_15, v64_16, v65_3, v95_1, v132_2, v132_4, v132_9, v132_14, v132_15, v132_16, v65_7, v115_3, v115_4, v115_5, v115_6, v132_43, v132_47, v132_48, v132_49, v132_50]
    exact w5
  · unfold iv_cach at w6 ⊢
    simp only [a66, a67, a68, a69, a70, a71, a72, a74, a75, a76, a96, a99, a100, a102, a103, a104, a105, a106, a107, a108, a109, a110, a111, a112, a113, a117, a118, a119, a120, a121, a131, a133, a134, a135, a136, a137, a138, a139, a140, a141, a142, a143, a144, a145, a146, a147, a157, a158, a159, v64_13, v64_14, v64_15, v64_16, v65_3, v95_1, v132_2, v132_4, v132_9, v132_14, v132_15, v132_16, v65_7, v115_3, v115_4, v115_5, v115_6, v132_43, v132_47, v132_48, v132_49, v132_50]
    exact w6
  · unfold iv_firs at w7 ⊢
    simp only [a66, a67, a68, a69, a70, a71, a72, a74, a75, a76, a96, a99, a100, a102, a103, a104, a105, a106, a107, a108, a109, a110, a111, a112, a113, a117, a118, a119, a120, a121, a131, a133, a134, a135, a136, a137, a138, a139, a140, a141, a142, a143, a144, a145, a146, a147, a157, a158, a159, v64_13, v64_14, v64_15, v64_16, v65_3, v95_1, v132_2, v132_4, v132_9, v132_14, v132_15, v132_16, v65_7, v115_3, v115_4, v115_5, v115_6, v132_43, v132_47, v132_48, v132_49, v132_50]
    exact w7
  · unfold iv_even at w8 ⊢
    simp only [a66, a67, a68, a69, a70, a71, a72, a74, a75, a76, a96, a99, a100, a102, a103, a104, a105, a106, a107, a108, a109, a110, a111, a112, a113, a117, a118, a119, a120, a121, a131, a133, a134, a135, a136, a137, a138, a139, a140, a141, a142, a143, a144, a145, a146, a147, a157, a158, a159, v64_13, v64_14, v64_15, v64_16, v65_3, v95_1, v132_2, v132_4, v132_9, v132_14, v132_15, v132_16, v65_7, v115_3, v115_4, v115_5, v115_6, v132_43, v132_47, v132_48, v132_49, v132_50]
    exact w8
  · unfold iv_tape at w9 ⊢
    simp only [a66, a67, a68, a69, a70, a71, a72, a74, a75, a76, a96, a99, a100, a102, a103, a104, a105, a106, a107, a108, a109, a110, a111, a112, a113, a117, a118, a119, a120, a121, a131, a133, a134, a135, a136, a137, a138, a139, a140, a141, a142, a143, a144, a145, a146, a147, a157, a158, a159, v64_13, v64_14, v64_15, v64_16, v65_3, v95_1, v132_2, v132_4, v132_9, v132_14, v132_15, v132_16, v65_7, v115_3, v115_4, v115_5, v115_6, v132_43, v132_47, v132_48, v132_49, v132_50]
    exact w9
  · unfold iv_imag at w11 ⊢
    simp only [a66, a67, a68, a69, a70, a71, a72, a74, a75, a76, a96, a99, a100, a102, a103, a104, a105, a106, a107, a108, a109, a110, a111, a112, a113, a117, a118, a119, a120, a121, a131, a133, a134, a135, a136, a137, a138, a139, a140, a141, a142, a143, a144, a145, a146, a147, a157, a158, a159, v64_13, v64_14, v64_15, v64_16, v65_3, v95_1, v132_2, v132_4, v132_9, v132_14, v132_15, v132_16, v65_7, v115_3, v115_4, v115_5, v115_6, v132_43, v132_47, v132_48, v132_49, v132_50]
    exact w11
  · unfold iv_text at w12 ⊢
    simp only [a66, a67, a68, a69, a70, a71, a72, a74, a75, a76, a96, a99, a100, a102, a103, a104, a105, a106, a107, a108, a109, a110, a111, a112, a113, a117, a118, a119, a120, a121, a131, a133, a134, a135, a136, a137, a138, a139, a140, a141, a142, a143, a144, a145, a146, a147, a157, a158, a159, v64_13, v64_14, v64_15, v64_16, v65_3, v95_1, v132_2, v132_4, v132_9, v132_14, v132_15, v132_16, v65_7, v115_3, v115_4, v115_5, v115_6, v132_43, v132_47, v132_48, v132_49, v132_50]
    exact w12
  · unfold iv_lets at w13 ⊢
    simp only [a66, a67, a68, a69, a70, a71, a72, a74, a75, a76, a96, a99, a100, a102, a103, a104, a105, a106, a107, a108, a109, a110, a111, a112, a113, a117, a118, a119, a120, a121, a131, a133, a134, a135, a136, a137, a138, a139, a140, a141, a142, a143, a144, a145, a146, a147, a157, a158, a159, v64_13, v64_14, v64_15, v64_16, v65_3, v95_1, v132_2, v132_4, v132_9, v132_14, v132_15, v132_16, v65_7, v115_3, v115_4, v115_5, v115_6, v132_43, v132_47, v132_48, v132_49, v132_50]
    exact w13
def kA_tape (a : Nat) : Bool := kA a && !(Nat.beq a 96 || Nat.beq a 143)
def kV_tape (a k : Nat) : Bool := kV a k && !((Nat.beq a 64 && Nat.beq k 13) || (Nat.beq a 64 && Nat.beq k 14) || (Nat.beq a 64 && Nat.beq k 15) || (Nat.beq a 64 && Nat.beq k 16) || (Nat.beq a 65 && Nat.beq k 3) || (Nat.beq a 95 && Nat.beq k 1) || (Nat.beq a 132 && Nat.beq k 2) || (Nat.beq a 132 && Nat.beq k 4) || (Nat.beq a 132 && Nat.beq k 9) || (Nat.beq a 132 && Nat.beq k 14) || (Nat.beq a 132 && Nat.beq k 15) || (Nat.beq a 132 && Nat.beq k 16))
theorem iv_but_tape {N : Nat → Nat} {B : Nat → Nat → Nat} {A V A' V' : xM} {tx : List xh_T} {cu cu' : Value} {x : Nat} (hA : ∀ a, kA_tape a = true → A' a = A a) (hV : ∀ a k, kV_tape a k = true → V' a k = V a k) (hv : iv N B A V tx cu) (n_num : iv_num (va_up N 4 x) B A' V' tx cu') (n_tape : iv_tape (va_up N 4 x) B A' V' tx cu') : iv (va_up N 4 x) B A' V' tx cu' := by
  have a66 : A' 66 = A 66 := hA 66 rfl
  have a67 : A' 67 = A 67 := hA 67 rfl
  have a68 : A' 68 = A 68 := hA 68 rfl
  have a69 : A' 69 = A 69 := hA 69 rfl
  have a70 : A' 70 = A 70 := hA 70 rfl
  have a71 : A' 71 = A 71 := hA 71 rfl
  have a72 : A' 72 = A 72 := hA 72 rfl
  have a74 : A' 74 = A 74 := hA 74 rfl
  have a75 : A' 75 = A 75 := hA 75 rfl
  have a76 : A' 76 = A 76 := hA 76 rfl
  have a99 : A' 99 = A 99 := hA 99 rfl
  have a100 : A' 100 = A 100 := hA 100 rfl
  have a102 : A' 102 = A 102 := hA 102 rfl
  have a103 : A' 103 = A 103 := hA 103 rfl
  have a104 : A' 104 = A 104 := hA 104 rfl
  have a105 : A' 105 = A 105 := hA 105 rfl
  have a106 : A' 106 = A 106 := hA 106 rfl
  have a107 : A' 107 = A 107 := hA 107 rfl
  have a108 : A' 108 = A 108 := hA 108 rfl
  have a109 : A' 109 = A 109 := hA 109 rfl
  have a110 : A' 110 = A 110 := hA 110 rfl
  have a111 : A' 111 = A 111 := hA 111 rfl
  have a112 : A' 112 = A 112 := hA 112 rfl
  have a113 : A' 113 = A 113 := hA 113 rfl
  have a117 : A' 117 = A 117 := hA 117 rfl
  have a118 : A' 118 = A 118 := hA 118 rfl
  have a119 : A' 119 = A 119 := hA 119 rfl
  have a120 : A' 120 = A 120 := hA 120 rfl
  have a121 : A' 121 = A 121 := hA 121 rfl
  have a123 : A' 123 = A 123 := hA 123 rfl
  have a125 : A' 125 = A 125 := hA 125 rfl
  have a127 : A' 127 = A 127 := hA 127 rfl
  have a129 : A' 129 = A 129 := hA 129 rfl
  have a131 : A' 131 = A 131 := hA 131 rfl
  have a133 : A' 133 = A 133 := hA 133 rfl
  have a134 : A' 134 = A 134 := hA 134 rfl
  have a135 : A' 135 = A 135 := hA 135 rfl
  have a136 : A' 136 = A 136 := hA 136 rfl
  have a137 : A' 137 = A 137 := hA 137 rfl
  have a138 : A' 138 = A 138 := hA 138 rfl
  have a139 : A' 139 = A 139 := hA 139 rfl
  have a140 : A' 140 = A 140 := hA 140 rfl
  have a141 : A' 141 = A 141 := hA 141 rfl
  have a142 : A' 142 = A 142 := hA 142 rfl
  have a144 : A' 144 = A 144 := hA 144 rfl
  have a145 : A' 145 = A 145 := hA 145 rfl
  have a146 : A' 146 = A 146 := hA 146 rfl
  have a147 : A' 147 = A 147 := hA 147 rfl
  have a157 : A' 157 = A 157 := hA 157 rfl
  have a158 : A' 158 = A 158 := hA 158 rfl
  have a159 : A' 159 = A 159 := hA 159 rfl
  have a160 : A' 160 = A 160 := hA 160 rfl
  have a161 : A' 161 = A 161 := hA 161 rfl
  have a162 : A' 162 = A 162 := hA 162 rfl
  have v65_7 : V' 65 7 = V 65 7 := hV 65 7 rfl
  have v122 : V' 122 = V 122 := funext (fun k => hV 122 k rfl)
  have v124 : V' 124 = V 124 := funext (fun k => hV 124 k rfl)
  have v126 : V' 126 = V 126 := funext (fun k => hV 126 k rfl)
  have v128 : V' 128 = V 128 := funext (fun k => hV 128 k rfl)
  have v115_3 : V' 115 3 = V 115 3 := hV 115 3 rfl
  have v115_4 : V' 115 4 = V 115 4 := hV 115 4 rfl
  have v115_5 : V' 115 5 = V 115 5 := hV 115 5 rfl
  have v115_6 : V' 115 6 = V 115 6 := hV 115 6 rfl
  have v132_43 : V' 132 43 = V 132 43 := hV 132 43 rfl
  have v132_47 : V' 132 47 = V 132 47 := hV 132 47 rfl
  have v132_48 : V' 132 48 = V 132 48 := hV 132 48 rfl
  have v132_49 : V' 132 49 = V 132 49 := hV 132 49 rfl
  have v132_50 : V' 132 50 = V 132 50 := hV 132 50 rfl
  obtain ⟨w1, w2, w3, w4, w5, w6, w7, w8, w9, w10, w11, w12, w13⟩ := hv
  refine ⟨n_num, ?_, ?_, ?_, ?_, ?_, ?_, ?_, n_tape, ?_, ?_, ?_, ?_⟩
  · unfold iv_thin at w2 ⊢
    simp only [a66, a67, a68, a69, a70, a71, a72, a74, a75, a76, a99, a100, a102, a103, a104, a105, a106, a107, a108, a109, a110, a111, a112, a113, a117, a118, a119, a120, a121, a123, a125, a127, a129, a131, a133, a134, a135, a136, a137, a138, a139, a140, a141, a142, a144, a145, a146, a147, a157, a158, a159, a160, a161, a162, v65_7, v122, v124, v126, v128, v115_3, v115_4, v115_5, v115_6, v132_43, v132_47, v132_48, v132_49, v132_50]
    exact w2
  · unfold iv_seat at w3 ⊢
    simp only [a66, a67, a68, a69, a70, a71, a72, a74, a75, a76, a99, a100, a102, a103, a104, a105, a106, a107, a108, a109, a110, a111, a112, a113, a117, a118, a119, a120, a121, a123, a125, a127, a129, a131, a133, a134, a135, a136, a137, a138, a139, a140, a141, a142, a144, a145, a146, a147, a157, a158, a159, a160, a161, a162, v65_7, v122, v124, v126, v128, v115_3, v115_4, v115_5, v115_6, v132_43, v132_47, v132_48, v132_49, v132_50]
    exact w3
  · unfold iv_need at w4 ⊢
    simp only [a66, a67, a68, a69, a70, a71, a72, a74, a75, a76, a99, a100, a102, a103, a104, a105, a106, a107, a108, a109, a110, a111, a112, a113, a117, a118, a119, a120, a121, a123, a125, a127, a129, a131, a133, a134, a135, a136, a137, a138, a139, a140, a141, a142, a144, a145, a146, a147, a157, a158, a159, a160, a161, a162, v65_7, v122, v124, v126, v128, v115_3, v115_4, v115_5, v115_6, v132_43, v132_47, v132_48, v132_49, v132_50]
    exact w4
  · unfold iv_peop at w5 ⊢
    simp only [a66, a67, a68, a69, a70, a71, a72, a74, a75, a76, a99, a100, a102, a103, a104, a105, a106, a107, a108, a109, a110, a111, a112, a113, a117, a118, a119, a120, a121, a123, a125, a127, a129, a131, a133, a134, a135, a136, a137, a138, a139, a140, a141, a142, a144, a145, a146, a147, a157, a158, a159, a160, a161, a162, v65_7, v122, v124, v126, v128, v115_3, v115_4, v115_5, v115_6, v132_43, v132_47, v132_48, v132_49, v132_50]
    exact w5
  · unfold iv_cach at w6 ⊢
    simp only [a66, a67, a68, a69, a70, a71, a72, a74, a75, a76, a99, a100, a102, a103, a104, a105, a106, a107, a108, a109, a110, a111, a112, a113, a117, a118, a119, a120, a121, a123, a125, a127, a129, a131, a133, a134, a135, a136, a137, a138, a139, a140, a141, a142, a144, a145, a146, a147, a157, a158, a159, a160, a161, a162, v65_7, v122, v124, v126, v128, v115_3, v115_4, v115_5, v115_6, v132_43, v132_47, v132_48, v132_49, v132_50]
    exact w6
  · unfold iv_firs at w7 ⊢
    simp only [a66, a67, a68, a69, a70, a71, a72, a74, a75, a76, a99, a100, a102, a103, a104, a105, a106, a107, a108, a109, a110, a111, a112, a113, a117, a118, a119, a120, a121, a123, a125, a127, a129, a131, a133, a134, a135, a136, a137, a138, a139, a140, a141, a142, a144, a145, a146, a147, a157, a158, a159, a160, a161, a162, v65_7, v122, v124, v126, v128, v115_3, v115_4, v115_5, v115_6, v132_43, v132_47, v132_48, v132_49, v132_50]
    exact w7
  · unfold iv_even at w8 ⊢
    simp only [a66, a67, a68, a69, a70, a71, a72, a74, a75, a76, a99, a100, a102, a103, a104, a105, a106, a107, a108, a109, a110, a111, a112, a113, a117, a118, a119, a120, a121, a123, a125, a127, a129, a131, a133, a134, a135, a136, a137, a138, a139, a140, a141, a142, a144, a145, a146, a147, a157, a158, a159, a160, a161, a162, v65_7, v122, v124, v126, v128, v115_3, v115_4, v115_5, v115_6, v132_43, v132_47, v132_48, v132_49, v132_50]
    exact w8
  · unfold iv_shee at w10 ⊢
    simp only [a66, a67, a68, a69, a70, a71, a72, a74, a75, a76, a99, a100, a102, a103, a104, a105, a106, a107, a108, a109, a110, a111, a112, a113, a117, a118, a119, a120, a121, a123, a125, a127, a129, a131, a133, a134, a135, a136, a137, a138, a139, a140, a141, a142, a144, a145, a146, a147, a157, a158, a159, a160, a161, a162, v65_7, v122, v124, v126, v128, v115_3, v115_4, v115_5, v115_6, v132_43, v132_47, v132_48, v132_49, v132_50]
    exact w10
  · unfold iv_imag at w11 ⊢
    simp only [a66, a67, a68, a69, a70, a71, a72, a74, a75, a76, a99, a100, a102, a103, a104, a105, a106, a107, a108, a109, a110, a111, a112, a113, a117, a118, a119, a120, a121, a123, a125, a127, a129, a131, a133, a134, a135, a136, a137, a138, a139, a140, a141, a142, a144, a145, a146, a147, a157, a158, a159, a160, a161, a162, v65_7, v122, v124, v126, v128, v115_3, v115_4, v115_5, v115_6, v132_43, v132_47, v132_48, v132_49, v132_50]
    exact w11
  · unfold iv_text at w12 ⊢
    simp only [a66, a67, a68, a69, a70, a71, a72, a74, a75, a76, a99, a100, a102, a103, a104, a105, a106, a107, a108, a109, a110, a111, a112, a113, a117, a118, a119, a120, a121, a123, a125, a127, a129, a131, a133, a134, a135, a136, a137, a138, a139, a140, a141, a142, a144, a145, a146, a147, a157, a158, a159, a160, a161, a162, v65_7, v122, v124, v126, v128, v115_3, v115_4, v115_5, v115_6, v132_43, v132_47, v132_48, v132_49, v132_50]
    exact w12
  · unfold iv_lets at w13 ⊢
    simp only [a66, a67, a68, a69, a70, a71, a72, a74, a75, a76, a99, a100, a102, a103, a104, a105, a106, a107, a108, a109, a110, a111, a112, a113, a117, a118, a119, a120, a121, a123, a125, a127, a129, a131, a133, a134, a135, a136, a137, a138, a139, a140, a141, a142, a144, a145, a146, a147, a157, a158, a159, a160, a161, a162, v65_7, v122, v124, v126, v128, v115_3, v115_4, v115_5, v115_6, v132_43, v132_47, v132_48, v132_49, v132_50]
    exact w13
def kA_peop (a : Nat) : Bool := kA a && !(Nat.beq a 66 || Nat.beq a 67 || Nat.beq a 68 || Nat.beq a 69 || Nat.beq a 70 || Nat.beq a 71 || Nat.beq a 72 || Nat.beq a 74 || Nat.beq a 75 || Nat.beq a 76 || Nat.beq a 102 || Nat.beq a 103 || Nat.beq a 104 || Nat.beq a 105 || Nat.beq a 106 || Nat.beq a 107 || Nat.beq a 108 || Nat.beq a 109 || Nat.beq a 110 || Nat.beq a 111 || Nat.beq a 112 || Nat.beq a 113 || Nat.beq a 117 || Nat.beq a 118 || Nat.beq a 119 || Nat.beq a 120 || Nat.beq a 121 || Nat.beq a 135 || Nat.beq a 136 || Nat.beq a 137 || Nat.beq a 138 || Nat.beq a 139 || Nat.beq a 140 || Nat.beq a 141 || Nat.beq a 142 || Nat.beq a 157 || Nat.beq a 158 || Nat.beq a 159)
def kV_peop (a k : Nat) : Bool := kV a k && !((Nat.beq a 64 && Nat.beq k 13) || (Nat.beq a 64 && Nat.beq k 14) || (Nat.beq a 64 && Nat.beq k 15) || (Nat.beq a 64 && Nat.beq k 16) || (Nat.beq a 65 && Nat.beq k 3) || (Nat.beq a 95 && Nat.beq k 1) || (Nat.beq a 132 && Nat.beq k 2) || (Nat.beq a 132 && Nat.beq k 4) || (Nat.beq a 132 && Nat.beq k 9) || (Nat.beq a 132 && Nat.beq k 14) || (Nat.beq a 132 && Nat.beq k 15) || (Nat.beq a 132 && Nat.beq k 16) || (Nat.beq a 65 && Nat.beq k 7) || (Nat.beq a 115 && Nat.beq k 3) || (Nat.beq a 115 && Nat.beq k 4) || (Nat.beq a 115 && Nat.beq k 5) || (Nat.beq a 115 && Nat.beq k 6) || (Nat.beq a 132 && Nat.beq k 43) || (Nat.beq a 132 && Nat.beq k 47) || (Nat.beq a 132 && Nat.beq k 48) || (Nat.beq a 132 && Nat.beq k 49) || (Nat.beq a 132 && Nat.beq k 50))
theorem iv_but_peop {N : Nat → Nat} {B : Nat → Nat → Nat} {A V A' V' : xM} {tx : List xh_T} {cu cu' : Value} {x : Nat} {b2 b3 b4 : Nat → Nat} (hA : ∀ a, kA_peop a = true → A' a = A a) (hV : ∀ a k, kV_peop a k = true → V' a k = V a k) (hv : iv N B A V tx cu) (n_num : iv_num (va_up N 1 x) (va_up (va_up (va_up B 2 b2) 3 b3) 4 b4) A' V' tx cu') (n_need : iv_need (va_up N 1 x) (va_up (va_up (va_up B 2 b2) 3 b3) 4 b4) A' V' tx cu') (n_peop : iv_peop (va_up N 1 x) (va_up (va_up (va_up B 2 b2) 3 b3) 4 b4) A' V' tx cu') (n_cach : iv_cach (va_up N 1 x) (va_up (va_up (va_up B 2 b2) 3 b3) 4 b4) A' V' tx cu') (n_firs : iv_firs (va_up N 1 x) (va_up (va_up (va_up B 2 b2) 3 b3) 4 b4) A' V' tx cu') (n_even : iv_even (va_up N 1 x) (va_up (va_up (va_up B 2 b2) 3 b3) 4 b4) A' V' tx cu') (n_imag : iv_imag (va_up N 1 x) (va_up (va_up (va_up B 2 b2) 3 b3) 4 b4) A' V' tx cu') : iv (va_up N 1 x) (va_up (va_up (va_up B 2 b2) 3 b3) 4 b4) A' V' tx cu' := by
  have a96 : A' 96 = A 96 := hA 96 rfl
  have a99 : A' 99 = A 99 := hA 99 rfl
  have a100 : A' 100 = A 100 := hA 100 rfl
  have a123 : A' 123 = A 123 := hA 123 rfl
  have a125 : A' 125 = A 125 := hA 125 rfl
  have a127 : A' 127 = A 127 := hA 127 rfl
  have a129 : A' 129 = A 129 := hA 129 rfl
  have a131 : A' 131 = A 131 := hA 131 rfl
  have a133 : A' 133 = A 133 := hA 133 rfl
  have a134 : A' 134 = A 134 := hA 134 rfl
  have a143 : A' 143 = A 143 := hA 143 rfl
  have a144 : A' 144 = A 144 := hA 144 rfl
  have a145 : A' 145 = A 145 := hA 145 rfl
  have a146 : A' 146 = A 146 := hA 146 rfl
  have a147 : A' 147 = A 147 := hA 147 rfl
  have a160 : A' 160 = A 160 := hA 160 rfl
  have a161 : A' 161 = A 161 := hA 161 rfl
  have a162 : A' 162 = A 162 := hA 162 rfl
  have v122 : V' 122 = V 122 := funext (fun k => hV 122 k rfl)
  have v124 : V' 124 = V 124 := funext (fun k => hV 124 k rfl)
  have v126 : V' 126 = V 126 := funext (fun k => hV 126 k rfl)
  have v128 : V' 128 = V 128 := funext (fun k => hV 128 k rfl)
  obtain ⟨w1, w2, w3, w4, w5, w6, w7, w8, w9, w10, w11, w12, w13⟩ := hv
  refine ⟨n_num, ?_, ?_, n_need, n_peop, n_cach, n_firs, n_even, ?_, ?_, n_imag, ?_, ?_⟩
  · unfold iv_thin at w2 ⊢
    simp only [a96, a99, a100, a123, a125, a127, a129, a131, a133, a134, a143, a144, a145, a146, a147, a160, a161, a162, v122, v124, v126, v128]
    exact w2
  · unfold iv_seat at w3 ⊢
    simp only [a96, a99, a100, a123, a125, a127, a129, a131, a133, a134, a143, a144, a145, a146, a147, a160, a161, a162, v122, v124, v126, v128]
    exact w3
  · unfold iv_tape at w9 ⊢
    simp only [a96, a99, a100, a123, a125, a127, a129, a131, a133, a134, a143, a144, a145, a146, a147, a160, a161, a162, v122, v124, v126, v128]
    exact w9
  · unfold iv_shee at w10 ⊢
    simp only [a96, a99, a100, a123, a125, a127, a129, a131, a133, a134, a143, a144, a145, a146, a147, a160, a161, a162, v122, v124, v126, v128]
    exact w10
  · unfold iv_text at w12 ⊢
    simp only [a96, a99, a100, a123, a125, a127, a129, a131, a133, a134, a143, a144, a145, a146, a147, a160, a161, a162, v122, v124, v126, v128]
    exact w12
  · unfold iv_lets at w13 ⊢
    simp only [a96, a99, a100, a123, a125, a127, a129, a131, a133, a134, a143, a144, a145, a146, a147, a160, a161, a162, v122, v124, v126, v128]
    exact w13
def kA_even (a : Nat) : Bool := kA a && !(Nat.beq a 102 || Nat.beq a 103 || Nat.beq a 104 || Nat.beq a 105 || Nat.beq a 106 || Nat.beq a 107 || Nat.beq a 108 || Nat.beq a 109 || Nat.beq a 110 || Nat.beq a 111 || Nat.beq a 112 || Nat.beq a 113 || Nat.beq a 140 || Nat.beq a 141 || Nat.beq a 142)
def kV_even (a k : Nat) : Bool := kV a k && !((Nat.beq a 64 && Nat.beq k 13) || (Nat.beq a 64 && Nat.beq k 14) || (Nat.beq a 64 && Nat.beq k 15) || (Nat.beq a 64 && Nat.beq k 16) || (Nat.beq a 65 && Nat.beq k 3) || (Nat.beq a 95 && Nat.beq k 1) || (Nat.beq a 132 && Nat.beq k 2) || (Nat.beq a 132 && Nat.beq k 4) || (Nat.beq a 132 && Nat.beq k 9) || (Nat.beq a 132 && Nat.beq k 14) || (Nat.beq a 132 && Nat.beq k 15) || (Nat.beq a 132 && Nat.beq k 16))
theorem iv_but_even {N : Nat → Nat} {B : Nat → Nat → Nat} {A V A' V' : xM} {tx : List xh_T} {cu cu' : Value} {x : Nat} (hA : ∀ a, kA_even a = true → A' a = A a) (hV : ∀ a k, kV_even a k = true → V' a k = V a k) (hv : iv N B A V tx cu) (n_num : iv_num (va_up N 2 x) B A' V' tx cu') (n_even : iv_even (va_up N 2 x) B A' V' tx cu') : iv (va_up N 2 x) B A' V' tx cu' := by
  have a66 : A' 66 = A 66 := hA 66 rfl
  have a67 : A' 67 = A 67 := hA 67 rfl
  have a68 : A' 68 = A 68 := hA 68 rfl
  have a69 : A' 69 = A 69 := hA 69 rfl
  have a70 : A' 70 = A 70 := hA 70 rfl
  have a71 : A' 71 = A 71 := hA 71 rfl
  have a72 : A' 72 = A 72 := hA 72 rfl
  have a74 : A' 74 = A 74 := hA 74 rfl
  have a75 : A' 75 = A 75 := hA 75 rfl
  have a76 : A' 76 = A 76 := hA 76 rfl
  have a96 : A' 96 = A 96 := hA 96 rfl
  have a99 : A' 99 = A 99 := hA 99 rfl
  have a100 : A' 100 = A 100 := hA 100 rfl
  have a117 : A' 117 = A 117 := hA 117 rfl
  have a118 : A' 118 = A 118 := hA 118 rfl
  have a119 : A' 119 = A 119 := hA 119 rfl
  have a120 : A' 120 = A 120 := hA 120 rfl
  have a121 : A' 121 = A 121 := hA 121 rfl
  have a123 : A' 123 = A 123 := hA 123 rfl
  have a125 : A' 125 = A 125 := hA 125 rfl
  have a127 : A' 127 = A 127 := hA 127 rfl
  have a129 : A' 129 = A 129 := hA 129 rfl
  have a131 : A' 131 = A 131 := hA 131 rfl
  have a133 : A' 133 = A 133 := hA 133 rfl
  have a134 : A' 134 = A 134 := hA 134 rfl
  have a135 : A' 135 = A 135 := hA 135 rfl
  have a136 : A' 136 = A 136 := hA 136 rfl
  have a137 : A' 137 = A 137 := hA 137 rfl
  have a138 : A' 138 = A 138 := hA 138 rfl
  have a139 : A' 139 = A 139 := hA 139 rfl
  have a143 : A' 143 = A 143 := hA 143 rfl
  have a144 : A' 144 = A 144 := hA 144 rfl
  have a145 : A' 145 = A 145 := hA 145 rfl
  have a146 : A' 146 = A 146 := hA 146 rfl
  have a147 : A' 147 = A 147 := hA 147 rfl
  have a157 : A' 157 = A 157 := hA 157 rfl
  have a158 : A' 158 = A 158 := hA 158 rfl
  have a159 : A' 159 = A 159 := hA 159 rfl
  have a160 : A' 160 = A 160 := hA 160 rfl
  have a161 : A' 161 = A 161 := hA 161 rfl
  have a162 : A' 162 = A 162 := hA 162 rfl
  have v65_7 : V' 65 7 = V 65 7 := hV 65 7 rfl
  have v122 : V' 122 = V 122 := funext (fun k => hV 122 k rfl)
  have v124 : V' 124 = V 124 := funext (fun k => hV 124 k rfl)
  have v126 : V' 126 = V 126 := funext (fun k => hV 126 k rfl)
  have v128 : V' 128 = V 128 := funext (fun k => hV 128 k rfl)
  have v115_3 : V' 115 3 = V 115 3 := hV 115 3 rfl
  have v115_4 : V' 115 4 = V 115 4 := hV 115 4 rfl
  have v115_5 : V' 115 5 = V 115 5 := hV 115 5 rfl
  have v115_6 : V' 115 6 = V 115 6 := hV 115 6 rfl
  have v132_43 : V' 132 43 = V 132 43 := hV 132 43 rfl
  have v132_47 : V' 132 47 = V 132 47 := hV 132 47 rfl
  have v132_48 : V' 132 48 = V 132 48 := hV 132 48 rfl
  have v132_49 : V' 132 49 = V 132 49 := hV 132 49 rfl
  have v132_50 : V' 132 50 = V 132 50 := hV 132 50 rfl
  obtain ⟨w1, w2, w3, w4, w5, w6, w7, w8, w9, w10, w11, w12, w13⟩ := hv
  refine ⟨n_num, ?_, ?_, ?_, ?_, ?_, ?_, n_even, ?_, ?_, ?_, ?_, ?_⟩
  · unfold iv_thin at w2 ⊢
    simp only [a66, a67, a68, a69, a70, a71, a72, a74, a75, a76, a96, a99, a100, a117, a118, a119, a120, a121, a123, a125, a127, a129, a131, a133, a134, a135, a136, a137, a138, a139, a143, a144, a145, a146, a147, a157, a158, a159, a160, a161, a162, v65_7, v122, v124, v126, v128, v115_3, v115_4, v115_5, v115_6, v132_43, v132_47, v132_48, v132_49, v132_50]
    exact w2
  · unfold iv_seat at w3 ⊢
    simp only [a66, a67, a68, a69, a70, a71, a72, a74, a75, a76, a96, a99, a100, a117, a118, a119, a120, a121, a123, a125, a127, a129, a131, a133, a134, a135, a136, a137, a138, a139, a143, a144, a145, a146, a147, a157, a158, a159, a160, a161, a162, v65_7, v122, v124, v126, v128, v115_3, v115_4, v115_5, v115_6, v132_43, v132_47, v132_48, v132_49, v132_50]
    exact w3
  · unfold iv_need at w4 ⊢
    simp only [a66, a67, a68, a69, a70, a71, a72, a74, a75, a76, a96, a99, a100, a117, a118, a119, a120, a121, a123, a125, a127, a129, a131, a133, a134, a135, a136, a137, a138, a139, a143, a144, a145, a146, a147, a157, a158, a159, a160, a161, a162, v65_7, v122, v124, v126, v128, v115_3, v115_4, v115_5, v115_6, v132_43, v132_47, v132_48, v132_49, v132_50]
    exact w4
  · unfold iv_peop at w5 ⊢
    simp only [a66, a67, a68, a69, a70, a71, a72, a74, a75, a76, a96, a99, a100, a117, a118, a119, a120, a121, a123, a125, a127, a129, a131, a133, a134, a135, a136, a137, a138, a139, a143, a144, a145, a146, a147, a157, a158, a159, a160, a161, a162, v65_7, v122, v124, v126, v128, v115_3, v115_4, v115_5, v115_6, v132_43, v132_47, v132_48, v132_49, v132_50]
    exact w5
  · unfold iv_cach at w6 ⊢
    simp only [a66, a67, a68, a69, a70, a71, a72, a74, a75, a76, a96, a99, a100, a117, a118, a119, a120, a121, a123, a125, a127, a129, a131, a133, a134, a135, a136, a137, a138, a139, a143, a144, a145, a146, a147, a157, a158, a159, a160, a161, a162, v65_7, v122, v124, v126, v128, v115_3, v115_4, v115_5, v115_6, v132_43, v132_47, v132_48, v132_49, v132_50]
    exact w6
  · unfold iv_firs at w7 ⊢
    simp only [a66, a67, a68, a69, a70, a71, a72, a74, a75, a76, a96, a99, a100, a117, a118, a119, a120, a121, a123, a125, a127, a129, a131, a133, a134, a135, a136, a137, a138, a139, a143, a144, a145, a146, a147, a157, a158, a159, a160, a161, a162, v65_7, v122, v124, v126, v128, v115_3, v115_4, v115_5, v115_6, v132_43, v132_47, v132_48, v132_49, v132_50]
    exact w7
  · unfold iv_tape at w9 ⊢
    simp only [a66, a67, a68, a69, a70, a71, a72, a74, a75, a76, a96, a99, a100, a117, a118, a119, a120, a121, a123, a125, a127, a129, a131, a133, a134, a135, a136, a137, a138, a139, a143, a144, a145, a146, a147, a157, a158, a159, a160, a161, a162, v65_7, v122, v124, v126, v128, v115_3, v115_4, v115_5, v115_6, v132_43, v132_47, v132_48, v132_49, v132_50]
    exact w9
  · unfold iv_shee at w10 ⊢
    simp only [a66, a67, a68, a69, a70, a71, a72, a74, a75, a76, a96, a99, a100, a117, a118, a119, a120, a121, a123, a125, a127, a129, a131, a133, a134, a135, a136, a137, a138, a139, a143, a144, a145, a146, a147, a157, a158, a159, a160, a161, a162, v65_7, v122, v124, v126, v128, v115_3, v115_4, v115_5, v115_6, v132_43, v132_47, v132_48, v132_49, v132_50]
    exact w10
  · unfold iv_imag at w11 ⊢
    simp only [a66, a67, a68, a69, a70, a71, a72, a74, a75, a76, a96, a99, a100, a117, a118, a119, a120, a121, a123, a125, a127, a129, a131, a133, a134, a135, a136, a137, a138, a139, a143, a144, a145, a146, a147, a157, a158, a159, a160, a161, a162, v65_7, v122, v124, v126, v128, v115_3, v115_4, v115_5, v115_6, v132_43, v132_47, v132_48, v132_49, v132_50]
    exact w11
  · unfold iv_text at w12 ⊢
    simp only [a66, a67, a68, a69, a70, a71, a72, a74, a75, a76, a96, a99, a100, a117, a118, a119, a120, a121, a123, a125, a127, a129, a131, a133, a134, a135, a136, a137, a138, a139, a143, a144, a145, a146, a147, a157, a158, a159, a160, a161, a162, v65_7, v122, v124, v126, v128, v115_3, v115_4, v115_5, v115_6, v132_43, v132_47, v132_48, v132_49, v132_50]
    exact w12
  · unfold iv_lets at w13 ⊢
    simp only [a66, a67, a68, a69, a70, a71, a72, a74, a75, a76, a96, a99, a100, a117, a118, a119, a120, a121, a123, a125, a127, a129, a131, a133, a134, a135, a136, a137, a138, a139, a143, a144, a145, a146, a147, a157, a158, a159, a160, a161, a162, v65_7, v122, v124, v126, v128, v115_3, v115_4, v115_5, v115_6, v132_43, v132_47, v132_48, v132_49, v132_50]
    exact w13
def kA_imag (a : Nat) : Bool := kA a && !(Nat.beq a 117 || Nat.beq a 118 || Nat.beq a 119 || Nat.beq a 120 || Nat.beq a 121 || Nat.beq a 157 || Nat.beq a 158 || Nat.beq a 159)
def kV_imag (a k : Nat) : Bool := kV a k && !((Nat.beq a 115 && Nat.beq k 3) || (Nat.beq a 115 && Nat.beq k 4) || (Nat.beq a 115 && Nat.beq k 5) || (Nat.beq a 115 && Nat.beq k 6) || (Nat.beq a 132 && Nat.beq k 43) || (Nat.beq a 132 && Nat.beq k 47) || (Nat.beq a 132 && Nat.beq k 48) || (Nat.beq a 132 && Nat.beq k 49) || (Nat.beq a 132 && Nat.beq k 50))
theorem iv_but_imag {N : Nat → Nat} {B : Nat → Nat → Nat} {A V A' V' : xM} {tx : List xh_T} {cu cu' : Value} {b6 b7 b8 b9 : Nat → Nat} (hA : ∀ a, kA_imag a = true → A' a = A a) (hV : ∀ a k, kV_imag a k = true → V' a k = V a k) (hv : iv N B A V tx cu) (n_imag : iv_imag N (va_up (va_up (va_up (va_up B 6 b6) 7 b7) 8 b8) 9 b9) A' V' tx cu') : iv N (va_up (va_up (va_up (va_up B 6 b6) 7 b7) 8 b8) 9 b9) A' V' tx cu' := by
  have a66 : A' 66 = A 66 := hA 66 rfl
  have a67 : A' 67 = A 67 := hA 67 rfl
  have a68 : A' 68 = A 68 := hA 68 rfl
  have a69 : A' 69 = A 69 := hA 69 rfl
  have a70 : A' 70 = A 70 := hA 70 rfl
  have a71 : A' 71 = A 71 := hA 71 rfl
  have a72 : A' 72 = A 72 := hA 72 rfl
  have a74 : A' 74 = A 74 := hA 74 rfl
  have a75 : A' 75 = A 75 := hA 75 rfl
  have a76 : A' 76 = A 76 := hA 76 rfl
  have a96 : A' 96 = A 96 := hA 96 rfl
  have a99 : A' 99 = A 99 := hA 99 rfl
  have a100 : A' 100 = A 100 := hA 100 rfl
  have a102 : A' 102 = A 102 := hA 102 rfl
  have a103 : A' 103 = A 103 := hA 103 rfl
  have a104 : A' 104 = A 104 := hA 104 rfl
  have a105 : A' 105 = A 105 := hA 105 rfl
  have a106 : A' 106 = A 106 := hA 106 rfl
  have a107 : A' 107 = A 107 := hA 107 rfl
  have a108 : A' 108 = A 108 := hA 108 rfl
  have a109 : A' 109 = A 109 := hA 109 rfl
  have a110 : A' 110 = A 110 := hA 110 rfl
  have a111 : A' 111 = A 111 := hA 111 rfl
  have a112 : A' 112 = A 112 := hA 112 rfl
  have a113 : A' 113 = A 113 := hA 113 rfl
  have a123 : A' 123 = A 123 := hA 123 rfl
  have a125 : A' 125 = A 125 := hA 125 rfl
  have a127 : A' 127 = A 127 := hA 127 rfl
  have a129 : A' 129 = A 129 := hA 129 rfl
  have a131 : A' 131 = A 131 := hA 131 rfl
  have a133 : A' 133 = A 133 := hA 133 rfl
  have a134 : A' 134 = A 134 := hA 134 rfl
  have a135 : A' 135 = A 135 := hA 135 rfl
  have a136 : A' 136 = A 136 := hA 136 rfl
  have a137 : A' 137 = A 137 := hA 137 rfl
  have a138 : A' 138 = A 138 := hA 138 rfl
  have a139 : A' 139 = A 139 := hA 139 rfl
  have a140 : A' 140 = A 140 := hA 140 rfl
  have a141 : A' 141 = A 141 := hA 141 rfl
  have a142 : A' 142 = A 142 := hA 142 rfl
  have a143 : A' 143 = A 143 := hA 143 rfl
  have a144 : A' 144 = A 144 := hA 144 rfl
  have a145 : A' 145 = A 145 := hA 145 rfl
  have a146 : A' 146 = A 146 := hA 146 rfl
  have a147 : A' 147 = A 147 := hA 147 rfl
  have a160 : A' 160 = A 160 := hA 160 rfl
  have a161 : A' 161 = A 161 := hA 161 rfl
  have a162 : A' 162 = A 162 := hA 162 rfl
  have v64_13 : V' 64 13 = V 64 13 := hV 64 13 rfl
  have v64_14 : V' 64 14 = V 64 14 := hV 64 14 rfl
  have v64_15 : V' 64 15 = V 64 15 := hV 64 15 rfl
  have v64_16 : V' 64 16 = V 64 16 := hV 64 16 rfl
  have v65_3 : V' 65 3 = V 65 3 := hV 65 3 rfl
  have v95_1 : V' 95 1 = V 95 1 := hV 95 1 rfl
  have v132_2 : V' 132 2 = V 132 2 := hV 132 2 rfl
  have v132_4 : V' 132 4 = V 132 4 := hV 132 4 rfl
  have v132_9 : V' 132 9 = V 132 9 := hV 132 9 rfl
  have v132_14 : V' 132 14 = V 132 14 := hV 132 14 rfl
  have v132_15 : V' 132 15 = V 132 15 := hV 132 15 rfl
  have v132_16 : V' 132 16 = V 132 16 := hV 132 16 rfl
  have v65_7 : V' 65 7 = V 65 7 := hV 65 7 rfl
  have v122 : V' 122 = V 122 := funext (fun k => hV 122 k rfl)
  have v124 : V' 124 = V 124 := funext (fun k => hV 124 k rfl)
  have v126 : V' 126 = V 126 := funext (fun k => hV 126 k rfl)
  have v128 : V' 128 = V 128 := funext (fun k => hV 128 k rfl)
  obtain ⟨w1, w2, w3, w4, w5, w6, w7, w8, w9, w10, w11, w12, w13⟩ := hv
  refine ⟨?_, ?_, ?_, ?_, ?_, ?_, ?_, ?_, ?_, ?_, n_imag, ?_, ?_⟩
  · unfold iv_num at w1 ⊢
    simp only [a66, a67, a68, a69, a70, a71, a72, a74, a75, a76, a96, a99, a100, a102, a103, a104, a105, a106, a107, a108, a109, a110, a111, a112, a113, a123, a125, a127, a129, a131, a133, a134, a135, a136, a137, a138, a139, a140, a141, a142, a143, a144, a145, a146, a147, a160, a161, a162, v64_13, v64_14, v64_15, v64_16, v65_3, v95_1, v132_2, v132_4, v132_9, v132_14, v132_15, v132_16, v65_7, v122, v124, v126, v128]
    exact w1
  · unfold iv_thin at w2 ⊢
    simp only [a66, a67, a68, a69, a70, a71, a72, a74, a75, a76, a96, a99, a100, a102, a103, a104, a105, a106, a107, a108, a109, a110, a111, a112, a113, a123, a125, a127, a129, a131, a133, a134, a135, a136, a137, a138, a139, a140, a141, a142, a143, a144, a145, a146, a147, a160, a161, a162, v64_13, v64_14, v64_15, v64_16, v65_3, v95_1, v132_2, v132_4, v132_9, v132_14, v132_15, v132_16, v65_7, v122, v124, v126, v128]
    exact w2
  · unfold iv_seat at w3 ⊢
    simp only [a66, a67, a68, a69, a70, a71, a72, a74, a75, a76, a96, a99, a100, a102, a103, a104, a105, a106, a107, a108, a109, a110, a111, a112, a113, a123, a125, a127, a129, a131, a133, a134, a135, a136, a137, a138, a139, a140, a141, a142, a143, a144, a145, a146, a147, a160, a161, a162, v64_13, v64_14, v64_15, v64_16, v65_3, v95_1, v132_2, v132_4, v132_9, v132_14, v132_15, v132_16, v65_7, v122, v124, v126, v128]
    exact w3
  · unfold iv_need at w4 ⊢
    simp only [a66, a67, a68, a69, a70, a71, a72, a74, a75, a76, a96, a99, a100, a102, a103, a104, a105, a106, a107, a108, a109, a110, a111, a112, a113, a123, a125, a127, a129, a131, a133, a134, a135, a136, a137, a138, a139, a140, a141, a142, a143, a144, a145, a146, a147, a160, a161, a162, v64_13, v64_14, v64_15, v64_16, v65_3, v95_1, v132_2, v132_4, v132_9, v132_14, v132_15, v132_16, v65_7, v122, v124, v126, v128]
    exact w4
  · unfold iv_peop at w5 ⊢
    simp only [a66, a67, a68, a69, a70, a71, a72, a74, a75, a76, a96, a99, a100, a102, a103, a104, a105, a106, a107, a108, a109, a110, a111, a112, a113, a123, a125, a127, a129, a131, a133, a134, a135, a136, a137, a138, a139, a140, a141, a142, a143, a144, a145, a146, a147, a160, a161, a162, v64_13, v64_14, v64_15, v64_16, v65_3, v95_1, v132_2, v132_4, v132_9, v132_14, v132_15, v132_16, v65_7, v122, v124, v126, v128]
    exact w5
  · unfold iv_cach at w6 ⊢
    simp only [a66, a67, a68, a69, a70, a71, a72, a74, a75, a76, a96, a99, a100, a102, a103, a104, a105, a106, a107, a108, a109, a110, a111, a112, a113, a123, a125, a127, a129, a131, a133, a134, a135, a136, a137, a138, a139, a140, a141, a142, a143, a144, a145, a146, a147, a160, a161, a162, v64_13, v64_14, v64_15, v64_16, v65_3, v95_1, v132_2, v132_4, v132_9, v132_14, v132_15, v132_16, v65_7, v122, v124, v126, v128]
    exact w6
  · unfold iv_firs at w7 ⊢
    simp only [a66, a67, a68, a69, a70, a71, a72, a74, a75, a76, a96, a99, a100, a102, a103, a104, a105, a106, a107, a108, a109, a110, a111, a112, a113, a123, a125, a127, a129, a131, a133, a134, a135, a136, a137, a138, a139, a140, a141, a142, a143, a144, a145, a146, a147, a160, a161, a162, v64_13, v64_14, v64_15, v64_16, v65_3, v95_1, v132_2, v132_4, v132_9, v132_14, v132_15, v132_16, v65_7, v122, v124, v126, v128]
    exact w7
  · unfold iv_even at w8 ⊢
    simp only [a66, a67, a68, a69, a70, a71, a72, a74, a75, a76, a96, a99, a100, a102, a103, a104, a105, a106, a107, a108, a109, a110, a111, a112, a113, a123, a125, a127, a129, a131, a133, a134, a135, a136, a137, a138, a139, a140, a141, a142, a143, a144, a145, a146, a147, a160, a161, a162, v64_13, v64_14, v64_15, v64_16, v65_3, v95_1, v132_2, v132_4, v132_9, v132_14, v132_15, v132_16, v65_7, v122, v124, v126, v128]
    exact w8
  · unfold iv_tape at w9 ⊢
    simp only [a66, a67, a68, a69, a70, a71, a72, a74, a75, a76, a96, a99, a100, a102, a103, a104, a105, a106, a107, a108, a109, a110, a111, a112, a113, a123, a125, a127, a129, a131, a133, a134, a135, a136, a137, a138, a139, a140, a141, a142, a143, a144, a145, a146, a147, a160, a161, a162, v64_13, v64_14, v64_15, v64_16, v65_3, v95_1, v132_2, v132_4, v132_9, v132_14, v132_15, v132_16, v65_7, v122, v124, v126, v128]
    exact w9
  · unfold iv_shee at w10 ⊢
    simp only [a66, a67, a68, a69, a70, a71, a72, a74, a75, a76, a96, a99, a100, a102, a103, a104, a105, a106, a107, a108, a109, a110, a111, a112, a113, a123, a125, a127, a129, a131, a133, a134, a135, a136, a137, a138, a139, a140, a141, a142, a143, a144, a145, a146, a147, a160, a161, a162, v64_13, v64_14, v64_15, v64_16, v65_3, v95_1, v132_2, v132_4, v132_9, v132_14, v132_15, v132_16, v65_7, v122, v124, v126, v128]
    exact w10
  · unfold iv_text at w12 ⊢
    simp only [a66, a67, a68, a69, a70, a71, a72, a74, a75, a76, a96, a99, a100, a102, a103, a104, a105, a106, a107, a108, a109, a110, a111, a112, a113, a123, a125, a127, a129, a131, a133, a134, a135, a136, a137, a138, a139, a140, a141, a142, a143, a144, a145, a146, a147, a160, a161, a162, v64_13, v64_14, v64_15, v64_16, v65_3, v95_1, v132_2, v132_4, v132_9, v132_14, v132_15, v132_16, v65_7, v122, v124, v126, v128]
    exact w12
  · unfold iv_lets at w13 ⊢
    simp only [a66, a67, a68, a69, a70, a71, a72, a74, a75, a76, a96, a99, a100, a102, a103, a104, a105, a106, a107, a108, a109, a110, a111, a112, a113, a123, a125, a127, a129, a131, a133, a134, a135, a136, a137, a138, a139, a140, a141, a142, a143, a144, a145, a146, a147, a160, a161, a162, v64_13, v64_14, v64_15, v64_16, v65_3, v95_1, v132_2, v132_4, v132_9, v132_14, v132_15, v132_16, v65_7, v122, v124, v126, v128]
    exact w13
def kA_back (a : Nat) : Bool := kA a && !(Nat.beq a 74 || Nat.beq a 75 || Nat.beq a 76 || Nat.beq a 99 || Nat.beq a 100 || Nat.beq a 102 || Nat.beq a 103 || Nat.beq a 104 || Nat.beq a 105 || Nat.beq a 106 || Nat.beq a 107 || Nat.beq a 108 || Nat.beq a 109 || Nat.beq a 110 || Nat.beq a 111 || Nat.beq a 112 || Nat.beq a 113 || Nat.beq a 133 || Nat.beq a 134 || Nat.beq a 139 || Nat.beq a 140 || Nat.beq a 141 || Nat.beq a 142)
def kV_back (a k : Nat) : Bool := kV a k && !((Nat.beq a 64 && Nat.beq k 13) || (Nat.beq a 64 && Nat.beq k 14) || (Nat.beq a 64 && Nat.beq k 15) || (Nat.beq a 64 && Nat.beq k 16) || (Nat.beq a 65 && Nat.beq k 3) || (Nat.beq a 95 && Nat.beq k 1) || (Nat.beq a 132 && Nat.beq k 2) || (Nat.beq a 132 && Nat.beq k 4) || (Nat.beq a 132 && Nat.beq k 9) || (Nat.beq a 132 && Nat.beq k 14) || (Nat.beq a 132 && Nat.beq k 15) || (Nat.beq a 132 && Nat.beq k 16))
theorem iv_but_back {N : Nat → Nat} {B : Nat → Nat → Nat} {A V A' V' : xM} {tx : List xh_T} {cu cu' : Value} {x y : Nat} {b0 b1 b5 : Nat → Nat} (hA : ∀ a, kA_back a = true → A' a = A a) (hV : ∀ a k, kV_back a k = true → V' a k = V a k) (hv : iv N B A V tx cu) (n_num : iv_num (va_up (va_up N 2 x) 3 y) (va_up (va_up (va_up B 0 b0) 1 b1) 5 b5) A' V' tx cu') (n_thin : iv_thin (va_up (va_up N 2 x) 3 y) (va_up (va_up (va_up B 0 b0) 1 b1) 5 b5) A' V' tx cu') (n_seat : iv_seat (va_up (va_up N 2 x) 3 y) (va_up (va_up (va_up B 0 b0) 1 b1) 5 b5) A' V' tx cu') (n_firs : iv_firs (va_up (va_up N 2 x) 3 y) (va_up (va_up (va_up B 0 b0) 1 b1) 5 b5) A' V' tx cu') (n_even : iv_even (va_up (va_up N 2 x) 3 y) (va_up (va_up (va_up B 0 b0) 1 b1) 5 b5) A' V' tx cu') : iv (va_up (va_up N 2 x) 3 y) (va_up (va_up (va_up B 0 b0) 1 b1) 5 b5) A' V' tx cu' := by
  have a66 : A' 66 = A 66 := hA 66 rfl
  have a67 : A' 67 = A 67 := hA 67 rfl
  have a68 : A' 68 = A 68 := hA 68 rfl
  have a69 : A' 69 = A 69 := hA 69 rfl
  have a70 : A' 70 = A 70 := hA 70 rfl
  have a71 : A' 71 = A 71 := hA 71 rfl
  have a72 : A' 72 = A 72 := hA 72 rfl
  have a96 : A' 96 = A 96 := hA 96 rfl
  have a117 : A' 117 = A 117 := hA 117 rfl
  have a118 : A' 118 = A 118 := hA 118 rfl
  have a119 : A' 119 = A 119 := hA 119 rfl
  have a120 : A' 120 = A 120 := hA 120 rfl
  have a121 : A' 121 = A 121 := hA 121 rfl
  have a123 : A' 123 = A 123 := hA 123 rfl
  have a125 : A' 125 = A 125 := hA 125 rfl
  have a127 : A' 127 = A 127 := hA 127 rfl
  have a129 : A' 129 = A 129 := hA 129 rfl
  have a131 : A' 131 = A 131 := hA 131 rfl
  have a135 : A' 135 = A 135 := hA 135 rfl
  have a136 : A' 136 = A 136 := hA 136 rfl
  have a137 : A' 137 = A 137 := hA 137 rfl
  have a138 : A' 138 = A 138 := hA 138 rfl
  have a143 : A' 143 = A 143 := hA 143 rfl
  have a144 : A' 144 = A 144 := hA 144 rfl
  have a145 : A' 145 = A 145 := hA 145 rfl
  have a146 : A' 146 = A 146 := hA 146 rfl
  have a147 : A' 147 = A 147 := hA 147 rfl
  have a157 : A' 157 = A 157 := hA 157 rfl
  have a158 : A' 158 = A 158 := hA 158 rfl
  have a159 : A' 159 = A 159 := hA 159 rfl
  have a160 : A' 160 = A 160 := hA 160 rfl
  have a161 : A' 161 = A 161 := hA 161 rfl
  have a162 : A' 162 = A 162 := hA 162 rfl
  have v65_7 : V' 65 7 = V 65 7 := hV 65 7 rfl
  have v122 : V' 122 = V 122 := funext (fun k => hV 122 k rfl)
  have v124 : V' 124 = V 124 := funext (fun k => hV 124 k rfl)
  have v126 : V' 126 = V 126 := funext (fun k => hV 126 k rfl)
  have v128 : V' 128 = V 128 := funext (fun k => hV 128 k rfl)
  have v115_3 : V' 115 3 = V 115 3 := hV 115 3 rfl
  have v115_4 : V' 115 4 = V 115 4 := hV 115 4 rfl
  have v115_5 : V' 115 5 = V 115 5 := hV 115 5 rfl
  have v115_6 : V' 115 6 = V 115 6 := hV 115 6 rfl
  have v132_43 : V' 132 43 = V 132 43 := hV 132 43 rfl
  have v132_47 : V' 132 47 = V 132 47 := hV 132 47 rfl
  have v132_48 : V' 132 48 = V 132 48 := hV 132 48 rfl
  have v132_49 : V' 132 49 = V 132 49 := hV 132 49 rfl
  have v132_50 : V' 132 50 = V 132 50 := hV 132 50 rfl
  obtain ⟨w1, w2, w3, w4, w5, w6, w7, w8, w9, w10, w11, w12, w13⟩ := hv
  refine ⟨n_num, n_thin, n_seat, ?_, ?_, ?_, n_firs, n_even, ?_, ?_, ?_, ?_, ?_⟩
  · unfold iv_need at w4 ⊢
    simp only [a66, a67, a68, a69, a70, a71, a72, a96, a117, a118, a119, a120, a121, a123, a125, a127, a129, a131, a135, a136, a137, a138, a143, a144, a145, a146, a147, a157, a158, a159, a160, a161, a162, v65_7, v122, v124, v126, v128, v115_3, v115_4, v115_5, v115_6, v132_43, v132_47, v132_48, v132_49, v132_50]
    exact w4
  · unfold iv_peop at w5 ⊢
    simp only [a66, a67, a68, a69, a70, a71, a72, a96, a117, a118, a119, a120, a121, a123, a125, a127, a129, a131, a135, a136, a137, a138, a143, a144, a145, a146, a147, a157, a158, a159, a160, a161, a162, v65_7, v122, v124, v126, v128, v115_3, v115_4, v115_5, v115_6, v132_43, v132_47, v132_48, v132_49, v132_50]
    exact w5
  · unfold iv_cach at w6 ⊢
    simp only [a66, a67, a68, a69, a70, a71, a72, a96, a117, a118, a119, a120, a121, a123, a125, a127, a129, a131, a135, a136, a137, a138, a143, a144, a145, a146, a147, a157, a158, a159, a160, a161, a162, v65_7, v122, v124, v126, v128, v115_3, v115_4, v115_5, v115_6, v132_43, v132_47, v132_48, v132_49, v132_50]
    exact w6
  · unfold iv_tape at w9 ⊢
    simp only [a66, a67, a68, a69, a70, a71, a72, a96, a117, a118, a119, a120, a121, a123, a125, a127, a129, a131, a135, a136, a137, a138, a143, a144, a145, a146, a147, a157, a158, a159, a160, a161, a162, v65_7, v122, v124, v126, v128, v115_3, v115_4, v115_5, v115_6, v132_43, v132_47, v132_48, v132_49, v132_50]
    exact w9
  · unfold iv_shee at w10 ⊢
    simp only [a66, a67, a68, a69, a70, a71, a72, a96, a117, a118, a119, a120, a121, a123, a125, a127, a129, a131, a135, a136, a137, a138, a143, a144, a145, a146, a147, a157, a158, a159, a160, a161, a162, v65_7, v122, v124, v126, v128, v115_3, v115_4, v115_5, v115_6, v132_43, v132_47, v132_48, v132_49, v132_50]
    exact w10
  · unfold iv_imag at w11 ⊢
    simp only [a66, a67, a68, a69, a70, a71, a72, a96, a117, a118, a119, a120, a121, a123, a125, a127, a129, a131, a135, a136, a137, a138, a143, a144, a145, a146, a147, a157, a158, a159, a160, a161, a162, v65_7, v122, v124, v126, v128, v115_3, v115_4, v115_5, v115_6, v132_43, v132_47, v132_48, v132_49, v132_50]
    exact w11
  · unfold iv_text at w12 ⊢
    simp only [a66, a67, a68, a69, a70, a71, a72, a96, a117, a118, a119, a120, a121, a123, a125, a127, a129, a131, a135, a136, a137, a138, a143, a144, a145, a146, a147, a157, a158, a159, a160, a161, a162, v65_7, v122, v124, v126, v128, v115_3, v115_4, v115_5, v115_6, v132_43, v132_47, v132_48, v132_49, v132_50]
    exact w12
  · unfold iv_lets at w13 ⊢
    simp only [a66, a67, a68, a69, a70, a71, a72, a96, a117, a118, a119, a120, a121, a123, a125, a127, a129, a131, a135, a136, a137, a138, a143, a144, a145, a146, a147, a157, a158, a159, a160, a161, a162, v65_7, v122, v124, v126, v128, v115_3, v115_4, v115_5, v115_6, v132_43, v132_47, v132_48, v132_49, v132_50]
    exact w13
theorem c_fill {l0 m : Nat} (hm : ysz l0 = m) (hm5 : m < 4000) (x : Int32) (A V : xM) (cu : Value) : ∃ A2, fJ7_fill_53178 l0 x A V cu = some (A2, V, cu) ∧ (∀ i, i < m → A2 l0 i = x) ∧ ∀ b, b ≠ l0 → A2 b = A b := by
  have L : ∀ k i n (A : xM), i + k = m → k < n → ∃ A2, fJ7_fill_53178_L5 l0 x (nI m) (fun (A7 V8 : xM) (c9 : Value) => some (A7, V8, c9)) n (nI i) A V cu = some (A2, V, cu) ∧ (∀ j, i ≤ j → j < m → A2 l0 j = x) ∧ (∀ j, j < i → A2 l0 j = A l0 j) ∧ ∀ b, b ≠ l0 → A2 b = A b := by
    intro k
    induction k with
    | zero =>
      intro i n A hi hn
      obtain ⟨n, rfl⟩ : ∃ m, n = m + 1 := ⟨n - 1, by omega⟩
      refine ⟨A, ?_, fun j h1 h2 => by omega, fun _ _ => rfl, fun _ _ => rfl⟩
      rw [fJ7_fill_53178_L5, if_pos (by simp (disch := omega) only [ltI, leI, eqI, tI, tI1, ti_0, ti_1, ti_2, ti_3, ti_4, ti_5, ti_6, ti_7, ti_8, ti_9, ti_10, ti_11, ti_12, ti_14, ti_18, ti_30, ti_39, ti_40, ti_41, ti_45, ti_50, ti_59, ti_97, ti_99, ti_100, ti_122, ti_160, ti_243, ti_255, ti_399, ti_999, ti_1000, ti_1024, ti_99999, tm_1, tm_2, tm_3, tm_4, tm_5, tm_7, tm_11, tm_12, tm_13, tm_14, tm_100, if_pos, if_neg, if_true, if_false, bC_in, bI_s, bS_s, bX_s, bY_s, sO, tC]; omega)]
    | succ k ih =>
      intro i n A hi hn
      obtain ⟨n, rfl⟩ : ∃ m, n = m + 1 := ⟨n - 1, by omega⟩
      obtain ⟨A2, w1, w2, w3, w4⟩ := ih (i + 1) n (aw A l0 (nI i) x) (by omega) (by omega)
      refine ⟨A2, ?_, fun j h1 h2 => ?_, fun j h1 => ?_, fun b hb => (w4 b hb).trans (aw_n hb)⟩
      · rw [fJ7_fill_53178_L5, if_neg (by simp (disch := omega) only [ltI, leI, eqI, tI, tI1, ti_0, ti_1, ti_2, ti_3, ti_4, ti_5, ti_6, ti_7, ti_8, ti_9, ti_10, ti_11, ti_12, ti_14, ti_18, ti_30, ti_39, ti_40, ti_41, ti_45, ti_50, ti_59, ti_97, ti_99, ti_100, ti_122, ti_160, ti_243, ti_255, ti_399, ti_999, ti_1000, ti_1024, ti_99999, tm_1, tm_2, tm_3, tm_4, tm_5, tm_7, tm_11, tm_12, tm_13, tm_14, tm_100, if_pos, if_neg, if_true, if_false, bC_in, bI_s, bS_s, bX_s, bY_s, sO, tC]; omega), hm, bC_in ⟨by omega, by omega⟩, sO]
        exact w1
      · by_cases q : j = i
        · subst q
          rw [w3 j (by omega), aw_s, tC (by omega), pk_us]
        · exact w2 j (by omega) h2
      · rw [w3 j (by omega), aw_s, tC (by omega), pk_un (by omega)]
  obtain ⟨A2, w1, w2, w3, w4⟩ := L m 0 FU A (by omega) (fu_gt (by omega))
  refine ⟨A2, ?_, fun i hi => w2 i (Nat.zero_le _) hi, w4⟩
  unfold fJ7_fill_53178
  rw [hm]
  exact w1
section SH
variable {N : Nat → Nat} {B : Nat → Nat → Nat} {A V A1 V1 A' V' : xM} {tx : List xh_T} {cu cu' : Value}
theorem shee_of (h : ∀ j, j < 4 → iv_s1 (V' (122 + 2 * j)) (A' (122 + 2 * j + 1)) (A' 160 j) (A' 161 j) (fun i => A' 162 (40 * j + i))) : iv_shee N B A' V' tx cu' := ⟨h 0 (by decide), h 1 (by decide), h 2 (by decide), h 3 (by decide)⟩
theorem shee_at (h : iv_shee N B A V tx cu) {j : Nat} (hj : j < 4) : iv_s1 (V (122 + 2 * j)) (A (122 + 2 * j + 1)) (A 160 j) (A 161 j) (fun i => A 162 (40 * j + i)) := by
  match j, hj with
  | 0, _ => exact h.1
  | 1, _ => exact h.2.1
  | 2, _ => exact h.2.2.1
  | 3, _ => exact h.2.2.2
theorem ysz_c : ∀ j, j < 4 → ysz (122 + 2 * j + 1) = 40 := by
  intro j hj
  match j, hj with
  | 0, _ => rfl
  | 1, _ => rfl
  | 2, _ => rfl
  | 3, _ => rfl
theorem kA_sh {a j : Nat} (hj : j < 4) (q : kA_shee a = true) : a ≠ 122 + 2 * j + 1 ∧ a ≠ 160 ∧ a ≠ 161 ∧ a ≠ 162 ∧ a ≠ 163 := by
  refine ⟨?_, fun z => (by subst z; cases q), fun z => (by subst z; cases q), fun z => (by subst z; cases q), fun z => (by subst z; cases q)⟩
  match j, hj with
  | 0, _ => exact fun z => by subst z; cases q
  | 1, _ => exact fun z => by subst z; cases q
  | 2, _ => exact fun z => by subst z; cases q
  | 3, _ => exact fun z => by subst z; cases q
theorem kV_sh {a k j : Nat} (hj : j < 4) (q : kV_shee a k = true) : a ≠ 122 + 2 * j := by
  match j, hj with
  | 0, _ => exact fun z => by subst z; cases q
  | 1, _ => exact fun z => by subst z; cases q
  | 2, _ => exact fun z => by subst z; cases q
  | 3, _ => exact fun z => by subst z; cases q
theorem r_sheet_L {j : Nat} (hj : j < 4) (V1 : xM) (c1 : Value) (ex : xM → xM → Value → Option (Int32 × xS)) : ∀ k i n (A1 : xM), i + k = 40 → k < n → ∃ A2, fX9_sheet_L65 (nI j) ex n (nI i) A1 V1 c1 = ex A2 V1 c1 ∧ (∀ x, 40 * j + i ≤ x → x < 40 * j + 40 → A2 162 x = 0) ∧ (∀ x, ¬ (40 * j + i ≤ x ∧ x < 40 * j + 40) → A2 162 x = A1 162 x) ∧ ∀ b, b ≠ 162 → A2 b = A1 b := by
  intro k
  induction k with
  | zero =>
    intro i n A1 hi hn
    obtain ⟨n, rfl⟩ : ∃ m, n = m + 1 := ⟨n - 1, by omega⟩
    refine ⟨A1, ?_, fun j h1 h2 => by omega, fun _ _ => rfl, fun _ _ => rfl⟩
    rw [fX9_sheet_L65, if_pos (by simp (disch := omega) only [ltI, leI, eqI, tI, tI1, ti_0, ti_1, ti_2, ti_3, ti_4, ti_5, ti_6, ti_7, ti_8, ti_9, ti_10, ti_11, ti_12, ti_14, ti_18, ti_30, ti_39, ti_40, ti_41, ti_45, ti_50, ti_59, ti_97, ti_99, ti_100, ti_122, ti_160, ti_243, ti_255, ti_399, ti_999, ti_1000, ti_1024, ti_99999, tm_1, tm_2, tm_3, tm_4, tm_5, tm_7, tm_11, tm_12, tm_13, tm_14, tm_100, if_pos, if_neg, if_true, if_false, bC_in, bI_s, bS_s, bX_s, bY_s, sO, tC]; omega)]
  | succ k ih =>
    intro i n A1 hi hn
    obtain ⟨n, rfl⟩ : ∃ m, n = m + 1 := ⟨n - 1, by omega⟩
    have e40 : (40 : Int32) * nI j + nI i = nI (40 * j + i) := by rw [show (40 : Int32) = nI 40 from rfl, pk_mul, nI_add]
    obtain ⟨A2, w1, w2, w3, w4⟩ := ih (i + 1) n (aw A1 162 (nI (40 * j + i)) 0) (by omega) (by omega)
    refine ⟨A2, ?_, fun x h1 h2 => ?_, fun x h1 => ?_, fun b hb => (w4 b hb).trans (aw_n hb)⟩
    · rw [fX9_sheet_L65, if_neg (by simp (disch := omega) only [ltI, leI, eqI, tI, tI1, ti_0, ti_1, ti_2, ti_3, ti_4, ti_5, ti_6, ti_7, ti_8, ti_9, ti_10, ti_11, ti_12, ti_14, ti_18, ti_30, ti_39, ti_40, ti_41, ti_45, ti_50, ti_59, ti_97, ti_99, ti_100, ti_122, ti_160, ti_243, ti_255, ti_399, ti_999, ti_1000, ti_1024, ti_99999, tm_1, tm_2, tm_3, tm_4, tm_5, tm_7, tm_11, tm_12, tm_13, tm_14, tm_100, if_pos, if_neg, if_true, if_false, bC_in, bI_s, bS_s, bX_s, bY_s, sO, tC]; omega), e40, bC_in ⟨by omega, by decide⟩, sO]
      exact w1
    · by_cases q : x = 40 * j + i
      · subst q
        rw [w3 _ (by omega), aw_s, tC (by omega), pk_us]
      · exact w2 x (by omega) h2
    · rw [w3 x (by omega), aw_s, tC (by omega), pk_un (by omega)]
variable {LL : Nat} {xs : Nat → Int32} {d : Nat}
/-- a sheet becomes a row -/
theorem sheet_set (hv : iv N B A V tx cu) {j n : Nat} (hj : j < 4) (hn : n ≤ 40) {so : Int32} (hso : so = -1 ∨ ∃ k : Nat, k < 3 ∧ so = nI k) : ∃ A1 V1, fX5_become (122 + 2 * j) so (nI n) A V cu = some (A1, V1, cu) ∧ A1 160 = A 160 ∧ ∀ ex : xM → xM → Value → Option (Int32 × xS), ∃ A2, fX9_sheet_L65 (nI j) ex FU 0 (aw (aw A1 160 (nI j) so) 161 (nI j) (nI n)) V1 cu = ex A2 V1 cu ∧ iv N B A2 V1 tx cu := by
  obtain ⟨A1, w1, w2, w3⟩ := c_fill (ysz_c j hj) (by decide) 0 A (up2 (up2 V (122 + 2 * j) 1 so) (122 + 2 * j) 2 (nI n)) cu
  refine ⟨A1, up2 (up2 V (122 + 2 * j) 1 so) (122 + 2 * j) 2 (nI n), ?_, w3 160 (by omega), fun ex => ?_⟩
  · unfold fX5_become
    rw [if_neg (by simp (disch := omega) only [ltI, leI, eqI, tI, tI1, ti_0, ti_1, ti_2, ti_3, ti_4, ti_5, ti_6, ti_7, ti_8, ti_9, ti_10, ti_11, ti_12, ti_14, ti_18, ti_30, ti_39, ti_40, ti_41, ti_45, ti_50, ti_59, ti_97, ti_99, ti_100, ti_122, ti_160, ti_243, ti_255, ti_399, ti_999, ti_1000, ti_1024, ti_99999, tm_1, tm_2, tm_3, tm_4, tm_5, tm_7, tm_11, tm_12, tm_13, tm_14, tm_100, if_pos, if_neg, if_true, if_false, bC_in, bI_s, bS_s, bX_s, bY_s, sO, tC]; omega), if_pos (by simp (disch := omega) only [ltI, leI, eqI, tI, tI1, ti_0, ti_1, ti_2, ti_3, ti_4, ti_5, ti_6, ti_7, ti_8, ti_9, ti_10, ti_11, ti_12, ti_14, ti_18, ti_30, ti_39, ti_40, ti_41, ti_45, ti_50, ti_59, ti_97, ti_99, ti_100, ti_122, ti_160, ti_243, ti_255, ti_399, ti_999, ti_1000, ti_1024, ti_99999, tm_1, tm_2, tm_3, tm_4, tm_5, tm_7, tm_11, tm_12, tm_13, tm_14, tm_100, if_pos, if_neg, if_true, if_false, bC_in, bI_s, bS_s, bX_s, bY_s, sO, tC]; omega), w1, bS_s]
  obtain ⟨A2, x1, x2, x3, x4⟩ := r_sheet_L hj (up2 (up2 V (122 + 2 * j) 1 so) (122 + 2 * j) 2 (nI n)) cu ex 40 0 FU (aw (aw A1 160 (nI j) so) 161 (nI j) (nI n)) (by omega) (fu_gt (by omega))
  refine ⟨A2, x1, iv_but_shee (fun a q => ?_) (fun a k q => ?_) hv (shee_of (fun i hi => ?_))⟩
  · obtain ⟨q1, q2, q3, q4, q5⟩ := kA_sh hj q
    rw [x4 a q4, aw_n q3, aw_n q2, w3 a q1]
  · have := kV_sh hj q
    rw [up2_n (fun z => this z.1), up2_n (fun z => this z.1)]
  · have e161 : ∀ x, ¬ (40 * j ≤ x ∧ x < 40 * j + 40) → A2 162 x = A 162 x := fun x h => by rw [x3 x (by omega), aw_n (by decide), aw_n (by decide), w3 162 (by omega)]
    have e159 : A2 160 i = if i = j then so else A 160 i := by
      rw [x4 160 (by decide), aw_n (by decide), aw_s, tC (by omega), w3 160 (by omega)]
      rfl
    have e160 : A2 161 i = if i = j then nI n else A 161 i := by
      rw [x4 161 (by decide), aw_s, aw_n (by decide), tC (by omega), w3 161 (by omega)]
      rfl
    have eC : i ≠ j → A2 (122 + 2 * i + 1) = A (122 + 2 * i + 1) := fun h => by rw [x4 _ (by omega), aw_n (by omega), aw_n (by omega), w3 _ (by omega)]
    have eV : ∀ k, up2 (up2 V (122 + 2 * j) 1 so) (122 + 2 * j) 2 (nI n) (122 + 2 * i) k = if i = j then (if k = 2 then nI n else if k = 1 then so else V (122 + 2 * j) k) else V (122 + 2 * i) k := by
      intro k
      by_cases h : i = j
      · subst h
        rw [if_pos rfl]
        by_cases h2 : k = 2
        · rw [if_pos h2, h2, up2_s]
        · rw [if_neg h2, up2_n (fun z => h2 z.2)]
          by_cases h3 : k = 1
          · rw [if_pos h3, h3, up2_s]
          · rw [if_neg h3, up2_n (fun z => h3 z.2)]
      · rw [if_neg h, up2_n (by omega), up2_n (by omega)]
    by_cases h : i = j
    · subst h
      refine ⟨?_, ⟨n, hn, ?_, ?_⟩, fun k hk => ?_, ?_⟩
      · simp only [eV, e159, if_true]; rfl
      · simp only [eV, if_true]
      · simp only [e160, if_true]
      · show A2 (122 + 2 * i + 1) k = A2 162 (40 * i + k)
        rw [x4 _ (by omega), aw_n (by omega), aw_n (by omega), w2 k hk, x2 (40 * i + k) (by omega) (by omega)]
      · simp only [e159, if_true]; exact hso
    · obtain ⟨g1, g2, g3, g4⟩ := shee_at hv.2.2.2.2.2.2.2.2.2.1 hi
      refine ⟨?_, ?_, fun k hk => ?_, ?_⟩
      · rw [eV, e159, if_neg h, if_neg h]; exact g1
      · rw [eV, e160, if_neg h, if_neg h]; exact g2
      · show A2 (122 + 2 * i + 1) k = A2 162 (40 * i + k)
        rw [eC h, e161 (40 * i + k) (by omega)]; exact g3 k hk
      · rw [e159, if_neg h]; exact g4
theorem op_sheet (hd : 70 ≤ d) (a b c : Int32) : iv_op (xk_ro LL xs) d 106 211 [.int a, .int b, .int c] := by
  refine op_mk (fc := fun tx A V cu => fX8_sheet a b c A V cu) (fm := fun tx A V cu => fX9_sheet a b c A V cu) (fun tx A V cu r A' V' c' q => sX8_sheet (by omega) q) (fun tx A V cu r A' V' c' q => sX9_sheet (by omega) q) ?_
  intro N B A V tx cu hv
  unfold fX8_sheet fX9_sheet
  rcases ix3 a 4 (by omega) with h | h | ⟨j, hj, rfl⟩
  · exact ⟨-2, A, V, cu, by simp (disch := omega) only [ltI, leI, eqI, tI, tI1, ti_0, ti_1, ti_2, ti_3, ti_4, ti_5, ti_6, ti_7, ti_8, ti_9, ti_10, ti_11, ti_12, ti_14, ti_18, ti_30, ti_39, ti_40, ti_41, ti_45, ti_50, ti_59, ti_97, ti_99, ti_100, ti_122, ti_160, ti_243, ti_255, ti_399, ti_999, ti_1000, ti_1024, ti_99999, tm_1, tm_2, tm_3, tm_4, tm_5, tm_7, tm_11, tm_12, tm_13, tm_14, tm_100, if_pos, if_neg, if_true, if_false, bC_in, bI_s, bS_s, bX_s, bY_s, sO, tC], A, V, cu, by simp (disch := omega) only [ltI, leI, eqI, tI, tI1, ti_0, ti_1, ti_2, ti_3, ti_4, ti_5, ti_6, ti_7, ti_8, ti_9, ti_10, ti_11, ti_12, ti_14, ti_18, ti_30, ti_39, ti_40, ti_41, ti_45, ti_50, ti_59, ti_97, ti_99, ti_100, ti_122, ti_160, ti_243, ti_255, ti_399, ti_999, ti_1000, ti_1024, ti_99999, tm_1, tm_2, tm_3, tm_4, tm_5, tm_7, tm_11, tm_12, tm_13, tm_14, tm_100, if_pos, if_neg, if_true, if_false, bC_in, bI_s, bS_s, bX_s, bY_s, sO, tC], N, B, hv⟩
  · exact ⟨-2, A, V, cu, by simp (disch := omega) only [ltI, leI, eqI, tI, tI1, ti_0, ti_1, ti_2, ti_3, ti_4, ti_5, ti_6, ti_7, ti_8, ti_9, ti_10, ti_11, ti_12, ti_14, ti_18, ti_30, ti_39, ti_40, ti_41, ti_45, ti_50, ti_59, ti_97, ti_99, ti_100, ti_122, ti_160, ti_243, ti_255, ti_399, ti_999, ti_1000, ti_1024, ti_99999, tm_1, tm_2, tm_3, tm_4, tm_5, tm_7, tm_11, tm_12, tm_13, tm_14, tm_100, if_pos, if_neg, if_true, if_false, bC_in, bI_s, bS_s, bX_s, bY_s, sO, tC], A, V, cu, by simp (disch := omega) only [ltI, leI, eqI, tI, tI1, ti_0, ti_1, ti_2, ti_3, ti_4, ti_5, ti_6, ti_7, ti_8, ti_9, ti_10, ti_11, ti_12, ti_14, ti_18, ti_30, ti_39, ti_40, ti_41, ti_45, ti_50, ti_59, ti_97, ti_99, ti_100, ti_122, ti_160, ti_243, ti_255, ti_399, ti_999, ti_1000, ti_1024, ti_99999, tm_1, tm_2, tm_3, tm_4, tm_5, tm_7, tm_11, tm_12, tm_13, tm_14, tm_100, if_pos, if_neg, if_true, if_false, bC_in, bI_s, bS_s, bX_s, bY_s, sO, tC], N, B, hv⟩
  by_cases b1 : b.toInt < -1
  · exact ⟨-2, A, V, cu, by simp (disch := omega) only [ltI, leI, eqI, tI, tI1, ti_0, ti_1, ti_2, ti_3, ti_4, ti_5, ti_6, ti_7, ti_8, ti_9, ti_10, ti_11, ti_12, ti_14, ti_18, ti_30, ti_39, ti_40, ti_41, ti_45, ti_50, ti_59, ti_97, ti_99, ti_100, ti_122, ti_160, ti_243, ti_255, ti_399, ti_999, ti_1000, ti_1024, ti_99999, tm_1, tm_2, tm_3, tm_4, tm_5, tm_7, tm_11, tm_12, tm_13, tm_14, tm_100, if_pos, if_neg, if_true, if_false, bC_in, bI_s, bS_s, bX_s, bY_s, sO, tC], A, V, cu, by simp (disch := omega) only [ltI, leI, eqI, tI, tI1, ti_0, ti_1, ti_2, ti_3, ti_4, ti_5, ti_6, ti_7, ti_8, ti_9, ti_10, ti_11, ti_12, ti_14, ti_18, ti_30, ti_39, ti_40, ti_41, ti_45, ti_50, ti_59, ti_97, ti_99, ti_100, ti_122, ti_160, ti_243, ti_255, ti_399, ti_999, ti_1000, ti_1024, ti_99999, tm_1, tm_2, tm_3, tm_4, tm_5, tm_7, tm_11, tm_12, tm_13, tm_14, tm_100, if_pos, if_neg, if_true, if_false, bC_in, bI_s, bS_s, bX_s, bY_s, sO, tC], N, B, hv⟩
  by_cases b2 : 2 < b.toInt
  · exact ⟨-2, A, V, cu, by simp (disch := omega) only [ltI, leI, eqI, tI, tI1, ti_0, ti_1, ti_2, ti_3, ti_4, ti_5, ti_6, ti_7, ti_8, ti_9, ti_10, ti_11, ti_12, ti_14, ti_18, ti_30, ti_39, ti_40, ti_41, ti_45, ti_50, ti_59, ti_97, ti_99, ti_100, ti_122, ti_160, ti_243, ti_255, ti_399, ti_999, ti_1000, ti_1024, ti_99999, tm_1, tm_2, tm_3, tm_4, tm_5, tm_7, tm_11, tm_12, tm_13, tm_14, tm_100, if_pos, if_neg, if_true, if_false, bC_in, bI_s, bS_s, bX_s, bY_s, sO, tC], A, V, cu, by simp (disch := omega) only [ltI, leI, eqI, tI, tI1, ti_0, ti_1, ti_2, ti_3, ti_4, ti_5, ti_6, ti_7, ti_8, ti_9, ti_10, ti_11, ti_12, ti_14, ti_18, ti_30, ti_39, ti_40, ti_41, ti_45, ti_50, ti_59, ti_97, ti_99, ti_100, ti_122, ti_160, ti_243, ti_255, ti_399, ti_999, ti_1000, ti_1024, ti_99999, tm_1, tm_2, tm_3, tm_4, tm_5, tm_7, tm_11, tm_12, tm_13, tm_14, tm_100, if_pos, if_neg, if_true, if_false, bC_in, bI_s, bS_s, bX_s, bY_s, sO, tC], N, B, hv⟩
  by_cases b3 : b = -1
  · subst b3
    obtain ⟨A1, V1, w1, -, w2⟩ := sheet_set hv hj (n := 0) (by decide) (Or.inl rfl)
    obtain ⟨A2, x1, x2⟩ := w2 (fun (A23 V24 : xM) (c25 : Value) => some ((1 : Int32), A23, V24, c25))
    have w1 : fX5_become (122 + 2 * j) (-1) 0 A V cu = some (A1, V1, cu) := w1
    refine ⟨1, A1, V1, cu, ?_, A2, V1, cu, ?_, N, B, x2⟩
    · rw [if_neg (by simp (disch := omega) only [ltI, leI, eqI, tI, tI1, ti_0, ti_1, ti_2, ti_3, ti_4, ti_5, ti_6, ti_7, ti_8, ti_9, ti_10, ti_11, ti_12, ti_14, ti_18, ti_30, ti_39, ti_40, ti_41, ti_45, ti_50, ti_59, ti_97, ti_99, ti_100, ti_122, ti_160, ti_243, ti_255, ti_399, ti_999, ti_1000, ti_1024, ti_99999, tm_1, tm_2, tm_3, tm_4, tm_5, tm_7, tm_11, tm_12, tm_13, tm_14, tm_100, if_pos, if_neg, if_true, if_false, bC_in, bI_s, bS_s, bX_s, bY_s, sO, tC]; omega), if_neg (by simp (disch := omega) only [ltI, leI, eqI, tI, tI1, ti_0, ti_1, ti_2, ti_3, ti_4, ti_5, ti_6, ti_7, ti_8, ti_9, ti_10, ti_11, ti_12, ti_14, ti_18, ti_30, ti_39, ti_40, ti_41, ti_45, ti_50, ti_59, ti_97, ti_99, ti_100, ti_122, ti_160, ti_243, ti_255, ti_399, ti_999, ti_1000, ti_1024, ti_99999, tm_1, tm_2, tm_3, tm_4, tm_5, tm_7, tm_11, tm_12, tm_13, tm_14, tm_100, if_pos, if_neg, if_true, if_false, bC_in, bI_s, bS_s, bX_s, bY_s, sO, tC]; omega), if_neg (by decide), if_pos (by decide), if_pos rfl, bC_in ⟨hj, by decide⟩, tC (by omega), w1, bS_s]
    · rw [if_neg (by simp (disch := omega) only [ltI, leI, eqI, tI, tI1, ti_0, ti_1, ti_2, ti_3, ti_4, ti_5, ti_6, ti_7, ti_8, ti_9, ti_10, ti_11, ti_12, ti_14, ti_18, ti_30, ti_39, ti_40, ti_41, ti_45, ti_50, ti_59, ti_97, ti_99, ti_100, ti_122, ti_160, ti_243, ti_255, ti_399, ti_999, ti_1000, ti_1024, ti_99999, tm_1, tm_2, tm_3, tm_4, tm_5, tm_7, tm_11, tm_12, tm_13, tm_14, tm_100, if_pos, if_neg, if_true, if_false, bC_in, bI_s, bS_s, bX_s, bY_s, sO, tC]; omega), if_neg (by simp (disch := omega) only [ltI, leI, eqI, tI, tI1, ti_0, ti_1, ti_2, ti_3, ti_4, ti_5, ti_6, ti_7, ti_8, ti_9, ti_10, ti_11, ti_12, ti_14, ti_18, ti_30, ti_39, ti_40, ti_41, ti_45, ti_50, ti_59, ti_97, ti_99, ti_100, ti_122, ti_160, ti_243, ti_255, ti_399, ti_999, ti_1000, ti_1024, ti_99999, tm_1, tm_2, tm_3, tm_4, tm_5, tm_7, tm_11, tm_12, tm_13, tm_14, tm_100, if_pos, if_neg, if_true, if_false, bC_in, bI_s, bS_s, bX_s, bY_s, sO, tC]; omega), if_neg (by decide), if_neg (by decide), if_pos (by decide), bC_in ⟨hj, by decide⟩, if_neg (by decide)]
      exact x1
  · have b0 : 0 ≤ b.toInt := by
      have : b.toInt ≠ -1 := fun z => b3 (Int32.toInt_inj.mp (z.trans tm_1.symm))
      omega
    obtain ⟨k, hk, rfl⟩ : ∃ k : Nat, k < 3 ∧ b = nI k := by
      rcases ix3 b 3 (by omega) with q | q | q
      · omega
      · omega
      · exact q
    by_cases c1 : 40 < c.toInt
    · exact ⟨-2, A, V, cu, by simp (disch := omega) only [ltI, leI, eqI, tI, tI1, ti_0, ti_1, ti_2, ti_3, ti_4, ti_5, ti_6, ti_7, ti_8, ti_9, ti_10, ti_11, ti_12, ti_14, ti_18, ti_30, ti_39, ti_40, ti_41, ti_45, ti_50, ti_59, ti_97, ti_99, ti_100, ti_122, ti_160, ti_243, ti_255, ti_399, ti_999, ti_1000, ti_1024, ti_99999, tm_1, tm_2, tm_3, tm_4, tm_5, tm_7, tm_11, tm_12, tm_13, tm_14, tm_100, if_pos, if_neg, if_true, if_false, bC_in, bI_s, bS_s, bX_s, bY_s, sO, tC], A, V, cu, by simp (disch := omega) only [ltI, leI, eqI, tI, tI1, ti_0, ti_1, ti_2, ti_3, ti_4, ti_5, ti_6, ti_7, ti_8, ti_9, ti_10, ti_11, ti_12, ti_14, ti_18, ti_30, ti_39, ti_40, ti_41, ti_45, ti_50, ti_59, ti_97, ti_99, ti_100, ti_122, ti_160, ti_243, ti_255, ti_399, ti_999, ti_1000, ti_1024, ti_99999, tm_1, tm_2, tm_3, tm_4, tm_5, tm_7, tm_11, tm_12, tm_13, tm_14, tm_100, if_pos, if_neg, if_true, if_false, bC_in, bI_s, bS_s, bX_s, bY_s, sO, tC], N, B, hv⟩
    by_cases c2 : c.toInt < 0
    · exact ⟨-14, A, V, cu, by simp (disch := omega) only [ltI, leI, eqI, tI, tI1, ti_0, ti_1, ti_2, ti_3, ti_4, ti_5, ti_6, ti_7, ti_8, ti_9, ti_10, ti_11, ti_12, ti_14, ti_18, ti_30, ti_39, ti_40, ti_41, ti_45, ti_50, ti_59, ti_97, ti_99, ti_100, ti_122, ti_160, ti_243, ti_255, ti_399, ti_999, ti_1000, ti_1024, ti_99999, tm_1, tm_2, tm_3, tm_4, tm_5, tm_7, tm_11, tm_12, tm_13, tm_14, tm_100, if_pos, if_neg, if_true, if_false, bC_in, bI_s, bS_s, bX_s, bY_s, sO, tC], A, V, cu, by simp (disch := omega) only [ltI, leI, eqI, tI, tI1, ti_0, ti_1, ti_2, ti_3, ti_4, ti_5, ti_6, ti_7, ti_8, ti_9, ti_10, ti_11, ti_12, ti_14, ti_18, ti_30, ti_39, ti_40, ti_41, ti_45, ti_50, ti_59, ti_97, ti_99, ti_100, ti_122, ti_160, ti_243, ti_255, ti_399, ti_999, ti_1000, ti_1024, ti_99999, tm_1, tm_2, tm_3, tm_4, tm_5, tm_7, tm_11, tm_12, tm_13, tm_14, tm_100, if_pos, if_neg, if_true, if_false, bC_in, bI_s, bS_s, bX_s, bY_s, sO, tC], N, B, hv⟩
    obtain ⟨n, hn, rfl⟩ : ∃ n : Nat, n < 41 ∧ c = nI n := by
      rcases ix3 c 41 (by omega) with q | q | q
      · omega
      · omega
      · exact q
    obtain ⟨A1, V1, w1, -, w2⟩ := sheet_set hv hj (n := n) (by omega) (so := nI k) (Or.inr ⟨k, hk, rfl⟩)
    obtain ⟨A2, x1, x2⟩ := w2 (fun (A35 V36 : xM) (c37 : Value) => some ((1 : Int32), A35, V36, c37))
    refine ⟨1, A1, V1, cu, ?_, A2, V1, cu, ?_, N, B, x2⟩
    · rw [if_neg (by simp (disch := omega) only [ltI, leI, eqI, tI, tI1, ti_0, ti_1, ti_2, ti_3, ti_4, ti_5, ti_6, ti_7, ti_8, ti_9, ti_10, ti_11, ti_12, ti_14, ti_18, ti_30, ti_39, ti_40, ti_41, ti_45, ti_50, ti_59, ti_97, ti_99, ti_100, ti_122, ti_160, ti_243, ti_255, ti_399, ti_999, ti_1000, ti_1024, ti_99999, tm_1, tm_2, tm_3, tm_4, tm_5, tm_7, tm_11, tm_12, tm_13, tm_14, tm_100, if_pos, if_neg, if_true, if_false, bC_in, bI_s, bS_s, bX_s, bY_s, sO, tC]; omega), if_neg (by simp (disch := omega) only [ltI, leI, eqI, tI, tI1, ti_0, ti_1, ti_2, ti_3, ti_4, ti_5, ti_6, ti_7, ti_8, ti_9, ti_10, ti_11, ti_12, ti_14, ti_18, ti_30, ti_39, ti_40, ti_41, ti_45, ti_50, ti_59, ti_97, ti_99, ti_100, ti_122, ti_160, ti_243, ti_255, ti_399, ti_999, ti_1000, ti_1024, ti_99999, tm_1, tm_2, tm_3, tm_4, tm_5, tm_7, tm_11, tm_12, tm_13, tm_14, tm_100, if_pos, if_neg, if_true, if_false, bC_in, bI_s, bS_s, bX_s, bY_s, sO, tC]; omega), if_neg (by simp (disch := omega) only [ltI, leI, eqI, tI, tI1, ti_0, ti_1, ti_2, ti_3, ti_4, ti_5, ti_6, ti_7, ti_8, ti_9, ti_10, ti_11, ti_12, ti_14, ti_18, ti_30, ti_39, ti_40, ti_41, ti_45, ti_50, ti_59, ti_97, ti_99, ti_100, ti_122, ti_160, ti_243, ti_255, ti_399, ti_999, ti_1000, ti_1024, ti_99999, tm_1, tm_2, tm_3, tm_4, tm_5, tm_7, tm_11, tm_12, tm_13, tm_14, tm_100, if_pos, if_neg, if_true, if_false, bC_in, bI_s, bS_s, bX_s, bY_s, sO, tC]; omega), if_pos (by simp (disch := omega) only [ltI, leI, eqI, tI, tI1, ti_0, ti_1, ti_2, ti_3, ti_4, ti_5, ti_6, ti_7, ti_8, ti_9, ti_10, ti_11, ti_12, ti_14, ti_18, ti_30, ti_39, ti_40, ti_41, ti_45, ti_50, ti_59, ti_97, ti_99, ti_100, ti_122, ti_160, ti_243, ti_255, ti_399, ti_999, ti_1000, ti_1024, ti_99999, tm_1, tm_2, tm_3, tm_4, tm_5, tm_7, tm_11, tm_12, tm_13, tm_14, tm_100, if_pos, if_neg, if_true, if_false, bC_in, bI_s, bS_s, bX_s, bY_s, sO, tC]; omega), if_neg b3, if_pos (by simp (disch := omega) only [ltI, leI, eqI, tI, tI1, ti_0, ti_1, ti_2, ti_3, ti_4, ti_5, ti_6, ti_7, ti_8, ti_9, ti_10, ti_11, ti_12, ti_14, ti_18, ti_30, ti_39, ti_40, ti_41, ti_45, ti_50, ti_59, ti_97, ti_99, ti_100, ti_122, ti_160, ti_243, ti_255, ti_399, ti_999, ti_1000, ti_1024, ti_99999, tm_1, tm_2, tm_3, tm_4, tm_5, tm_7, tm_11, tm_12, tm_13, tm_14, tm_100, if_pos, if_neg, if_true, if_false, bC_in, bI_s, bS_s, bX_s, bY_s, sO, tC]; omega), if_pos (by simp (disch := omega) only [ltI, leI, eqI, tI, tI1, ti_0, ti_1, ti_2, ti_3, ti_4, ti_5, ti_6, ti_7, ti_8, ti_9, ti_10, ti_11, ti_12, ti_14, ti_18, ti_30, ti_39, ti_40, ti_41, ti_45, ti_50, ti_59, ti_97, ti_99, ti_100, ti_122, ti_160, ti_243, ti_255, ti_399, ti_999, ti_1000, ti_1024, ti_99999, tm_1, tm_2, tm_3, tm_4, tm_5, tm_7, tm_11, tm_12, tm_13, tm_14, tm_100, if_pos, if_neg, if_true, if_false, bC_in, bI_s, bS_s, bX_s, bY_s, sO, tC]; omega), bC_in ⟨hj, by decide⟩, tC (by omega), w1, bS_s]
    · rw [if_neg (by simp (disch := omega) only [ltI, leI, eqI, tI, tI1, ti_0, ti_1, ti_2, ti_3, ti_4, ti_5, ti_6, ti_7, ti_8, ti_9, ti_10, ti_11, ti_12, ti_14, ti_18, ti_30, ti_39, ti_40, ti_41, ti_45, ti_50, ti_59, ti_97, ti_99, ti_100, ti_122, ti_160, ti_243, ti_255, ti_399, ti_999, ti_1000, ti_1024, ti_99999, tm_1, tm_2, tm_3, tm_4, tm_5, tm_7, tm_11, tm_12, tm_13, tm_14, tm_100, if_pos, if_neg, if_true, if_false, bC_in, bI_s, bS_s, bX_s, bY_s, sO, tC]; omega), if_neg (by simp (disch := omega) only [ltI, leI, eqI, tI, tI1, ti_0, ti_1, ti_2, ti_3, ti_4, ti_5, ti_6, ti_7, ti_8, ti_9, ti_10, ti_11, ti_12, ti_14, ti_18, ti_30, ti_39, ti_40, ti_41, ti_45, ti_50, ti_59, ti_97, ti_99, ti_100, ti_122, ti_160, ti_243, ti_255, ti_399, ti_999, ti_1000, ti_1024, ti_99999, tm_1, tm_2, tm_3, tm_4, tm_5, tm_7, tm_11, tm_12, tm_13, tm_14, tm_100, if_pos, if_neg, if_true, if_false, bC_in, bI_s, bS_s, bX_s, bY_s, sO, tC]; omega), if_neg (by simp (disch := omega) only [ltI, leI, eqI, tI, tI1, ti_0, ti_1, ti_2, ti_3, ti_4, ti_5, ti_6, ti_7, ti_8, ti_9, ti_10, ti_11, ti_12, ti_14, ti_18, ti_30, ti_39, ti_40, ti_41, ti_45, ti_50, ti_59, ti_97, ti_99, ti_100, ti_122, ti_160, ti_243, ti_255, ti_399, ti_999, ti_1000, ti_1024, ti_99999, tm_1, tm_2, tm_3, tm_4, tm_5, tm_7, tm_11, tm_12, tm_13, tm_14, tm_100, if_pos, if_neg, if_true, if_false, bC_in, bI_s, bS_s, bX_s, bY_s, sO, tC]; omega), if_neg (by simp (disch := omega) only [ltI, leI, eqI, tI, tI1, ti_0, ti_1, ti_2, ti_3, ti_4, ti_5, ti_6, ti_7, ti_8, ti_9, ti_10, ti_11, ti_12, ti_14, ti_18, ti_30, ti_39, ti_40, ti_41, ti_45, ti_50, ti_59, ti_97, ti_99, ti_100, ti_122, ti_160, ti_243, ti_255, ti_399, ti_999, ti_1000, ti_1024, ti_99999, tm_1, tm_2, tm_3, tm_4, tm_5, tm_7, tm_11, tm_12, tm_13, tm_14, tm_100, if_pos, if_neg, if_true, if_false, bC_in, bI_s, bS_s, bX_s, bY_s, sO, tC]; omega), if_neg (by simp (disch := omega) only [ltI, leI, eqI, tI, tI1, ti_0, ti_1, ti_2, ti_3, ti_4, ti_5, ti_6, ti_7, ti_8, ti_9, ti_10, ti_11, ti_12, ti_14, ti_18, ti_30, ti_39, ti_40, ti_41, ti_45, ti_50, ti_59, ti_97, ti_99, ti_100, ti_122, ti_160, ti_243, ti_255, ti_399, ti_999, ti_1000, ti_1024, ti_99999, tm_1, tm_2, tm_3, tm_4, tm_5, tm_7, tm_11, tm_12, tm_13, tm_14, tm_100, if_pos, if_neg, if_true, if_false, bC_in, bI_s, bS_s, bX_s, bY_s, sO, tC]; omega), if_pos (by simp (disch := omega) only [ltI, leI, eqI, tI, tI1, ti_0, ti_1, ti_2, ti_3, ti_4, ti_5, ti_6, ti_7, ti_8, ti_9, ti_10, ti_11, ti_12, ti_14, ti_18, ti_30, ti_39, ti_40, ti_41, ti_45, ti_50, ti_59, ti_97, ti_99, ti_100, ti_122, ti_160, ti_243, ti_255, ti_399, ti_999, ti_1000, ti_1024, ti_99999, tm_1, tm_2, tm_3, tm_4, tm_5, tm_7, tm_11, tm_12, tm_13, tm_14, tm_100, if_pos, if_neg, if_true, if_false, bC_in, bI_s, bS_s, bX_s, bY_s, sO, tC]; omega), if_pos (by simp (disch := omega) only [ltI, leI, eqI, tI, tI1, ti_0, ti_1, ti_2, ti_3, ti_4, ti_5, ti_6, ti_7, ti_8, ti_9, ti_10, ti_11, ti_12, ti_14, ti_18, ti_30, ti_39, ti_40, ti_41, ti_45, ti_50, ti_59, ti_97, ti_99, ti_100, ti_122, ti_160, ti_243, ti_255, ti_399, ti_999, ti_1000, ti_1024, ti_99999, tm_1, tm_2, tm_3, tm_4, tm_5, tm_7, tm_11, tm_12, tm_13, tm_14, tm_100, if_pos, if_neg, if_true, if_false, bC_in, bI_s, bS_s, bX_s, bY_s, sO, tC]; omega), bC_in ⟨hj, by decide⟩, if_pos (by simp (disch := omega) only [ltI, leI, eqI, tI, tI1, ti_0, ti_1, ti_2, ti_3, ti_4, ti_5, ti_6, ti_7, ti_8, ti_9, ti_10, ti_11, ti_12, ti_14, ti_18, ti_30, ti_39, ti_40, ti_41, ti_45, ti_50, ti_59, ti_97, ti_99, ti_100, ti_122, ti_160, ti_243, ti_255, ti_399, ti_999, ti_1000, ti_1024, ti_99999, tm_1, tm_2, tm_3, tm_4, tm_5, tm_7, tm_11, tm_12, tm_13, tm_14, tm_100, if_pos, if_neg, if_true, if_false, bC_in, bI_s, bS_s, bX_s, bY_s, sO, tC]; omega)]
      exact x1
/-! copy -/
theorem r_copy1 {s i n0 : Nat} (hs : s < 4) (hi : i + n0 ≤ 40) (l3 l4 : Int32) (V1 : xM) (c1 : Value) (ex : xM → xM → Value → Option (Int32 × xS)) : ∀ k q n (A1 : xM), q + k = n0 → k < n → ∃ A2, fX9_copy__L103 (nI s) (nI i) l3 l4 (nI n0) ex n (nI q) A1 V1 c1 = ex A2 V1 c1 ∧ (∀ x, q ≤ x → x < n0 → A2 163 x = A1 162 (40 * s + i + x)) ∧ (∀ x, x < q → A2 163 x = A1 163 x) ∧ ∀ b, b ≠ 163 → A2 b = A1 b := by
  intro k
  induction k with
  | zero =>
    intro q n A1 hq hn
    obtain ⟨n, rfl⟩ : ∃ m, n = m + 1 := ⟨n - 1, by omega⟩
    refine ⟨A1, ?_, fun j h1 h2 => by omega, fun _ _ => rfl, fun _ _ => rfl⟩
    rw [fX9_copy__L103, if_pos (by simp (disch := omega) only [ltI, leI, eqI, tI, tI1, ti_0, ti_1, ti_2, ti_3, ti_4, ti_5, ti_6, ti_7, ti_8, ti_9, ti_10, ti_11, ti_12, ti_14, ti_18, ti_30, ti_39, ti_40, ti_41, ti_45, ti_50, ti_59, ti_97, ti_99, ti_100, ti_122, ti_160, ti_243, ti_255, ti_399, ti_999, ti_1000, ti_1024, ti_99999, tm_1, tm_2, tm_3, tm_4, tm_5, tm_7, tm_11, tm_12, tm_13, tm_14, tm_100, if_pos, if_neg, if_true, if_false, bC_in, bI_s, bS_s, bX_s, bY_s, sO, tC]; omega)]
  | succ k ih =>
    intro q n A1 hq hn
    obtain ⟨n, rfl⟩ : ∃ m, n = m + 1 := ⟨n - 1, by omega⟩
    have e40 : (40 : Int32) * nI s + nI i + nI q = nI (40 * s + i + q) := by rw [show (40 : Int32) = nI 40 from rfl, pk_mul, nI_add, nI_add]
    obtain ⟨A2, w1, w2, w3, w4⟩ := ih (q + 1) n (aw A1 163 (nI q) (A1 162 (40 * s + i + q))) (by omega) (by omega)
    refine ⟨A2, ?_, fun x h1 h2 => ?_, fun x h1 => ?_, fun b hb => (w4 b hb).trans (aw_n hb)⟩
    · rw [fX9_copy__L103, if_neg (by simp (disch := omega) only [ltI, leI, eqI, tI, tI1, ti_0, ti_1, ti_2, ti_3, ti_4, ti_5, ti_6, ti_7, ti_8, ti_9, ti_10, ti_11, ti_12, ti_14, ti_18, ti_30, ti_39, ti_40, ti_41, ti_45, ti_50, ti_59, ti_97, ti_99, ti_100, ti_122, ti_160, ti_243, ti_255, ti_399, ti_999, ti_1000, ti_1024, ti_99999, tm_1, tm_2, tm_3, tm_4, tm_5, tm_7, tm_11, tm_12, tm_13, tm_14, tm_100, if_pos, if_neg, if_true, if_false, bC_in, bI_s, bS_s, bX_s, bY_s, sO, tC]; omega), e40, bC_in ⟨by omega, by decide⟩, bC_in ⟨by omega, by decide⟩, tC (by omega), sO]
      exact w1
    · by_cases z : x = q
      · subst z
        rw [w3 _ (by omega), aw_s, tC (by omega), pk_us]
      · rw [w2 x (by omega) h2, aw_n (by decide)]
    · rw [w3 x (by omega), aw_s, tC (by omega), pk_un (by omega)]
theorem r_copy2 {o j n0 : Nat} (hs : o < 4) (hi : j + n0 ≤ 40) (V1 : xM) (c1 : Value) (ex : xM → xM → Value → Option (Int32 × xS)) : ∀ k q n (A1 : xM), q + k = n0 → k < n → ∃ A2, fX9_copy__L140 (nI o) (nI j) (nI n0) ex n (nI q) A1 V1 c1 = ex A2 V1 c1 ∧ (∀ x, q ≤ x → x < n0 → A2 162 (40 * o + j + x) = A1 163 x) ∧ (∀ y, ¬ (40 * o + j + q ≤ y ∧ y < 40 * o + j + n0) → A2 162 y = A1 162 y) ∧ ∀ b, b ≠ 162 → A2 b = A1 b := by
  intro k
  induction k with
  | zero =>
    intro q n A1 hq hn
    obtain ⟨n, rfl⟩ : ∃ m, n = m + 1 := ⟨n - 1, by omega⟩
    refine ⟨A1, ?_, fun j h1 h2 => by omega, fun _ _ => rfl, fun _ _ => rfl⟩
    rw [fX9_copy__L140, if_pos (by simp (disch := omega) only [ltI, leI, eqI, tI, tI1, ti_0, ti_1, ti_2, ti_3, ti_4, ti_5, ti_6, ti_7, ti_8, ti_9, ti_10, ti_11, ti_12, ti_14, ti_18, ti_30, ti_39, ti_40, ti_41, ti_45, ti_50, ti_59, ti_97, ti_99, ti_100, ti_122, ti_160, ti_243, ti_255, ti_399, ti_999, ti_1000, ti_1024, ti_99999, tm_1, tm_2, tm_3, tm_4, tm_5, tm_7, tm_11, tm_12, tm_13, tm_14, tm_100, if_pos, if_neg, if_true, if_false, bC_in, bI_s, bS_s, bX_s, bY_s, sO, tC]; omega)]
  | succ k ih =>
    intro q n A1 hq hn
    obtain ⟨n, rfl⟩ : ∃ m, n = m + 1 := ⟨n - 1, by omega⟩
    have e40 : (40 : Int32) * nI o + nI j + nI q = nI (40 * o + j + q) := by rw [show (40 : Int32) = nI 40 from rfl, pk_mul, nI_add, nI_add]
    obtain ⟨A2, w1, w2, w3, w4⟩ := ih (q + 1) n (aw A1 162 (nI (40 * o + j + q)) (A1 163 q)) (by omega) (by omega)
    refine ⟨A2, ?_, fun x h1 h2 => ?_, fun y h1 => ?_, fun b hb => (w4 b hb).trans (aw_n hb)⟩
    · rw [fX9_copy__L140, if_neg (by simp (disch := omega) only [ltI, leI, eqI, tI, tI1, ti_0, ti_1, ti_2, ti_3, ti_4, ti_5, ti_6, ti_7, ti_8, ti_9, ti_10, ti_11, ti_12, ti_14, ti_18, ti_30, ti_39, ti_40, ti_41, ti_45, ti_50, ti_59, ti_97, ti_99, ti_100, ti_122, ti_160, ti_243, ti_255, ti_399, ti_999, ti_1000, ti_1024, ti_99999, tm_1, tm_2, tm_3, tm_4, tm_5, tm_7, tm_11, tm_12, tm_13, tm_14, tm_100, if_pos, if_neg, if_true, if_false, bC_in, bI_s, bS_s, bX_s, bY_s, sO, tC]; omega), bC_in ⟨by omega, by decide⟩, e40, bC_in ⟨by omega, by decide⟩, tC (by omega), sO]
      exact w1
    · by_cases z : x = q
      · subst z
        rw [w3 _ (by omega), aw_s, tC (by omega), pk_us]
      · rw [w2 x (by omega) h2, aw_n (by decide)]
    · rw [w3 y (by omega), aw_s, tC (by omega), pk_un (by omega)]
theorem op_copy (hd : 70 ≤ d) (a b c e f : Int32) : iv_op (xk_ro LL xs) d 108 213 [.int a, .int b, .int c, .int e, .int f] := by
  refine op_mk (fc := fun tx A V cu => fX8_copy a b c e f A V cu) (fm := fun tx A V cu => fX9_copy_ a b c e f A V cu) (fun tx A V cu r A' V' c' q => sX8_copy (by omega) q) (fun tx A V cu r A' V' c' q => sX9_copy_ (by omega) q) ?_
  intro N B A V tx cu hv
  unfold fX8_copy fX9_copy_
  rcases ix3 a 4 (by omega) with h | h | ⟨s, hs, rfl⟩
  · exact ⟨-2, A, V, cu, by simp (disch := omega) only [ltI, leI, eqI, tI, tI1, ti_0, ti_1, ti_2, ti_3, ti_4, ti_5, ti_6, ti_7, ti_8, ti_9, ti_10, ti_11, ti_12, ti_14, ti_18, ti_30, ti_39, ti_40, ti_41, ti_45, ti_50, ti_59, ti_97, ti_99, ti_100, ti_122, ti_160, ti_243, ti_255, ti_399, ti_999, ti_1000, ti_1024, ti_99999, tm_1, tm_2, tm_3, tm_4, tm_5, tm_7, tm_11, tm_12, tm_13, tm_14, tm_100, if_pos, if_neg, if_true, if_false, bC_in, bI_s, bS_s, bX_s, bY_s, sO, tC], A, V, cu, by simp (disch := omega) only [ltI, leI, eqI, tI, tI1, ti_0, ti_1, ti_2, ti_3, ti_4, ti_5, ti_6, ti_7, ti_8, ti_9, ti_10, ti_11, ti_12, ti_14, ti_18, ti_30, ti_39, ti_40, ti_41, ti_45, ti_50, ti_59, ti_97, ti_99, ti_100, ti_122, ti_160, ti_243, ti_255, ti_399, ti_999, ti_1000, ti_1024, ti_99999, tm_1, tm_2, tm_3, tm_4, tm_5, tm_7, tm_11, tm_12, tm_13, tm_14, tm_100, if_pos, if_neg, if_true, if_false, bC_in, bI_s, bS_s, bX_s, bY_s, sO, tC], N, B, hv⟩
  · exact ⟨-2, A, V, cu, by simp (disch := omega) only [ltI, leI, eqI, tI, tI1, ti_0, ti_1, ti_2, ti_3, ti_4, ti_5, ti_6, ti_7, ti_8, ti_9, ti_10, ti_11, ti_12, ti_14, ti_18, ti_30, ti_39, ti_40, ti_41, ti_45, ti_50, ti_59, ti_97, ti_99, ti_100, ti_122, ti_160, ti_243, ti_255, ti_399, ti_999, ti_1000, ti_1024, ti_99999, tm_1, tm_2, tm_3, tm_4, tm_5, tm_7, tm_11, tm_12, tm_13, tm_14, tm_100, if_pos, if_neg, if_true, if_false, bC_in, bI_s, bS_s, bX_s, bY_s, sO, tC], A, V, cu, by simp (disch := omega) only [ltI, leI, eqI, tI, tI1, ti_0, ti_1, ti_2, ti_3, ti_4, ti_5, ti_6, ti_7, ti_8, ti_9, ti_10, ti_11, ti_12, ti_14, ti_18, ti_30, ti_39, ti_40, ti_41, ti_45, ti_50, ti_59, ti_97, ti_99, ti_100, ti_122, ti_160, ti_243, ti_255, ti_399, ti_999, ti_1000, ti_1024, ti_99999, tm_1, tm_2, tm_3, tm_4, tm_5, tm_7, tm_11, tm_12, tm_13, tm_14, tm_100, if_pos, if_neg, if_true, if_false, bC_in, bI_s, bS_s, bX_s, bY_s, sO, tC], N, B, hv⟩
  rcases ix3 c 4 (by omega) with h | h | ⟨o, ho, rfl⟩
  · exact ⟨-2, A, V, cu, by simp (disch := omega) only [ltI, leI, eqI, tI, tI1, ti_0, ti_1, ti_2, ti_3, ti_4, ti_5, ti_6, ti_7, ti_8, ti_9, ti_10, ti_11, ti_12, ti_14, ti_18, ti_30, ti_39, ti_40, ti_41, ti_45, ti_50, ti_59, ti_97, ti_99, ti_100, ti_122, ti_160, ti_243, ti_255, ti_399, ti_999, ti_1000, ti_1024, ti_99999, tm_1, tm_2, tm_3, tm_4, tm_5, tm_7, tm_11, tm_12, tm_13, tm_14, tm_100, if_pos, if_neg, if_true, if_false, bC_in, bI_s, bS_s, bX_s, bY_s, sO, tC], A, V, cu, by simp (disch := omega) only [ltI, leI, eqI, tI, tI1, ti_0, ti_1, ti_2, ti_3, ti_4, ti_5, ti_6, ti_7, ti_8, ti_9, ti_10, ti_11, ti_12, ti_14, ti_18, ti_30, ti_39, ti_40, ti_41, ti_45, ti_50, ti_59, ti_97, ti_99, ti_100, ti_122, ti_160, ti_243, ti_255, ti_399, ti_999, ti_1000, ti_1024, ti_99999, tm_1, tm_2, tm_3, tm_4, tm_5, tm_7, tm_11, tm_12, tm_13, tm_14, tm_100, if_pos, if_neg, if_true, if_false, bC_in, bI_s, bS_s, bX_s, bY_s, sO, tC], N, B, hv⟩
  · exact ⟨-2, A, V, cu, by simp (disch := omega) only [ltI, leI, eqI, tI, tI1, ti_0, ti_1, ti_2, ti_3, ti_4, ti_5, ti_6, ti_7, ti_8, ti_9, ti_10, ti_11, ti_12, ti_14, ti_18, ti_30, ti_39, ti_40, ti_41, ti_45, ti_50, ti_59, ti_97, ti_99, ti_100, ti_122, ti_160, ti_243, ti_255, ti_399, ti_999, ti_1000, ti_1024, ti_99999, tm_1, tm_2, tm_3, tm_4, tm_5, tm_7, tm_11, tm_12, tm_13, tm_14, tm_100, if_pos, if_neg, if_true, if_false, bC_in, bI_s, bS_s, bX_s, bY_s, sO, tC], A, V, cu, by simp (disch := omega) only [ltI, leI, eqI, tI, tI1, ti_0, ti_1, ti_2, ti_3, ti_4, ti_5, ti_6, ti_7, ti_8, ti_9, ti_10, ti_11, ti_12, ti_14, ti_18, ti_30, ti_39, ti_40, ti_41, ti_45, ti_50, ti_59, ti_97, ti_99, ti_100, ti_122, ti_160, ti_243, ti_255, ti_399, ti_999, ti_1000, ti_1024, ti_99999, tm_1, tm_2, tm_3, tm_4, tm_5, tm_7, tm_11, tm_12, tm_13, tm_14, tm_100, if_pos, if_neg, if_true, if_false, bC_in, bI_s, bS_s, bX_s, bY_s, sO, tC], N, B, hv⟩
  obtain ⟨n1, g1, g2, g3, g4, g5, g6⟩ := sheet_ok hv hs
  obtain ⟨n2, k1, k2, k3, k4, k5, k6⟩ := sheet_ok hv ho
  rw [tC (show s < 2 ^ 20 by omega), tC (show o < 2 ^ 20 by omega), g2, k2]
  unfold fX5_hasRange
  rw [g3, k3]
  rcases g6 with g6 | ⟨t1, ht1, g6⟩
  · rcases k6 with k6 | ⟨t2, ht2, k6⟩
    · exact ⟨-11, A, V, cu, by simp (disch := omega) only [ltI, leI, eqI, tI, tI1, ti_0, ti_1, ti_2, ti_3, ti_4, ti_5, ti_6, ti_7, ti_8, ti_9, ti_10, ti_11, ti_12, ti_14, ti_18, ti_30, ti_39, ti_40, ti_41, ti_45, ti_50, ti_59, ti_97, ti_99, ti_100, ti_122, ti_160, ti_243, ti_255, ti_399, ti_999, ti_1000, ti_1024, ti_99999, tm_1, tm_2, tm_3, tm_4, tm_5, tm_7, tm_11, tm_12, tm_13, tm_14, tm_100, if_pos, if_neg, if_true, if_false, bC_in, bI_s, bS_s, bX_s, bY_s, sO, tC, g6, k6, g4, k4], A, V, cu, by simp (disch := omega) only [ltI, leI, eqI, tI, tI1, ti_0, ti_1, ti_2, ti_3, ti_4, ti_5, ti_6, ti_7, ti_8, ti_9, ti_10, ti_11, ti_12, ti_14, ti_18, ti_30, ti_39, ti_40, ti_41, ti_45, ti_50, ti_59, ti_97, ti_99, ti_100, ti_122, ti_160, ti_243, ti_255, ti_399, ti_999, ti_1000, ti_1024, ti_99999, tm_1, tm_2, tm_3, tm_4, tm_5, tm_7, tm_11, tm_12, tm_13, tm_14, tm_100, if_pos, if_neg, if_true, if_false, bC_in, bI_s, bS_s, bX_s, bY_s, sO, tC, g6, k6, g4, k4], N, B, hv⟩
    · exact ⟨-11, A, V, cu, by simp (disch := omega) only [ltI, leI, eqI, tI, tI1, ti_0, ti_1, ti_2, ti_3, ti_4, ti_5, ti_6, ti_7, ti_8, ti_9, ti_10, ti_11, ti_12, ti_14, ti_18, ti_30, ti_39, ti_40, ti_41, ti_45, ti_50, ti_59, ti_97, ti_99, ti_100, ti_122, ti_160, ti_243, ti_255, ti_399, ti_999, ti_1000, ti_1024, ti_99999, tm_1, tm_2, tm_3, tm_4, tm_5, tm_7, tm_11, tm_12, tm_13, tm_14, tm_100, if_pos, if_neg, if_true, if_false, bC_in, bI_s, bS_s, bX_s, bY_s, sO, tC, g6, k6, g4, k4], A, V, cu, by simp (disch := omega) only [ltI, leI, eqI, tI, tI1, ti_0, ti_1, ti_2, ti_3, ti_4, ti_5, ti_6, ti_7, ti_8, ti_9, ti_10, ti_11, ti_12, ti_14, ti_18, ti_30, ti_39, ti_40, ti_41, ti_45, ti_50, ti_59, ti_97, ti_99, ti_100, ti_122, ti_160, ti_243, ti_255, ti_399, ti_999, ti_1000, ti_1024, ti_99999, tm_1, tm_2, tm_3, tm_4, tm_5, tm_7, tm_11, tm_12, tm_13, tm_14, tm_100, if_pos, if_neg, if_true, if_false, bC_in, bI_s, bS_s, bX_s, bY_s, sO, tC, g6, k6, g4, k4], N, B, hv⟩
  rcases k6 with k6 | ⟨t2, ht2, k6⟩
  · exact ⟨-11, A, V, cu, by simp (disch := omega) only [ltI, leI, eqI, tI, tI1, ti_0, ti_1, ti_2, ti_3, ti_4, ti_5, ti_6, ti_7, ti_8, ti_9, ti_10, ti_11, ti_12, ti_14, ti_18, ti_30, ti_39, ti_40, ti_41, ti_45, ti_50, ti_59, ti_97, ti_99, ti_100, ti_122, ti_160, ti_243, ti_255, ti_399, ti_999, ti_1000, ti_1024, ti_99999, tm_1, tm_2, tm_3, tm_4, tm_5, tm_7, tm_11, tm_12, tm_13, tm_14, tm_100, if_pos, if_neg, if_true, if_false, bC_in, bI_s, bS_s, bX_s, bY_s, sO, tC, g6, k6, g4, k4], A, V, cu, by simp (disch := omega) only [ltI, leI, eqI, tI, tI1, ti_0, ti_1, ti_2, ti_3, ti_4, ti_5, ti_6, ti_7, ti_8, ti_9, ti_10, ti_11, ti_12, ti_14, ti_18, ti_30, ti_39, ti_40, ti_41, ti_45, ti_50, ti_59, ti_97, ti_99, ti_100, ti_122, ti_160, ti_243, ti_255, ti_399, ti_999, ti_1000, ti_1024, ti_99999, tm_1, tm_2, tm_3, tm_4, tm_5, tm_7, tm_11, tm_12, tm_13, tm_14, tm_100, if_pos, if_neg, if_true, if_false, bC_in, bI_s, bS_s, bX_s, bY_s, sO, tC, g6, k6, g4, k4], N, B, hv⟩
  by_cases ht : t1 = t2
  rotate_left
  · exact ⟨-13, A, V, cu, by simp (disch := omega) only [ltI, leI, eqI, tI, tI1, ti_0, ti_1, ti_2, ti_3, ti_4, ti_5, ti_6, ti_7, ti_8, ti_9, ti_10, ti_11, ti_12, ti_14, ti_18, ti_30, ti_39, ti_40, ti_41, ti_45, ti_50, ti_59, ti_97, ti_99, ti_100, ti_122, ti_160, ti_243, ti_255, ti_399, ti_999, ti_1000, ti_1024, ti_99999, tm_1, tm_2, tm_3, tm_4, tm_5, tm_7, tm_11, tm_12, tm_13, tm_14, tm_100, if_pos, if_neg, if_true, if_false, bC_in, bI_s, bS_s, bX_s, bY_s, sO, tC, g6, k6, g4, k4], A, V, cu, by simp (disch := omega) only [ltI, leI, eqI, tI, tI1, ti_0, ti_1, ti_2, ti_3, ti_4, ti_5, ti_6, ti_7, ti_8, ti_9, ti_10, ti_11, ti_12, ti_14, ti_18, ti_30, ti_39, ti_40, ti_41, ti_45, ti_50, ti_59, ti_97, ti_99, ti_100, ti_122, ti_160, ti_243, ti_255, ti_399, ti_999, ti_1000, ti_1024, ti_99999, tm_1, tm_2, tm_3, tm_4, tm_5, tm_7, tm_11, tm_12, tm_13, tm_14, tm_100, if_pos, if_neg, if_true, if_false, bC_in, bI_s, bS_s, bX_s, bY_s, sO, tC, g6, k6, g4, k4], N, B, hv⟩
  by_cases f0 : f.toInt < 0
  · exact ⟨-12, A, V, cu, by simp (disch := omega) only [ltI, leI, eqI, tI, tI1, ti_0, ti_1, ti_2, ti_3, ti_4, ti_5, ti_6, ti_7, ti_8, ti_9, ti_10, ti_11, ti_12, ti_14, ti_18, ti_30, ti_39, ti_40, ti_41, ti_45, ti_50, ti_59, ti_97, ti_99, ti_100, ti_122, ti_160, ti_243, ti_255, ti_399, ti_999, ti_1000, ti_1024, ti_99999, tm_1, tm_2, tm_3, tm_4, tm_5, tm_7, tm_11, tm_12, tm_13, tm_14, tm_100, if_pos, if_neg, if_true, if_false, bC_in, bI_s, bS_s, bX_s, bY_s, sO, tC, g6, k6, g4, k4], A, V, cu, by simp (disch := omega) only [ltI, leI, eqI, tI, tI1, ti_0, ti_1, ti_2, ti_3, ti_4, ti_5, ti_6, ti_7, ti_8, ti_9, ti_10, ti_11, ti_12, ti_14, ti_18, ti_30, ti_39, ti_40, ti_41, ti_45, ti_50, ti_59, ti_97, ti_99, ti_100, ti_122, ti_160, ti_243, ti_255, ti_399, ti_999, ti_1000, ti_1024, ti_99999, tm_1, tm_2, tm_3, tm_4, tm_5, tm_7, tm_11, tm_12, tm_13, tm_14, tm_100, if_pos, if_neg, if_true, if_false, bC_in, bI_s, bS_s, bX_s, bY_s, sO, tC, g6, k6, g4, k4], N, B, hv⟩
  by_cases b0 : b.toInt < 0
  · exact ⟨-12, A, V, cu, by simp (disch := omega) only [ltI, leI, eqI, tI, tI1, ti_0, ti_1, ti_2, ti_3, ti_4, ti_5, ti_6, ti_7, ti_8, ti_9, ti_10, ti_11, ti_12, ti_14, ti_18, ti_30, ti_39, ti_40, ti_41, ti_45, ti_50, ti_59, ti_97, ti_99, ti_100, ti_122, ti_160, ti_243, ti_255, ti_399, ti_999, ti_1000, ti_1024, ti_99999, tm_1, tm_2, tm_3, tm_4, tm_5, tm_7, tm_11, tm_12, tm_13, tm_14, tm_100, if_pos, if_neg, if_true, if_false, bC_in, bI_s, bS_s, bX_s, bY_s, sO, tC, g6, k6, g4, k4], A, V, cu, by simp (disch := omega) only [ltI, leI, eqI, tI, tI1, ti_0, ti_1, ti_2, ti_3, ti_4, ti_5, ti_6, ti_7, ti_8, ti_9, ti_10, ti_11, ti_12, ti_14, ti_18, ti_30, ti_39, ti_40, ti_41, ti_45, ti_50, ti_59, ti_97, ti_99, ti_100, ti_122, ti_160, ti_243, ti_255, ti_399, ti_999, ti_1000, ti_1024, ti_99999, tm_1, tm_2, tm_3, tm_4, tm_5, tm_7, tm_11, tm_12, tm_13, tm_14, tm_100, if_pos, if_neg, if_true, if_false, bC_in, bI_s, bS_s, bX_s, bY_s, sO, tC, g6, k6, g4, k4], N, B, hv⟩
  obtain ⟨i, hi31, rfl⟩ := nI_of (x := b) (by rw [ltI, ti_0]; exact b0)
  obtain ⟨n0, hn31, rfl⟩ := nI_of (x := f) (by rw [ltI, ti_0]; exact f0)
  have ti : (nI i).toInt = (i : Int) := nI_toInt hi31
  have tn : (nI n0).toInt = (n0 : Int) := nI_toInt hn31
  have sub_t : ∀ x y : Nat, x ≤ 40 → y < 2 ^ 31 → (nI x - nI y).toInt = (x : Int) - y := by
    intro x y hx hy
    rw [Int32.toInt_sub, tI (by omega), nI_toInt hy]
    unfold Int.bmod
    dsimp only
    split <;> omega
  have s1 := sub_t n1 i g1 hi31
  have s2 := sub_t n1 n0 g1 hn31
  have s3 := sub_t n2 n0 k1 hn31
  by_cases e0 : e.toInt < 0
  · by_cases z1 : n0 ≤ n1 ∧ i ≤ n1 - n0
    · exact ⟨-12, A, V, cu, by simp (disch := omega) only [ltI, leI, eqI, tI, tI1, ti_0, ti_1, ti_2, ti_3, ti_4, ti_5, ti_6, ti_7, ti_8, ti_9, ti_10, ti_11, ti_12, ti_14, ti_18, ti_30, ti_39, ti_40, ti_41, ti_45, ti_50, ti_59, ti_97, ti_99, ti_100, ti_122, ti_160, ti_243, ti_255, ti_399, ti_999, ti_1000, ti_1024, ti_99999, tm_1, tm_2, tm_3, tm_4, tm_5, tm_7, tm_11, tm_12, tm_13, tm_14, tm_100, if_pos, if_neg, if_true, if_false, bC_in, bI_s, bS_s, bX_s, bY_s, sO, tC, g6, k6, g4, k4, ti, tn, s1, s2, s3], A, V, cu, by simp (disch := omega) only [ltI, leI, eqI, tI, tI1, ti_0, ti_1, ti_2, ti_3, ti_4, ti_5, ti_6, ti_7, ti_8, ti_9, ti_10, ti_11, ti_12, ti_14, ti_18, ti_30, ti_39, ti_40, ti_41, ti_45, ti_50, ti_59, ti_97, ti_99, ti_100, ti_122, ti_160, ti_243, ti_255, ti_399, ti_999, ti_1000, ti_1024, ti_99999, tm_1, tm_2, tm_3, tm_4, tm_5, tm_7, tm_11, tm_12, tm_13, tm_14, tm_100, if_pos, if_neg, if_true, if_false, bC_in, bI_s, bS_s, bX_s, bY_s, sO, tC, g6, k6, g4, k4, ti, tn, s1, s2, s3], N, B, hv⟩
    · by_cases z2 : n0 ≤ n1
      · exact ⟨-12, A, V, cu, by simp (disch := omega) only [ltI, leI, eqI, tI, tI1, ti_0, ti_1, ti_2, ti_3, ti_4, ti_5, ti_6, ti_7, ti_8, ti_9, ti_10, ti_11, ti_12, ti_14, ti_18, ti_30, ti_39, ti_40, ti_41, ti_45, ti_50, ti_59, ti_97, ti_99, ti_100, ti_122, ti_160, ti_243, ti_255, ti_399, ti_999, ti_1000, ti_1024, ti_99999, tm_1, tm_2, tm_3, tm_4, tm_5, tm_7, tm_11, tm_12, tm_13, tm_14, tm_100, if_pos, if_neg, if_true, if_false, bC_in, bI_s, bS_s, bX_s, bY_s, sO, tC, g6, k6, g4, k4, ti, tn, s1, s2, s3], A, V, cu, by simp (disch := omega) only [ltI, leI, eqI, tI, tI1, ti_0, ti_1, ti_2, ti_3, ti_4, ti_5, ti_6, ti_7, ti_8, ti_9, ti_10, ti_11, ti_12, ti_14, ti_18, ti_30, ti_39, ti_40, ti_41, ti_45, ti_50, ti_59, ti_97, ti_99, ti_100, ti_122, ti_160, ti_243, ti_255, ti_399, ti_999, ti_1000, ti_1024, ti_99999, tm_1, tm_2, tm_3, tm_4, tm_5, tm_7, tm_11, tm_12, tm_13, tm_14, tm_100, if_pos, if_neg, if_true, if_false, bC_in, bI_s, bS_s, bX_s, bY_s, sO, tC, g6, k6, g4, k4, ti, tn, s1, s2, s3], N, B, hv⟩
      · exact ⟨-12, A, V, cu, by simp (disch := omega) only [ltI, leI, eqI, tI, tI1, ti_0, ti_1, ti_2, ti_3, ti_4, ti_5, ti_6, ti_7, ti_8, ti_9, ti_10, ti_11, ti_12, ti_14, ti_18, ti_30, ti_39, ti_40, ti_41, ti_45, ti_50, ti_59, ti_97, ti_99, ti_100, ti_122, ti_160, ti_243, ti_255, ti_399, ti_999, ti_1000, ti_1024, ti_99999, tm_1, tm_2, tm_3, tm_4, tm_5, tm_7, tm_11, tm_12, tm_13, tm_14, tm_100, if_pos, if_neg, if_true, if_false, bC_in, bI_s, bS_s, bX_s, bY_s, sO, tC, g6, k6, g4, k4, ti, tn, s1, s2, s3], A, V, cu, by simp (disch := omega) only [ltI, leI, eqI, tI, tI1, ti_0, ti_1, ti_2, ti_3, ti_4, ti_5, ti_6, ti_7, ti_8, ti_9, ti_10, ti_11, ti_12, ti_14, ti_18, ti_30, ti_39, ti_40, ti_41, ti_45, ti_50, ti_59, ti_97, ti_99, ti_100, ti_122, ti_160, ti_243, ti_255, ti_399, ti_999, ti_1000, ti_1024, ti_99999, tm_1, tm_2, tm_3, tm_4, tm_5, tm_7, tm_11, tm_12, tm_13, tm_14, tm_100, if_pos, if_neg, if_true, if_false, bC_in, bI_s, bS_s, bX_s, bY_s, sO, tC, g6, k6, g4, k4, ti, tn, s1, s2, s3], N, B, hv⟩
  obtain ⟨j, hj31, rfl⟩ := nI_of (x := e) (by rw [ltI, ti_0]; exact e0)
  have tj : (nI j).toInt = (j : Int) := nI_toInt hj31
  have s4 := sub_t n2 j k1 hj31
  by_cases z0 : n0 ≤ n1
  rotate_left
  · exact ⟨-12, A, V, cu, by simp (disch := omega) only [ltI, leI, eqI, tI, tI1, ti_0, ti_1, ti_2, ti_3, ti_4, ti_5, ti_6, ti_7, ti_8, ti_9, ti_10, ti_11, ti_12, ti_14, ti_18, ti_30, ti_39, ti_40, ti_41, ti_45, ti_50, ti_59, ti_97, ti_99, ti_100, ti_122, ti_160, ti_243, ti_255, ti_399, ti_999, ti_1000, ti_1024, ti_99999, tm_1, tm_2, tm_3, tm_4, tm_5, tm_7, tm_11, tm_12, tm_13, tm_14, tm_100, if_pos, if_neg, if_true, if_false, bC_in, bI_s, bS_s, bX_s, bY_s, sO, tC, g6, k6, g4, k4, ti, tn, tj, s1, s2, s3, s4], A, V, cu, by simp (disch := omega) only [ltI, leI, eqI, tI, tI1, ti_0, ti_1, ti_2, ti_3, ti_4, ti_5, ti_6, ti_7, ti_8, ti_9, ti_10, ti_11, ti_12, ti_14, ti_18, ti_30, ti_39, ti_40, ti_41, ti_45, ti_50, ti_59, ti_97, ti_99, ti_100, ti_122, ti_160, ti_243, ti_255, ti_399, ti_999, ti_1000, ti_1024, ti_99999, tm_1, tm_2, tm_3, tm_4, tm_5, tm_7, tm_11, tm_12, tm_13, tm_14, tm_100, if_pos, if_neg, if_true, if_false, bC_in, bI_s, bS_s, bX_s, bY_s, sO, tC, g6, k6, g4, k4, ti, tn, tj, s1, s2, s3, s4], N, B, hv⟩
  by_cases z1 : i ≤ n1 - n0
  rotate_left
  · exact ⟨-12, A, V, cu, by simp (disch := omega) only [ltI, leI, eqI, tI, tI1, ti_0, ti_1, ti_2, ti_3, ti_4, ti_5, ti_6, ti_7, ti_8, ti_9, ti_10, ti_11, ti_12, ti_14, ti_18, ti_30, ti_39, ti_40, ti_41, ti_45, ti_50, ti_59, ti_97, ti_99, ti_100, ti_122, ti_160, ti_243, ti_255, ti_399, ti_999, ti_1000, ti_1024, ti_99999, tm_1, tm_2, tm_3, tm_4, tm_5, tm_7, tm_11, tm_12, tm_13, tm_14, tm_100, if_pos, if_neg, if_true, if_false, bC_in, bI_s, bS_s, bX_s, bY_s, sO, tC, g6, k6, g4, k4, ti, tn, tj, s1, s2, s3, s4], A, V, cu, by simp (disch := omega) only [ltI, leI, eqI, tI, tI1, ti_0, ti_1, ti_2, ti_3, ti_4, ti_5, ti_6, ti_7, ti_8, ti_9, ti_10, ti_11, ti_12, ti_14, ti_18, ti_30, ti_39, ti_40, ti_41, ti_45, ti_50, ti_59, ti_97, ti_99, ti_100, ti_122, ti_160, ti_243, ti_255, ti_399, ti_999, ti_1000, ti_1024, ti_99999, tm_1, tm_2, tm_3, tm_4, tm_5, tm_7, tm_11, tm_12, tm_13, tm_14, tm_100, if_pos, if_neg, if_true, if_false, bC_in, bI_s, bS_s, bX_s, bY_s, sO, tC, g6, k6, g4, k4, ti, tn, tj, s1, s2, s3, s4], N, B, hv⟩
  by_cases z2 : n0 ≤ n2
  rotate_left
  · exact ⟨-12, A, V, cu, by simp (disch := omega) only [ltI, leI, eqI, tI, tI1, ti_0, ti_1, ti_2, ti_3, ti_4, ti_5, ti_6, ti_7, ti_8, ti_9, ti_10, ti_11, ti_12, ti_14, ti_18, ti_30, ti_39, ti_40, ti_41, ti_45, ti_50, ti_59, ti_97, ti_99, ti_100, ti_122, ti_160, ti_243, ti_255, ti_399, ti_999, ti_1000, ti_1024, ti_99999, tm_1, tm_2, tm_3, tm_4, tm_5, tm_7, tm_11, tm_12, tm_13, tm_14, tm_100, if_pos, if_neg, if_true, if_false, bC_in, bI_s, bS_s, bX_s, bY_s, sO, tC, g6, k6, g4, k4, ti, tn, tj, s1, s2, s3, s4], A, V, cu, by simp (disch := omega) only [ltI, leI, eqI, tI, tI1, ti_0, ti_1, ti_2, ti_3, ti_4, ti_5, ti_6, ti_7, ti_8, ti_9, ti_10, ti_11, ti_12, ti_14, ti_18, ti_30, ti_39, ti_40, ti_41, ti_45, ti_50, ti_59, ti_97, ti_99, ti_100, ti_122, ti_160, ti_243, ti_255, ti_399, ti_999, ti_1000, ti_1024, ti_99999, tm_1, tm_2, tm_3, tm_4, tm_5, tm_7, tm_11, tm_12, tm_13, tm_14, tm_100, if_pos, if_neg, if_true, if_false, bC_in, bI_s, bS_s, bX_s, bY_s, sO, tC, g6, k6, g4, k4, ti, tn, tj, s1, s2, s3, s4], N, B, hv⟩
  by_cases z3 : j ≤ n2 - n0
  rotate_left
  · exact ⟨-12, A, V, cu, by simp (disch := omega) only [ltI, leI, eqI, tI, tI1, ti_0, ti_1, ti_2, ti_3, ti_4, ti_5, ti_6, ti_7, ti_8, ti_9, ti_10, ti_11, ti_12, ti_14, ti_18, ti_30, ti_39, ti_40, ti_41, ti_45, ti_50, ti_59, ti_97, ti_99, ti_100, ti_122, ti_160, ti_243, ti_255, ti_399, ti_999, ti_1000, ti_1024, ti_99999, tm_1, tm_2, tm_3, tm_4, tm_5, tm_7, tm_11, tm_12, tm_13, tm_14, tm_100, if_pos, if_neg, if_true, if_false, bC_in, bI_s, bS_s, bX_s, bY_s, sO, tC, g6, k6, g4, k4, ti, tn, tj, s1, s2, s3, s4], A, V, cu, by simp (disch := omega) only [ltI, leI, eqI, tI, tI1, ti_0, ti_1, ti_2, ti_3, ti_4, ti_5, ti_6, ti_7, ti_8, ti_9, ti_10, ti_11, ti_12, ti_14, ti_18, ti_30, ti_39, ti_40, ti_41, ti_45, ti_50, ti_59, ti_97, ti_99, ti_100, ti_122, ti_160, ti_243, ti_255, ti_399, ti_999, ti_1000, ti_1024, ti_99999, tm_1, tm_2, tm_3, tm_4, tm_5, tm_7, tm_11, tm_12, tm_13, tm_14, tm_100, if_pos, if_neg, if_true, if_false, bC_in, bI_s, bS_s, bX_s, bY_s, sO, tC, g6, k6, g4, k4, ti, tn, tj, s1, s2, s3, s4], N, B, hv⟩
  -- it is done
  obtain ⟨A2, w1, w2, w3, w4⟩ := r_copy1 hs (i := i) (n0 := n0) (by omega) (nI o) (nI j) V cu (fun (A24 V25 : xM) (c26 : Value) => fX9_copy__L140 (nI o) (nI j) (nI n0) (fun (A33 V34 : xM) (c35 : Value) => some (nI n0, A33, V34, c35)) FU (0 : Int32) A24 V25 c26) n0 0 FU (va_up A (122 + 2 * o + 1) (va_cpy (A (122 + 2 * s + 1)) (A (122 + 2 * o + 1)) i j n0)) (by omega) (fu_gt (by omega))
  obtain ⟨A3, x1, x2, x3, x4⟩ := r_copy2 ho (j := j) (n0 := n0) (by omega) V cu (fun (A33 V34 : xM) (c35 : Value) => some (nI n0, A33, V34, c35)) n0 0 FU A2 (by omega) (fu_gt (by omega))
  have m : ∀ b, b ≠ 162 → b ≠ 163 → b ≠ 122 + 2 * o + 1 → A3 b = A b := fun b b1 b2 b3 => by rw [x4 b b1, w4 b b2, va_up_ne _ _ b3]
  have m161 : ∀ y, ¬ (40 * o + j ≤ y ∧ y < 40 * o + j + n0) → A3 162 y = A 162 y := fun y h => by rw [x3 y (by omega), w4 162 (by decide), va_up_ne _ _ (by omega)]
  refine ⟨nI n0, va_up A (122 + 2 * o + 1) (va_cpy (A (122 + 2 * s + 1)) (A (122 + 2 * o + 1)) i j n0), V, cu, ?_, A3, V, cu, ?_, N, B, iv_but_shee (fun a q => ?_) (fun _ _ _ => rfl) hv (shee_of (fun x hx => ?_))⟩
  · have cc : (!decide (nI i < 0) && !decide (nI j < 0) && !decide (nI n0 < 0) && Nat.ble ((nI i).toNatClampNeg + (nI n0).toNatClampNeg) 40 && Nat.ble ((nI j).toNatClampNeg + (nI n0).toNatClampNeg) 40) = true := by
      rw [tC (by omega), tC (by omega), tC (by omega), decide_eq_false (nI_pos hi31), decide_eq_false (nI_pos hj31), decide_eq_false (nI_pos hn31), Nat.ble_eq.mpr (by omega), Nat.ble_eq.mpr (by omega)]
      rfl
    rw [bC_t cc]
    simp (disch := omega) only [ltI, leI, eqI, tI, tI1, ti_0, ti_1, ti_2, ti_3, ti_4, ti_5, ti_6, ti_7, ti_8, ti_9, ti_10, ti_11, ti_12, ti_14, ti_18, ti_30, ti_39, ti_40, ti_41, ti_45, ti_50, ti_59, ti_97, ti_99, ti_100, ti_122, ti_160, ti_243, ti_255, ti_399, ti_999, ti_1000, ti_1024, ti_99999, tm_1, tm_2, tm_3, tm_4, tm_5, tm_7, tm_11, tm_12, tm_13, tm_14, tm_100, if_pos, if_neg, if_true, if_false, bC_in, bI_s, bS_s, bX_s, bY_s, sO, tC, g6, k6, g4, k4, ti, tn, tj, s1, s2, s3, s4]
  · have e159 : ∀ x, (va_up A (122 + 2 * o + 1) (va_cpy (A (122 + 2 * s + 1)) (A (122 + 2 * o + 1)) i j n0)) 160 x = A 160 x := fun x => by rw [va_up_ne _ _ (by omega)]
    have e160 : ∀ x, (va_up A (122 + 2 * o + 1) (va_cpy (A (122 + 2 * s + 1)) (A (122 + 2 * o + 1)) i j n0)) 161 x = A 161 x := fun x => by rw [va_up_ne _ _ (by omega)]
    simp (disch := omega) only [ltI, leI, eqI, tI, tI1, ti_0, ti_1, ti_2, ti_3, ti_4, ti_5, ti_6, ti_7, ti_8, ti_9, ti_10, ti_11, ti_12, ti_14, ti_18, ti_30, ti_39, ti_40, ti_41, ti_45, ti_50, ti_59, ti_97, ti_99, ti_100, ti_122, ti_160, ti_243, ti_255, ti_399, ti_999, ti_1000, ti_1024, ti_99999, tm_1, tm_2, tm_3, tm_4, tm_5, tm_7, tm_11, tm_12, tm_13, tm_14, tm_100, if_pos, if_neg, if_true, if_false, bC_in, bI_s, bS_s, bX_s, bY_s, sO, tC, e159, e160, g6, k6, g4, k4, ti, tn, tj, s1, s2, s3, s4]
    exact Eq.trans w1 x1
  · obtain ⟨q1, q2, q3, q4, q5⟩ := kA_sh ho q
    exact m a q4 q5 q1
  · obtain ⟨h1, h2, h3, h4⟩ := shee_at hv.2.2.2.2.2.2.2.2.2.1 hx
    rw [m 160 (by decide) (by decide) (by omega), m 161 (by decide) (by decide) (by omega)]
    refine ⟨h1, h2, fun k hk => ?_, h4⟩
    show A3 (122 + 2 * x + 1) k = A3 162 (40 * x + k)
    have h3 : A (122 + 2 * x + 1) k = A 162 (40 * x + k) := h3 k hk
    by_cases q : x = o
    · subst q
      have e : A3 (122 + 2 * x + 1) = va_cpy (A (122 + 2 * s + 1)) (A (122 + 2 * x + 1)) i j n0 := by rw [x4 _ (by omega), w4 _ (by omega), va_up_self]
      rw [e]
      by_cases z : j ≤ k ∧ k < j + n0
      · rw [pk_cpy_in z.1 z.2, g5 _ (by omega), show 40 * x + k = 40 * x + j + (k - j) by omega, x2 (k - j) (Nat.zero_le _) (by omega), w2 (k - j) (Nat.zero_le _) (by omega), va_up_ne _ _ (by omega)]
        exact congrArg (A 162) (by omega)
      · rw [pk_cpy_out (by omega), m161 _ (by omega)]
        exact h3
    · rw [m _ (by omega) (by omega) (by omega), m161 _ (by omega)]
      exact h3
end SH
