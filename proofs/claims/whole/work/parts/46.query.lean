/-! QUERIES: what is scratch; a call out of the two functions. -/
def kA (a : Nat) : Bool := !(Nat.beq a 78 || Nat.beq a 79 || Nat.beq a 80 || Nat.beq a 82 || Nat.beq a 83 || Nat.beq a 86 || Nat.beq a 87 || Nat.beq a 88 || Nat.beq a 89 || Nat.beq a 90 || Nat.beq a 91 || Nat.beq a 92 || Nat.beq a 93 || Nat.beq a 94 || Nat.beq a 97 || Nat.beq a 148 || Nat.beq a 149 || Nat.beq a 150 || Nat.beq a 151 || Nat.beq a 152 || Nat.beq a 153 || Nat.beq a 154 || Nat.beq a 155 || Nat.beq a 156 || Nat.beq a 163)
def kV (a k : Nat) : Bool := !((Nat.beq a 81 || Nat.beq a 84) || (Nat.beq a 95 && Nat.ble 2 k) || (Nat.beq a 132 && (Nat.beq k 19 || Nat.beq k 20 || Nat.beq k 21 || Nat.beq k 22 || Nat.beq k 26 || Nat.beq k 27 || Nat.beq k 28 || Nat.beq k 30 || Nat.beq k 31 || Nat.beq k 35 || Nat.beq k 36 || Nat.beq k 41 || Nat.beq k 42)))
def agr (A V A' V' : xM) : Prop := (∀ a, kA a = true → A' a = A a) ∧ ∀ a k, kV a k = true → V' a k = V a k
theorem agr_r (A V : xM) : agr A V A V := ⟨fun _ _ => rfl, fun _ _ _ => rfl⟩
theorem agr_t {A V A1 V1 A2 V2 : xM} (h : agr A V A1 V1) (h2 : agr A1 V1 A2 V2) : agr A V A2 V2 := ⟨fun a q => (h2.1 a q).trans (h.1 a q), fun a k q => (h2.2 a k q).trans (h.2 a k q)⟩
theorem agr_a {A V A1 V1 : xM} {r : Nat} {f : Nat → Int32} (h : agr A V A1 V1) (hr : kA r = false) : agr A V (va_up A1 r f) V1 := by
  refine ⟨fun a q => ?_, h.2⟩
  have : a ≠ r := fun e => by subst e; rw [hr] at q; cases q
  rw [va_up_ne _ _ this]
  exact h.1 a q
theorem agr_w {A V A1 V1 : xM} {r : Nat} {i x : Int32} (h : agr A V A1 V1) (hr : kA r = false) : agr A V (aw A1 r i x) V1 := agr_a h hr
theorem up2_s (V : xM) (a k : Nat) (x : Int32) : up2 V a k x a k = x := by unfold up2; rw [va_up_self, va_up_self]
theorem up2_n {V : xM} {a k b j : Nat} {x : Int32} (h : ¬ (b = a ∧ j = k)) : up2 V a k x b j = V b j := by
  unfold up2
  by_cases q : b = a
  · subst q
    rw [va_up_self, va_up_ne]
    exact fun e => h ⟨rfl, e⟩
  · rw [va_up_ne _ _ q]
theorem agr_v {A V A1 V1 : xM} {a0 k0 : Nat} {x : Int32} (h : agr A V A1 V1) (hr : kV a0 k0 = false) : agr A V A1 (up2 V1 a0 k0 x) := by
  refine ⟨h.1, fun a k q => ?_⟩
  rw [up2_n]
  · exact h.2 a k q
  · rintro ⟨rfl, rfl⟩
    rw [hr] at q
    cases q
theorem aw_n {A : xM} {r b : Nat} {i x : Int32} (h : b ≠ r) : aw A r i x b = A b := va_up_ne _ _ h
theorem aw_s {A : xM} {r : Nat} {i x : Int32} : aw A r i x r = upd (A r) i.toNatClampNeg x := va_up_self _ _ _
theorem iv_agr {N : Nat → Nat} {B : Nat → Nat → Nat} {A V A' V' : xM} {tx : List xh_T} {cu cu' : Value} (h : agr A V A' V') (hv : iv N B A V tx cu) : iv N B A' V' tx cu' := by
  obtain ⟨hA, hV⟩ := h
  have a66 : A' 66 = A 66 := hA 66 rfl
  have a67 : A' 67 = A 67 := hA 67 rfl
  have a68 : A' 68 = A 68 := hA 68 rfl
  have a69 : A' 69 = A 69 := hA 69 rfl
  have a70 : A' 70 = A 70 := hA 70 rfl
  have a71 : A' 71 = A 71 := hA 71 rfl
  have a72 : A' 72 = A 72 := hA 72 rfl
  have a74 : A' 74 = A 74 := hA 74 rfl
  have a75 : A' 75 = A 75 := hA 75 rfl
  have a76 : A' 76 = A 76 := hA 76 rfl
  have a96 : A' 96 = A 96 := hA 96 rfl
  have a99 : A' 99 = A 99 := hA 99 rfl
  have a100 : A' 100 = A 100 := hA 100 rfl
  have a102 : A' 102 = A 102 := hA 102 rfl
  have a103 : A' 103 = A 103 := hA 103 rfl
  have a104 : A' 104 = A 104 := hA 104 rfl
  have a105 : A' 105 = A 105 := hA 105 rfl
  have a106 : A' 106 = A 106 := hA 106 rfl
  have a107 : A' 107 = A 107 := hA 107 rfl
  have a108 : A' 108 = A 108 := hA 108 rfl
  have a109 : A' 109 = A 109 := hA 109 rfl
  have a110 : A' 110 = A 110 := hA 110 rfl
  have a111 : A' 111 = A 111 := hA 111 rfl
  have a112 : A' 112 = A 112 := hA 112 rfl
  have a113 : A' 113 = A 113 := hA 113 rfl
  have a117 : A' 117 = A 117 := hA 117 rfl
  have a118 : A' 118 = A 118 := hA 118 rfl
  have a119 : A' 119 = A 119 := hA 119 rfl
  have a120 : A' 120 = A 120 := hA 120 rfl
  have a121 : A' 121 = A 121 := hA 121 rfl
  have a123 : A' 123 = A 123 := hA 123 rfl
  have a125 : A' 125 = A 125 := hA 125 rfl
  have a127 : A' 127 = A 127 := hA 127 rfl
  have a129 : A' 129 = A 129 := hA 129 rfl
  have a131 : A' 131 = A 131 := hA 131 rfl
  have a133 : A' 133 = A 133 := hA 133 rfl
  have a134 : A' 134 = A 134 := hA 134 rfl
  have a135 : A' 135 = A 135 := hA 135 rfl
  have a136 : A' 136 = A 136 := hA 136 rfl
  have a137 : A' 137 = A 137 := hA 137 rfl
  have a138 : A' 138 = A 138 := hA 138 rfl
  have a139 : A' 139 = A 139 := hA 139 rfl
  have a140 : A' 140 = A 140 := hA 140 rfl
  have a141 : A' 141 = A 141 := hA 141 rfl
  have a142 : A' 142 = A 142 := hA 142 rfl
  have a143 : A' 143 = A 143 := hA 143 rfl
  have a144 : A' 144 = A 144 := hA 144 rfl
  have a145 : A' 145 = A 145 := hA 145 rfl
  have a146 : A' 146 = A 146 := hA 146 rfl
  have a147 : A' 147 = A 147 := hA 147 rfl
  have a157 : A' 157 = A 157 := hA 157 rfl
  have a158 : A' 158 = A 158 := hA 158 rfl
  have a159 : A' 159 = A 159 := hA 159 rfl
  have a160 : A' 160 = A 160 := hA 160 rfl
  have a161 : A' 161 = A 161 := hA 161 rfl
  have a162 : A' 162 = A 162 := hA 162 rfl
  have v64_13 : V' 64 13 = V 64 13 := hV 64 13 rfl
  have v64_14 : V' 64 14 = V 64 14 := hV 64 14 rfl
  have v64_15 : V' 64 15 = V 64 15 := hV 64 15 rfl
  have v64_16 : V' 64 16 = V 64 16 := hV 64 16 rfl
  have v65_3 : V' 65 3 = V 65 3 := hV 65 3 rfl
  have v65_7 : V' 65 7 = V 65 7 := hV 65 7 rfl
  have v95_1 : V' 95 1 = V 95 1 := hV 95 1 rfl
  have v115_3 : V' 115 3 = V 115 3 := hV 115 3 rfl
  have v115_4 : V' 115 4 = V 115 4 := hV 115 4 rfl
  have v115_5 : V' 115 5 = V 115 5 := hV 115 5 rfl
  have v115_6 : V' 115 6 = V 115 6 := hV 115 6 rfl
  have v132_2 : V' 132 2 = V 132 2 := hV 132 2 rfl
  have v132_4 : V' 132 4 = V 132 4 := hV 132 4 rfl
  have v132_9 : V' 132 9 = V 132 9 := hV 132 9 rfl
  have v132_14 : V' 132 14 = V 132 14 := hV 132 14 rfl
  have v132_15 : V' 132 15 = V 132 15 := hV 132 15 rfl
  have v132_16 : V' 132 16 = V 132 16 := hV 132 16 rfl
  have v132_43 : V' 132 43 = V 132 43 := hV 132 43 rfl
  have v132_47 : V' 132 47 = V 132 47 := hV 132 47 rfl
  have v132_48 : V' 132 48 = V 132 48 := hV 132 48 rfl
  have v132_49 : V' 132 49 = V 132 49 := hV 132 49 rfl
  have v132_50 : V' 132 50 = V 132 50 := hV 132 50 rfl
  have v122 : V' 122 = V 122 := funext (fun k => hV 122 k rfl)
  have v124 : V' 124 = V 124 := funext (fun k => hV 124 k rfl)
  have v126 : V' 126 = V 126 := funext (fun k => hV 126 k rfl)
  have v128 : V' 128 = V 128 := funext (fun k => hV 128 k rfl)
  obtain ⟨v1, v2, v3, v4, v5, v6, v7, v8, v9, v10, v11, v12, v13⟩ := hv
  refine ⟨?_, ?_, ?_, ?_, ?_, ?_, ?_, ?_, ?_, ?_, ?_, ?_, ?_⟩
  · unfold iv_num at v1 ⊢
    simp only [a66, a67, a68, a69, a70, a71, a72, a74, a75, a76, a96, a99, a100, a102, a103, a104, a105, a106, a107, a108, a109, a110, a111, a112, a113, a117, a118, a119, a120, a121, a123, a125, a127, a129, a131, a133, a134, a135, a136, a137, a138, a139, a140, a141, a142, a143, a144, a145, a146, a147, a157, a158, a159, a160, a161, a162, v64_13, v64_14, v64_15, v64_16, v65_3, v65_7, v95_1, v115_3, v115_4, v115_5, v115_6, v132_2, v132_4, v132_9, v132_14, v132_15, v132_16, v132_43, v132_47, v132_48, v132_49, v132_50, v122, v124, v126, v128]
    exact v1
  · unfold iv_thin at v2 ⊢
    simp only [a66, a67, a68, a69, a70, a71, a72, a74, a75, a76, a96, a99, a100, a102, a103, a104, a105, a106, a107, a108, a109, a110, a111, a112, a113, a117, a118, a119, a120, a121, a123, a125, a127, a129, a131, a133, a134, a135, a136, a137, a138, a139, a140, a141, a142, a143, a144, a145, a146, a147, a157, a158, a159, a160, a161, a162, v64_13, v64_14, v64_15, v64_16, v65_3, v65_7, v95_1, v115_3, v115_4, v115_5, v115_6, v132_2, v132_4, v132_9, v132_14, v132_15, v132_16, v132_43, v132_47, v132_48, v132_49, v132_50, v122, v124, v126, v128]
    exact v2
  · unfold iv_seat at v3 ⊢
    simp only [a66, a67, a68, a69, a70, a71, a72, a74, a75, a76, a96, a99, a100, a102, a103, a104, a105, a106, a107, a108, a109, a110, a111, a112, a113, a117, a118, a119, a120, a121, a123, a125, a127, a129, a131, a133, a134, a135, a136, a137, a138, a139, a140, a141, a142, a143, a144, a145, a146, a147, a157, a158, a159, a160, a161, a162, v64_13, v64_14, v64_15, v64_16, v65_3, v65_7, v95_1, v115_3, v115_4, v115_5, v115_6, v132_2, v132_4, v132_9, v132_14, v132_15, v132_16, v132_43, v132_47, v132_48, v132_49, v132_50, v122, v124, v126, v128]
    exact v3
  · unfold iv_need at v4 ⊢
    simp only [a66, a67, a68, a69, a70, a71, a72, a74, a75, a76, a96, a99, a100, a102, a103, a104, a105, a106, a107, a108, a109, a110, a111, a112, a113, a117, a118, a119, a120, a121, a123, a125, a127, a129, a131, a133, a134, a135, a136, a137, a138, a139, a140, a141, a142, a143, a144, a145, a146, a147, a157, a158, a159, a160, a161, a162, v64_13, v64_14, v64_15, v64_16, v65_3, v65_7, v95_1, v115_3, v115_4, v115_5, v115_6, v132_2, v132_4, v132_9, v132_14, v132_15, v132_16, v132_43, v132_47, v132_48, v132_49, v132_50, v122, v124, v126, v128]
    exact v4
  · unfold iv_peop at v5 ⊢
    simp only [a66, a67, a68, a69, a70, a71, a72, a74, a75, a76, a96, a99, a100, a102, a103, a104, a105, a106, a107, a108, a109, a110, a111, a112, a113, a117, a118, a119, a120, a121, a123, a125, a127, a129, a131, a133, a134, a135, a136, a137, a138, a139, a140, a141, a142, a143, a144, a145, a146, a147, a157, a158, a159, a160, a161, a162, v64_13, v64_14, v64_15, v64_16, v65_3, v65_7, v95_1, v115_3, v115_4, v115_5, v115_6, v132_2, v132_4, v132_9, v132_14, v132_15, v132_16, v132_43, v132_47, v132_48, v132_49, v132_50, v122, v124, v126, v128]
    exact v5
  · unfold iv_cach at v6 ⊢
    simp only [a66, a67, a68, a69, a70, a71, a72, a74, a75, a76, a96, a99, a100, a102, a103, a104, a105, a106, a107, a108, a109, a110, a111, a112, a113, a117, a118, a119, a120, a121, a123, a125, a127, a129, a131, a133, a134, a135, a136, a137, a138, a139, a140, a141, a142, a143, a144, a145, a146, a147, a157, a158, a159, a160, a161, a162, v64_13, v64_14, v64_15, v64_16, v65_3, v65_7, v95_1, v115_3, v115_4, v115_5, v115_6, v132_2, v132_4, v132_9, v132_14, v132_15, v132_16, v132_43, v132_47, v132_48, v132_49, v132_50, v122, v124, v126, v128]
    exact v6
  · unfold iv_firs at v7 ⊢
    simp only [a66, a67, a68, a69, a70, a71, a72, a74, a75, a76, a96, a99, a100, a102, a103, a104, a105, a106, a107, a108, a109, a110, a111, a112, a113, a117, a118, a119, a120, a121, a123, a125, a127, a129, a131, a133, a134, a135, a136, a137, a138, a139, a140, a141, a142, a143, a144, a145, a146, a147, a157, a158, a159, a160, a161, a162, v64_13, v64_14, v64_15, v64_16, v65_3, v65_7, v95_1, v115_3, v115_4, v115_5, v115_6, v132_2, v132_4, v132_9, v132_14, v132_15, v132_16, v132_43, v132_47, v132_48, v132_49, v132_50, v122, v124, v126, v128]
    exact v7
  · unfold iv_even at v8 ⊢
    simp only [a66, a67, a68, a69, a70, a71, a72, a74, a75, a76, a96, a99, a100, a102, a103, a104, a105, a106, a107, a108, a109, a110, a111, a112, a113, a117, a118, a119, a120, a121, a123, a125, a127, a129, a131, a133, a134, a135, a136, a137, a138, a139, a140, a141, a142, a143, a144, a145, a146, a147, a157, a158, a159, a160, a161, a162, v64_13, v64_14, v64_15, v64_16, v65_3, v65_7, v95_1, v115_3, v115_4, v115_5, v115_6, v132_2, v132_4, v132_9, v132_14, v132_15, v132_16, v132_43, v132_47, v132_48, v132_49, v132_50, v122, v124, v126, v128]
    exact v8
  · unfold iv_tape at v9 ⊢
    simp only [a66, a67, a68, a69, a70, a71, a72, a74, a75, a76, a96, a99, a100, a102, a103, a104, a105, a106, a107, a108, a109, a110, a111, a112, a113, a117, a118, a119, a120, a121, a123, a125, a127, a129, a131, a133, a134, a135, a136, a137, a138, a139, a140, a141, a142, a143, a144, a145, a146, a147, a157, a158, a159, a160, a161, a162, v64_13, v64_14, v64_15, v64_16, v65_3, v65_7, v95_1, v115_3, v115_4, v115_5, v115_6, v132_2, v132_4, v132_9, v132_14, v132_15, v132_16, v132_43, v132_47, v132_48, v132_49, v132_50, v122, v124, v126, v128]
    exact v9
  · unfold iv_shee at v10 ⊢
    simp only [a66, a67, a68, a69, a70, a71, a72, a74, a75, a76, a96, a99, a100, a102, a103, a104, a105, a106, a107, a108, a109, a110, a111, a112, a113, a117, a118, a119, a120, a121, a123, a125, a127, a129, a131, a133, a134, a135, a136, a137, a138, a139, a140, a141, a142, a143, a144, a145, a146, a147, a157, a158, a159, a160, a161, a162, v64_13, v64_14, v64_15, v64_16, v65_3, v65_7, v95_1, v115_3, v115_4, v115_5, v115_6, v132_2, v132_4, v132_9, v132_14, v132_15, v132_16, v132_43, v132_47, v132_48, v132_49, v132_50, v122, v124, v126, v128]
    exact v10
  · unfold iv_imag at v11 ⊢
    simp only [a66, a67, a68, a69, a70, a71, a72, a74, a75, a76, a96, a99, a100, a102, a103, a104, a105, a106, a107, a108, a109, a110, a111, a112, a113, a117, a118, a119, a120, a121, a123, a125, a127, a129, a131, a133, a134, a135, a136, a137, a138, a139, a140, a141, a142, a143, a144, a145, a146, a147, a157, a158, a159, a160, a161, a162, v64_13, v64_14, v64_15, v64_16, v65_3, v65_7, v95_1, v115_3, v115_4, v115_5, v115_6, v132_2, v132_4, v132_9, v132_14, v132_15, v132_16, v132_43, v132_47, v132_48, v132_49, v132_50, v122, v124, v126, v128]
    exact v11
  · unfold iv_text at v12 ⊢
    simp only [a66, a67, a68, a69, a70, a71, a72, a74, a75, a76, a96, a99, a100, a102, a103, a104, a105, a106, a107, a108, a109, a110, a111, a112, a113, a117, a118, a119, a120, a121, a123, a125, a127, a129, a131, a133, a134, a135, a136, a137, a138, a139, a140, a141, a142, a143, a144, a145, a146, a147, a157, a158, a159, a160, a161, a162, v64_13, v64_14, v64_15, v64_16, v65_3, v65_7, v95_1, v115_3, v115_4, v115_5, v115_6, v132_2, v132_4, v132_9, v132_14, v132_15, v132_16, v132_43, v132_47, v132_48, v132_49, v132_50, v122, v124, v126, v128]
    exact v12
  · unfold iv_lets at v13 ⊢
    simp only [a66, a67, a68, a69, a70, a71, a72, a74, a75, a76, a96, a99, a100, a102, a103, a104, a105, a106, a107, a108, a109, a110, a111, a112, a113, a117, a118, a119, a120, a121, a123, a125, a127, a129, a131, a133, a134, a135, a136, a137, a138, a139, a140, a141, a142, a143, a144, a145, a146, a147, a157, a158, a159, a160, a161, a162, v64_13, v64_14, v64_15, v64_16, v65_3, v65_7, v95_1, v115_3, v115_4, v115_5, v115_6, v132_2, v132_4, v132_9, v132_14, v132_15, v132_16, v132_43, v132_47, v132_48, v132_49, v132_50, v122, v124, v126, v128]
    exact v13
section MK
variable {LL : Nat} {xs : Nat → Int32} {d kc km : Nat} {as : List Value}
theorem op_mk {fc fm : List xh_T → xM → xM → Value → Option (Int32 × xS)}
    (sc : ∀ (tx : List xh_T) (A V : xM) (cu : Value) (r : Int32) (A' V' : xM) (c' : Value), fc tx A V cu = some (r, A', V', c') → xe (xk_ro LL xs) d kc (.ref 64 :: as) (xh A V tx cu) (qI r (xh A' V' tx c')))
    (sm : ∀ (tx : List xh_T) (A V : xM) (cu : Value) (r : Int32) (A' V' : xM) (c' : Value), fm tx A V cu = some (r, A', V', c') → xe (xk_ro LL xs) d km (.ref 132 :: as) (xh A V tx cu) (qI r (xh A' V' tx c')))
    (H : ∀ (N : Nat → Nat) (B : Nat → Nat → Nat) (A V : xM) (tx : List xh_T) (cu : Value), iv N B A V tx cu → ∃ (x : Int32) (A1 V1 : xM) (c1 : Value), fc tx A V cu = some (x, A1, V1, c1) ∧ ∃ (A2 V2 : xM) (c2 : Value), fm tx A1 V1 c1 = some (x, A2, V2, c2) ∧ ∃ (N' : Nat → Nat) (B' : Nat → Nat → Nat), iv N' B' A2 V2 tx c2) : iv_op (xk_ro LL xs) d kc km as := by
  intro N B A V tx cu hv
  obtain ⟨x, A1, V1, c1, h1, A2, V2, c2, h2, N', B', hv'⟩ := H N B A V tx cu hv
  refine xe_mono ?_ (sc tx A V cu x A1 V1 c1 h1)
  rintro r h ⟨rfl, rfl⟩
  refine ⟨x, A1, V1, tx, c1, rfl, rfl, xe_mono ?_ (sm tx A1 V1 c1 x A2 V2 c2 h2)⟩
  rintro r h ⟨rfl, rfl⟩
  exact ⟨rfl, N', B', A2, V2, tx, c2, rfl, hv'⟩
theorem opl_mk {fc fm : List xh_T → xM → xM → Value → Option (Int64 × xS)}
    (sc : ∀ (tx : List xh_T) (A V : xM) (cu : Value) (r : Int64) (A' V' : xM) (c' : Value), fc tx A V cu = some (r, A', V', c') → xe (xk_ro LL xs) d kc (.ref 64 :: as) (xh A V tx cu) (qL r (xh A' V' tx c')))
    (sm : ∀ (tx : List xh_T) (A V : xM) (cu : Value) (r : Int64) (A' V' : xM) (c' : Value), fm tx A V cu = some (r, A', V', c') → xe (xk_ro LL xs) d km (.ref 132 :: as) (xh A V tx cu) (qL r (xh A' V' tx c')))
    (H : ∀ (N : Nat → Nat) (B : Nat → Nat → Nat) (A V : xM) (tx : List xh_T) (cu : Value), iv N B A V tx cu → ∃ (x : Int64) (A1 V1 : xM) (c1 : Value), fc tx A V cu = some (x, A1, V1, c1) ∧ ∃ (A2 V2 : xM) (c2 : Value), fm tx A1 V1 c1 = some (x, A2, V2, c2) ∧ ∃ (N' : Nat → Nat) (B' : Nat → Nat → Nat), iv N' B' A2 V2 tx c2) : iv_opl (xk_ro LL xs) d kc km as := by
  intro N B A V tx cu hv
  obtain ⟨x, A1, V1, c1, h1, A2, V2, c2, h2, N', B', hv'⟩ := H N B A V tx cu hv
  refine xe_mono ?_ (sc tx A V cu x A1 V1 c1 h1)
  rintro r h ⟨rfl, rfl⟩
  refine ⟨x, A1, V1, tx, c1, rfl, rfl, xe_mono ?_ (sm tx A1 V1 c1 x A2 V2 c2 h2)⟩
  rintro r h ⟨rfl, rfl⟩
  exact ⟨rfl, N', B', A2, V2, tx, c2, rfl, hv'⟩
/-- of two functions that change nothing -/
theorem op_mk0 {fc fm : xM → xM → Option Int32}
    (sc : ∀ (tx : List xh_T) (A V : xM) (cu : Value) (r : Int32), fc A V = some r → xe (xk_ro LL xs) d kc (.ref 64 :: as) (xh A V tx cu) (qI r (xh A V tx cu)))
    (sm : ∀ (tx : List xh_T) (A V : xM) (cu : Value) (r : Int32), fm A V = some r → xe (xk_ro LL xs) d km (.ref 132 :: as) (xh A V tx cu) (qI r (xh A V tx cu)))
    (H : ∀ (N : Nat → Nat) (B : Nat → Nat → Nat) (A V : xM) (tx : List xh_T) (cu : Value), iv N B A V tx cu → ∃ x : Int32, fc A V = some x ∧ fm A V = some x) : iv_op (xk_ro LL xs) d kc km as := by
  intro N B A V tx cu hv
  obtain ⟨x, h1, h2⟩ := H N B A V tx cu hv
  refine xe_mono ?_ (sc tx A V cu x h1)
  rintro r h ⟨rfl, rfl⟩
  refine ⟨x, A, V, tx, cu, rfl, rfl, xe_mono ?_ (sm tx A V cu x h2)⟩
  rintro r h ⟨rfl, rfl⟩
  exact ⟨rfl, N, B, A, V, tx, cu, rfl, hv⟩
theorem opl_mk0 {fc fm : xM → xM → Option Int64}
    (sc : ∀ (tx : List xh_T) (A V : xM) (cu : Value) (r : Int64), fc A V = some r → xe (xk_ro LL xs) d kc (.ref 64 :: as) (xh A V tx cu) (qL r (xh A V tx cu)))
    (sm : ∀ (tx : List xh_T) (A V : xM) (cu : Value) (r : Int64), fm A V = some r → xe (xk_ro LL xs) d km (.ref 132 :: as) (xh A V tx cu) (qL r (xh A V tx cu)))
    (H : ∀ (N : Nat → Nat) (B : Nat → Nat → Nat) (A V : xM) (tx : List xh_T) (cu : Value), iv N B A V tx cu → ∃ x : Int64, fc A V = some x ∧ fm A V = some x) : iv_opl (xk_ro LL xs) d kc km as := by
  intro N B A V tx cu hv
  obtain ⟨x, h1, h2⟩ := H N B A V tx cu hv
  refine xe_mono ?_ (sc tx A V cu x h1)
  rintro r h ⟨rfl, rfl⟩
  refine ⟨x, A, V, tx, cu, rfl, rfl, xe_mono ?_ (sm tx A V cu x h2)⟩
  rintro r h ⟨rfl, rfl⟩
  exact ⟨rfl, N, B, A, V, tx, cu, rfl, hv⟩
end MK
/-! numbers -/
theorem ti_0 : (0 : Int32).toInt = 0 := by decide
theorem ti_1 : (1 : Int32).toInt = 1 := by decide
theorem ti_2 : (2 : Int32).toInt = 2 := by decide
theorem ti_3 : (3 : Int32).toInt = 3 := by decide
theorem ti_4 : (4 : Int32).toInt = 4 := by decide
theorem ti_5 : (5 : Int32).toInt = 5 := by decide
theorem ti_6 : (6 : Int32).toInt = 6 := by decide
theorem ti_7 : (7 : Int32).toInt = 7 := by decide
theorem ti_8 : (8 : Int32).toInt = 8 := by decide
theorem ti_9 : (9 : Int32).toInt = 9 := by decide
theorem ti_10 : (10 : Int32).toInt = 10 := by decide
theorem ti_11 : (11 : Int32).toInt = 11 := by decide
theorem ti_12 : (12 : Int32).toInt = 12 := by decide
theorem ti_14 : (14 : Int32).toInt = 14 := by decide
theorem ti_18 : (18 : Int32).toInt = 18 := by decide
theorem ti_30 : (30 : Int32).toInt = 30 := by decide
theorem ti_39 : (39 : Int32).toInt = 39 := by decide
theorem ti_40 : (40 : Int32).toInt = 40 := by decide
theorem ti_41 : (41 : Int32).toInt = 41 := by decide
theorem ti_45 : (45 : Int32).toInt = 45 := by decide
theorem ti_50 : (50 : Int32).toInt = 50 := by decide
theorem ti_59 : (59 : Int32).toInt = 59 := by decide
theorem ti_97 : (97 : Int32).toInt = 97 := by decide
theorem ti_99 : (99 : Int32).toInt = 99 := by decide
theorem ti_100 : (100 : Int32).toInt = 100 := by decide
theorem ti_122 : (122 : Int32).toInt = 122 := by decide
theorem ti_160 : (160 : Int32).toInt = 160 := by decide
theorem ti_243 : (243 : Int32).toInt = 243 := by decide
theorem ti_255 : (255 : Int32).toInt = 255 := by decide
theorem ti_399 : (399 : Int32).toInt = 399 := by decide
theorem ti_999 : (999 : Int32).toInt = 999 := by decide
theorem ti_1000 : (1000 : Int32).toInt = 1000 := by decide
theorem ti_1024 : (1024 : Int32).toInt = 1024 := by decide
theorem ti_99999 : (99999 : Int32).toInt = 99999 := by decide
theorem tm_1 : (-1 : Int32).toInt = -1 := by decide
theorem tm_2 : (-2 : Int32).toInt = -2 := by decide
theorem tm_3 : (-3 : Int32).toInt = -3 := by decide
theorem tm_4 : (-4 : Int32).toInt = -4 := by decide
theorem tm_5 : (-5 : Int32).toInt = -5 := by decide
theorem tm_7 : (-7 : Int32).toInt = -7 := by decide
theorem tm_11 : (-11 : Int32).toInt = -11 := by decide
theorem tm_12 : (-12 : Int32).toInt = -12 := by decide
theorem tm_13 : (-13 : Int32).toInt = -13 := by decide
theorem tm_14 : (-14 : Int32).toInt = -14 := by decide
theorem tm_100 : (-100 : Int32).toInt = -100 := by decide
theorem sO (i : Nat) : nI i + Int32.ofInt 1 = nI (i + 1) := sI i
theorem bC_in {α : Type} {j n : Nat} {k : Option α} (h : j < n ∧ n < 2 ^ 20) : bC (xq_in (nI j) n) k = k := by rw [xin h.1 h.2]; rfl
theorem bC_t {α : Type} {c : Bool} {k : Option α} (h : c = true) : bC c k = k := by rw [h]; rfl
theorem bI_s {α β : Type} (v : β) (k : β → Option α) : bI (some v) k = k v := by simp only [bI]
theorem bS_s {α : Type} (A V : xM) (c : Value) (k : xM → xM → Value → Option α) : bS (some (A, V, c)) k = k A V c := by simp only [bS]
theorem bX_s {α : Type} (r : Int32) (A V : xM) (c : Value) (k : Int32 → xM → xM → Value → Option α) : bX (some (r, A, V, c)) k = k r A V c := by simp only [bX]
theorem bY_s {α : Type} (r : Int64) (A V : xM) (c : Value) (k : Int64 → xM → xM → Value → Option α) : bY (some (r, A, V, c)) k = k r A V c := by simp only [bY]
theorem eqI (x y : Int32) : (x = y) = (x.toInt = y.toInt) := propext Int32.toInt_inj.symm
theorem ltI (x y : Int32) : (x < y) = (x.toInt < y.toInt) := propext Int32.lt_iff_toInt_lt
theorem leI (x y : Int32) : (x ≤ y) = (x.toInt ≤ y.toInt) := propext Int32.le_iff_toInt_le
/-! sets -/
theorem mkb_and : ∀ a0 a1 a2 a3 a4 b0 b1 b2 b3 b4 : Bool, nI (mkb a0 a1 a2 a3 a4) &&& nI (mkb b0 b1 b2 b3 b4) = nI (mkb (a0 && b0) (a1 && b1) (a2 && b2) (a3 && b3) (a4 && b4)) := by decide +kernel
theorem mkb_or2 : ∀ a0 a1 a2 a3 a4 b0 b1 b2 b3 b4 : Bool, nI (mkb a0 a1 a2 a3 a4) ||| nI (mkb b0 b1 b2 b3 b4) = nI (mkb (a0 || b0) (a1 || b1) (a2 || b2) (a3 || b3) (a4 || b4)) := by decide +kernel
theorem mkb_xor : ∀ a0 a1 a2 a3 a4 b0 b1 b2 b3 b4 : Bool, nI (mkb a0 a1 a2 a3 a4) ^^^ nI (mkb b0 b1 b2 b3 b4) = nI (mkb (a0 != b0) (a1 != b1) (a2 != b2) (a3 != b3) (a4 != b4)) := by decide +kernel
theorem mkb_sub : ∀ a0 a1 a2 a3 a4 b0 b1 b2 b3 b4 : Bool, nI (mkb a0 a1 a2 a3 a4) &&& (nI (mkb b0 b1 b2 b3 b4) ^^^ (-1)) = nI (mkb (a0 && !b0) (a1 && !b1) (a2 && !b2) (a3 && !b3) (a4 && !b4)) := by decide +kernel
theorem mkb_0 : ∀ a0 a1 a2 a3 a4 : Bool, decide (nI (mkb a0 a1 a2 a3 a4) = 0) = !(a0 || a1 || a2 || a3 || a4) := by decide +kernel
theorem mkb_cnt : ∀ a0 a1 a2 a3 a4 : Bool, fJ6_bitCount_0f7a4 (nI (mkb a0 a1 a2 a3 a4)) (fun _ _ => 0) (fun _ _ => 0) = some (nI (a0.toNat + a1.toNat + a2.toNat + a3.toNat + a4.toNat)) := by decide +kernel
/-- how many -/
def ct (f : Nat → Bool) : Nat := (f 0).toNat + (f 1).toNat + (f 2).toNat + (f 3).toNat + (f 4).toNat
theorem ct_le (f : Nat → Bool) : ct f ≤ 5 := by
  unfold ct
  have h : ∀ b : Bool, b.toNat ≤ 1 := by decide
  have := h (f 0)
  have := h (f 1)
  have := h (f 2)
  have := h (f 3)
  have := h (f 4)
  omega
theorem ct_c {f g : Nat → Bool} (h : ∀ p, p < 5 → f p = g p) : ct f = ct g := by
  unfold ct
  rw [h 0 (by decide), h 1 (by decide), h 2 (by decide), h 3 (by decide), h 4 (by decide)]
theorem m_and (f g : Nat → Bool) : nI (mk5 f) &&& nI (mk5 g) = nI (mk5 (fun p => f p && g p)) := mkb_and _ _ _ _ _ _ _ _ _ _
theorem m_or (f g : Nat → Bool) : nI (mk5 f) ||| nI (mk5 g) = nI (mk5 (fun p => f p || g p)) := mkb_or2 _ _ _ _ _ _ _ _ _ _
theorem m_xor (f g : Nat → Bool) : nI (mk5 f) ^^^ nI (mk5 g) = nI (mk5 (fun p => f p != g p)) := mkb_xor _ _ _ _ _ _ _ _ _ _
theorem m_sub (f g : Nat → Bool) : nI (mk5 f) &&& (nI (mk5 g) ^^^ (-1)) = nI (mk5 (fun p => f p && !g p)) := mkb_sub _ _ _ _ _ _ _ _ _ _
theorem m_0 (f : Nat → Bool) : (nI (mk5 f) = 0) = (∀ p, p < 5 → f p = false) := by
  have h := mkb_0 (f 0) (f 1) (f 2) (f 3) (f 4)
  apply propext
  constructor
  · intro e p hp
    rw [mk5_b] at e
    rw [e] at h
    have h : (f 0 || f 1 || f 2 || f 3 || f 4) = false := by simpa using h
    simp only [Bool.or_eq_false_iff] at h
    obtain ⟨⟨⟨⟨h0, h1⟩, h2⟩, h3⟩, h4⟩ := h
    match p, hp with
    | 0, _ => exact h0
    | 1, _ => exact h1
    | 2, _ => exact h2
    | 3, _ => exact h3
    | 4, _ => exact h4
  · intro e
    rw [mk5_b, e 0 (by decide), e 1 (by decide), e 2 (by decide), e 3 (by decide), e 4 (by decide)]
    rfl
theorem m_cnt (f : Nat → Bool) (A V : xM) : fJ6_bitCount_0f7a4 (nI (mk5 f)) A V = some (nI (ct f)) := mkb_cnt (f 0) (f 1) (f 2) (f 3) (f 4)
/-- a number below 32 as a set -/
def bt (c : Nat) : Nat → Bool := fun p => c / 2 ^ p % 2 == 1
theorem bt_mk : ∀ c, c < 32 → mk5 (bt c) = c := by decide +kernel
theorem bt_f : ∀ n, n ≤ 5 → ∀ c, c < 2 ^ n → ∀ p, p < 5 → n ≤ p → bt c p = false := by
  have : ∀ n, n < 6 → ∀ c, c < 2 ^ n → ∀ p, p < 5 → n ≤ p → bt c p = false := by decide +kernel
  intro n hn
  exact this n (by omega)
theorem bt_mk5 : ∀ b0 b1 b2 b3 b4 : Bool, ∀ p : Fin 5, bt (mkb b0 b1 b2 b3 b4) p.val = [b0, b1, b2, b3, b4][p.val]! := by decide +kernel
theorem mk_bt (f : Nat → Bool) {p : Nat} (hp : p < 5) : bt (mk5 f) p = f p := by
  have := bt_mk5 (f 0) (f 1) (f 2) (f 3) (f 4) ⟨p, hp⟩
  rw [f5 f hp] at this
  exact this
theorem p2_32 : ∀ n, n ≤ 5 → 2 ^ n ≤ 32 := by
  intro n hn
  have : ∀ n, n < 6 → 2 ^ n ≤ 32 := by decide
  exact this n (by omega)
theorem sh_p : ∀ n, n < 6 → (1 : Int32) <<< (nI n &&& 31) = nI (2 ^ n) := by decide +kernel
theorem sh_q : ∀ n, n < 6 → (1 : Int32) <<< (nI n &&& 31) - 1 = nI (2 ^ n - 1) := by decide +kernel
theorem sh_m : ∀ n, n < 6 → ∀ c, c < 32 → decide ((nI c &&& (((1 : Int32) <<< (nI n &&& 31) - 1) ^^^ (-1))) = 0) = decide (c < 2 ^ n) := by decide +kernel
/-- people (bits), as both sides ask it -/
theorem ppl (x : Int32) {n : Nat} (hn : n ≤ 5) : ((x &&& (((1 : Int32) <<< (nI n &&& 31) - 1) ^^^ (-1))) = 0 ∧ ∃ c, c < 2 ^ n ∧ x = nI c) ∨ (¬ (x &&& (((1 : Int32) <<< (nI n &&& 31) - 1) ^^^ (-1))) = 0 ∧ (x.toInt < 0 ∨ ((2 ^ n : Nat) : Int) ≤ x.toInt)) := by
  have h32 := p2_32 n hn
  by_cases h : ∃ c, c < 2 ^ n ∧ x = nI c
  · left
    refine ⟨?_, h⟩
    obtain ⟨c, hc, rfl⟩ := h
    have := sh_m n (by omega) c (by omega)
    rw [decide_eq_true hc] at this
    exact of_decide_eq_true this
  · right
    constructor
    · intro e
      apply h
      have hm : ((1 : Int32) <<< (nI n &&& 31) - 1).toBitVec.toNat = 2 ^ n - 1 := by
        rw [sh_q n (by omega), pk_tn (by omega)]
      have e2 : x &&& ((1 : Int32) <<< (nI n &&& 31) - 1) = nI (x.toBitVec.toNat % 2 ^ n) := pk_and x n hm
      have e3 : ∀ m : Int32, x &&& (m ^^^ (-1)) = 0 → x = x &&& m := by
        intro m q
        have q := congrArg Int32.toBitVec q
        apply Int32.toBitVec_inj.mp
        rw [Int32.toBitVec_and]
        rw [Int32.toBitVec_and, Int32.toBitVec_xor] at q
        apply BitVec.eq_of_getLsbD_eq
        intro i hi
        have q2 := congrArg (fun b => b.getLsbD i) q
        have q3 : ((-1 : Int32).toBitVec).getLsbD i = true := by
          rw [show (-1 : Int32).toBitVec = BitVec.allOnes 32 from rfl, BitVec.getLsbD_allOnes]
          exact decide_eq_true hi
        have q4 : ((0 : Int32).toBitVec).getLsbD i = false := by
          rw [show (0 : Int32).toBitVec = 0#32 from rfl, BitVec.getLsbD_zero]
        simp only [BitVec.getLsbD_and, BitVec.getLsbD_xor, q3, q4, Bool.xor_true] at q2
        rw [BitVec.getLsbD_and]
        revert q2
        cases x.toBitVec.getLsbD i <;> cases m.toBitVec.getLsbD i <;> simp
      exact ⟨x.toBitVec.toNat % 2 ^ n, Nat.mod_lt _ (Nat.two_pow_pos n), (e3 _ e).trans e2⟩
    · rcases ix3 x (2 ^ n) (by omega) with q | q | q
      · exact Or.inl q
      · exact Or.inr q
      · exact absurd q h
