/-! AT THE START all holds. -/
theorem in_row {A V : Nat → Nat → Int32} (h : in_ok A V = true) {k a : Nat} {l : List Int32} (hk : in_rows[k]? = some (a, l)) (i : Nat) (hi : i < l.length) : A a i = l.getD i 0 := by
  unfold in_ok at h
  rw [Bool.and_eq_true, Bool.and_eq_true] at h
  have := List.all_eq_true.mp h.1 (a, l) (List.mem_of_getElem? hk)
  have h2 := in_r_at this i hi
  rw [Nat.zero_add] at h2
  exact h2
theorem in_val {A V : Nat → Nat → Int32} (h : in_ok A V = true) {k a b : Nat} {x : Int32} (hk : in_vals[k]? = some (a, b, x)) : V a b = x := by
  unfold in_ok at h
  rw [Bool.and_eq_true, Bool.and_eq_true] at h
  exact of_decide_eq_true (List.all_eq_true.mp h.2.1 (a, b, x) (List.mem_of_getElem? hk))
theorem in_cod {A V : Nat → Nat → Int32} (h : in_ok A V = true) (i : Nat) (hi : i < in_code.length) : A 144 i = in_code.getD i 0 := by
  unfold in_ok at h
  rw [Bool.and_eq_true, Bool.and_eq_true] at h
  have h2 := in_r_at h.2.2 i hi
  rw [Nat.zero_add] at h2
  exact h2
theorem in_a99 {A V : Nat → Nat → Int32} (h : in_ok A V = true) (i : Nat) (hi : i < 4) : A 100 i = ([5, 5, 5, 5] : List Int32).getD i 0 := in_row h (k := 0) rfl i hi
theorem in_a133 {A V : Nat → Nat → Int32} (h : in_ok A V = true) (i : Nat) (hi : i < 4) : A 134 i = ([5, 5, 5, 5] : List Int32).getD i 0 := in_row h (k := 1) rfl i hi
theorem in_cl : in_code.length = 330 := by decide +kernel
theorem in_co {A V : Nat → Nat → Int32} (h : in_ok A V = true) (i : Nat) (hi : i < 330) : A 144 i = in_code.getD i 0 := in_cod h i (by rw [in_cl]; exact hi)
theorem in_z98 {A V : Nat → Nat → Int32} (h : in_ok A V = true) (i : Nat) (hi : i < 4) : A 99 i = 0 := by
  rw [in_row h (k := 2) rfl i hi]
  have : ∀ i, i < 4 → ([0, 0, 0, 0] : List Int32).getD i 0 = 0 := by decide +kernel
  exact this i hi
theorem in_z132 {A V : Nat → Nat → Int32} (h : in_ok A V = true) (i : Nat) (hi : i < 16) : A 133 i = 0 := by
  rw [in_row h (k := 3) rfl i hi]
  have : ∀ i, i < 16 → ([0, 0, 0, 0, 0, 0, 0, 0, 0, 0, 0, 0, 0, 0, 0, 0] : List Int32).getD i 0 = 0 := by decide +kernel
  exact this i hi
theorem in_z72 {A V : Nat → Nat → Int32} (h : in_ok A V = true) (i : Nat) (hi : i < 6) : A 72 i = 0 := by
  rw [in_row h (k := 4) rfl i hi]
  have : ∀ i, i < 6 → ([0, 0, 0, 0, 0, 0] : List Int32).getD i 0 = 0 := by decide +kernel
  exact this i hi
theorem in_z134 {A V : Nat → Nat → Int32} (h : in_ok A V = true) (i : Nat) (hi : i < 6) : A 135 i = 0 := by
  rw [in_row h (k := 5) rfl i hi]
  have : ∀ i, i < 6 → ([0, 0, 0, 0, 0, 0] : List Int32).getD i 0 = 0 := by decide +kernel
  exact this i hi
theorem in_z66 {A V : Nat → Nat → Int32} (h : in_ok A V = true) (i : Nat) (hi : i < 5) : A 66 i = 0 := by
  rw [in_row h (k := 6) rfl i hi]
  have : ∀ i, i < 5 → ([0, 0, 0, 0, 0] : List Int32).getD i 0 = 0 := by decide +kernel
  exact this i hi
theorem in_z135 {A V : Nat → Nat → Int32} (h : in_ok A V = true) (i : Nat) (hi : i < 5) : A 136 i = 0 := by
  rw [in_row h (k := 7) rfl i hi]
  have : ∀ i, i < 5 → ([0, 0, 0, 0, 0] : List Int32).getD i 0 = 0 := by decide +kernel
  exact this i hi
theorem in_z67 {A V : Nat → Nat → Int32} (h : in_ok A V = true) (i : Nat) (hi : i < 5) : A 67 i = 0 := by
  rw [in_row h (k := 8) rfl i hi]
  have : ∀ i, i < 5 → ([0, 0, 0, 0, 0] : List Int32).getD i 0 = 0 := by decide +kernel
  exact this i hi
theorem in_z136 {A V : Nat → Nat → Int32} (h : in_ok A V = true) (i : Nat) (hi : i < 5) : A 137 i = 0 := by
  rw [in_row h (k := 9) rfl i hi]
  have : ∀ i, i < 5 → ([0, 0, 0, 0, 0] : List Int32).getD i 0 = 0 := by decide +kernel
  exact this i hi
theorem in_z68 {A V : Nat → Nat → Int32} (h : in_ok A V = true) (i : Nat) (hi : i < 5) : A 68 i = 0 := by
  rw [in_row h (k := 10) rfl i hi]
  have : ∀ i, i < 5 → ([0, 0, 0, 0, 0] : List Int32).getD i 0 = 0 := by decide +kernel
  exact this i hi
theorem in_z137 {A V : Nat → Nat → Int32} (h : in_ok A V = true) (i : Nat) (hi : i < 5) : A 138 i = 0 := by
  rw [in_row h (k := 11) rfl i hi]
  have : ∀ i, i < 5 → ([0, 0, 0, 0, 0] : List Int32).getD i 0 = 0 := by decide +kernel
  exact this i hi
theorem in_z69 {A V : Nat → Nat → Int32} (h : in_ok A V = true) (i : Nat) (hi : i < 6) : A 69 i = 0 := by
  rw [in_row h (k := 12) rfl i hi]
  have : ∀ i, i < 6 → ([0, 0, 0, 0, 0, 0] : List Int32).getD i 0 = 0 := by decide +kernel
  exact this i hi
theorem in_z70 {A V : Nat → Nat → Int32} (h : in_ok A V = true) (i : Nat) (hi : i < 4) : A 70 i = 0 := by
  rw [in_row h (k := 13) rfl i hi]
  have : ∀ i, i < 4 → ([0, 0, 0, 0] : List Int32).getD i 0 = 0 := by decide +kernel
  exact this i hi
theorem in_z71 {A V : Nat → Nat → Int32} (h : in_ok A V = true) (i : Nat) (hi : i < 4) : A 71 i = 0 := by
  rw [in_row h (k := 14) rfl i hi]
  have : ∀ i, i < 4 → ([0, 0, 0, 0] : List Int32).getD i 0 = 0 := by decide +kernel
  exact this i hi
theorem in_z74 {A V : Nat → Nat → Int32} (h : in_ok A V = true) (i : Nat) (hi : i < 6) : A 74 i = 0 := by
  rw [in_row h (k := 15) rfl i hi]
  have : ∀ i, i < 6 → ([0, 0, 0, 0, 0, 0] : List Int32).getD i 0 = 0 := by decide +kernel
  exact this i hi
theorem in_z75 {A V : Nat → Nat → Int32} (h : in_ok A V = true) (i : Nat) (hi : i < 6) : A 75 i = 0 := by
  rw [in_row h (k := 16) rfl i hi]
  have : ∀ i, i < 6 → ([0, 0, 0, 0, 0, 0] : List Int32).getD i 0 = 0 := by decide +kernel
  exact this i hi
theorem in_z76 {A V : Nat → Nat → Int32} (h : in_ok A V = true) (i : Nat) (hi : i < 6) : A 76 i = 0 := by
  rw [in_row h (k := 17) rfl i hi]
  have : ∀ i, i < 6 → ([0, 0, 0, 0, 0, 0] : List Int32).getD i 0 = 0 := by decide +kernel
  exact this i hi
theorem in_z138 {A V : Nat → Nat → Int32} (h : in_ok A V = true) (i : Nat) (hi : i < 30) : A 139 i = 0 := by
  rw [in_row h (k := 18) rfl i hi]
  have : ∀ i, i < 30 → ([0, 0, 0, 0, 0, 0, 0, 0, 0, 0, 0, 0, 0, 0, 0, 0, 0, 0, 0, 0, 0, 0, 0, 0, 0, 0, 0, 0, 0, 0] : List Int32).getD i 0 = 0 := by decide +kernel
  exact this i hi
theorem in_z139 {A V : Nat → Nat → Int32} (h : in_ok A V = true) (i : Nat) (hi : i < 12) : A 140 i = 0 := by
  rw [in_row h (k := 19) rfl i hi]
  have : ∀ i, i < 12 → ([0, 0, 0, 0, 0, 0, 0, 0, 0, 0, 0, 0] : List Int32).getD i 0 = 0 := by decide +kernel
  exact this i hi
theorem in_z140 {A V : Nat → Nat → Int32} (h : in_ok A V = true) (i : Nat) (hi : i < 12) : A 141 i = 0 := by
  rw [in_row h (k := 20) rfl i hi]
  have : ∀ i, i < 12 → ([0, 0, 0, 0, 0, 0, 0, 0, 0, 0, 0, 0] : List Int32).getD i 0 = 0 := by decide +kernel
  exact this i hi
theorem in_z141 {A V : Nat → Nat → Int32} (h : in_ok A V = true) (i : Nat) (hi : i < 60) : A 142 i = 0 := by
  rw [in_row h (k := 21) rfl i hi]
  have : ∀ i, i < 60 → ([0, 0, 0, 0, 0, 0, 0, 0, 0, 0, 0, 0, 0, 0, 0, 0, 0, 0, 0, 0, 0, 0, 0, 0, 0, 0, 0, 0, 0, 0, 0, 0, 0, 0, 0, 0, 0, 0, 0, 0, 0, 0, 0, 0, 0, 0, 0, 0, 0, 0, 0, 0, 0, 0, 0, 0, 0, 0, 0, 0] : List Int32).getD i 0 = 0 := by decide +kernel
  exact this i hi
theorem in_a130 {A V : Nat → Nat → Int32} (h : in_ok A V = true) (i : Nat) (hi : i < 9) : A 131 i = ([(-4), (-3), (-61), 0, (-4), (-60), (-13), 1, 1] : List Int32).getD i 0 := in_row h (k := 22) rfl i hi
theorem in_a144 {A V : Nat → Nat → Int32} (h : in_ok A V = true) (i : Nat) (hi : i < 18) : A 145 i = ([7, 1, 1, 0, 0, 0, 0, 0, 0, 0, 0, 0, 0, 0, 0, 0, 0, 0] : List Int32).getD i 0 := in_row h (k := 23) rfl i hi
theorem in_a145 {A V : Nat → Nat → Int32} (h : in_ok A V = true) (i : Nat) (hi : i < 45) : A 146 i = ([107, 110, 111, 119, 119, 105, 108, 108, 98, 121, 115, 111, 110, 103, 114, 111, 111, 109, 101, 118, 101, 110, 105, 110, 103, 109, 97, 121, 108, 101, 97, 114, 110, 119, 97, 108, 108, 111, 114, 97, 110, 100, 110, 111, 116] : List Int32).getD i 0 := in_row h (k := 24) rfl i hi
theorem in_a146 {A V : Nat → Nat → Int32} (h : in_ok A V = true) (i : Nat) (hi : i < 13) : A 147 i = ([0, 4, 8, 10, 14, 18, 25, 28, 33, 37, 39, 42, 45] : List Int32).getD i 0 := in_row h (k := 25) rfl i hi
theorem in_a159 {A V : Nat → Nat → Int32} (h : in_ok A V = true) (i : Nat) (hi : i < 4) : A 160 i = ([(-1), (-1), (-1), (-1)] : List Int32).getD i 0 := in_row h (k := 26) rfl i hi
theorem in_z160 {A V : Nat → Nat → Int32} (h : in_ok A V = true) (i : Nat) (hi : i < 4) : A 161 i = 0 := by
  rw [in_row h (k := 27) rfl i hi]
  have : ∀ i, i < 4 → ([0, 0, 0, 0] : List Int32).getD i 0 = 0 := by decide +kernel
  exact this i hi
theorem in_z101 {A V : Nat → Nat → Int32} (h : in_ok A V = true) (i : Nat) (hi : i < 7) : A 102 i = 0 := by
  rw [in_row h (k := 28) rfl i hi]
  have : ∀ i, i < 7 → ([0, 0, 0, 0, 0, 0, 0] : List Int32).getD i 0 = 0 := by decide +kernel
  exact this i hi
theorem in_z102 {A V : Nat → Nat → Int32} (h : in_ok A V = true) (i : Nat) (hi : i < 7) : A 103 i = 0 := by
  rw [in_row h (k := 29) rfl i hi]
  have : ∀ i, i < 7 → ([0, 0, 0, 0, 0, 0, 0] : List Int32).getD i 0 = 0 := by decide +kernel
  exact this i hi
theorem in_z103 {A V : Nat → Nat → Int32} (h : in_ok A V = true) (i : Nat) (hi : i < 7) : A 104 i = 0 := by
  rw [in_row h (k := 30) rfl i hi]
  have : ∀ i, i < 7 → ([0, 0, 0, 0, 0, 0, 0] : List Int32).getD i 0 = 0 := by decide +kernel
  exact this i hi
theorem in_z104 {A V : Nat → Nat → Int32} (h : in_ok A V = true) (i : Nat) (hi : i < 7) : A 105 i = 0 := by
  rw [in_row h (k := 31) rfl i hi]
  have : ∀ i, i < 7 → ([0, 0, 0, 0, 0, 0, 0] : List Int32).getD i 0 = 0 := by decide +kernel
  exact this i hi
theorem in_z105 {A V : Nat → Nat → Int32} (h : in_ok A V = true) (i : Nat) (hi : i < 7) : A 106 i = 0 := by
  rw [in_row h (k := 32) rfl i hi]
  have : ∀ i, i < 7 → ([0, 0, 0, 0, 0, 0, 0] : List Int32).getD i 0 = 0 := by decide +kernel
  exact this i hi
theorem in_z106 {A V : Nat → Nat → Int32} (h : in_ok A V = true) (i : Nat) (hi : i < 7) : A 107 i = 0 := by
  rw [in_row h (k := 33) rfl i hi]
  have : ∀ i, i < 7 → ([0, 0, 0, 0, 0, 0, 0] : List Int32).getD i 0 = 0 := by decide +kernel
  exact this i hi
theorem in_z107 {A V : Nat → Nat → Int32} (h : in_ok A V = true) (i : Nat) (hi : i < 7) : A 108 i = 0 := by
  rw [in_row h (k := 34) rfl i hi]
  have : ∀ i, i < 7 → ([0, 0, 0, 0, 0, 0, 0] : List Int32).getD i 0 = 0 := by decide +kernel
  exact this i hi
theorem in_z108 {A V : Nat → Nat → Int32} (h : in_ok A V = true) (i : Nat) (hi : i < 7) : A 109 i = 0 := by
  rw [in_row h (k := 35) rfl i hi]
  have : ∀ i, i < 7 → ([0, 0, 0, 0, 0, 0, 0] : List Int32).getD i 0 = 0 := by decide +kernel
  exact this i hi
theorem in_z109 {A V : Nat → Nat → Int32} (h : in_ok A V = true) (i : Nat) (hi : i < 7) : A 110 i = 0 := by
  rw [in_row h (k := 36) rfl i hi]
  have : ∀ i, i < 7 → ([0, 0, 0, 0, 0, 0, 0] : List Int32).getD i 0 = 0 := by decide +kernel
  exact this i hi
theorem in_z110 {A V : Nat → Nat → Int32} (h : in_ok A V = true) (i : Nat) (hi : i < 7) : A 111 i = 0 := by
  rw [in_row h (k := 37) rfl i hi]
  have : ∀ i, i < 7 → ([0, 0, 0, 0, 0, 0, 0] : List Int32).getD i 0 = 0 := by decide +kernel
  exact this i hi
theorem in_z111 {A V : Nat → Nat → Int32} (h : in_ok A V = true) (i : Nat) (hi : i < 7) : A 112 i = 0 := by
  rw [in_row h (k := 38) rfl i hi]
  have : ∀ i, i < 7 → ([0, 0, 0, 0, 0, 0, 0] : List Int32).getD i 0 = 0 := by decide +kernel
  exact this i hi
theorem in_z112 {A V : Nat → Nat → Int32} (h : in_ok A V = true) (i : Nat) (hi : i < 7) : A 113 i = 0 := by
  rw [in_row h (k := 39) rfl i hi]
  have : ∀ i, i < 7 → ([0, 0, 0, 0, 0, 0, 0] : List Int32).getD i 0 = 0 := by decide +kernel
  exact this i hi
theorem in_z116 {A V : Nat → Nat → Int32} (h : in_ok A V = true) (i : Nat) (hi : i < 6) : A 117 i = 0 := by
  rw [in_row h (k := 40) rfl i hi]
  have : ∀ i, i < 6 → ([0, 0, 0, 0, 0, 0] : List Int32).getD i 0 = 0 := by decide +kernel
  exact this i hi
theorem in_z117 {A V : Nat → Nat → Int32} (h : in_ok A V = true) (i : Nat) (hi : i < 6) : A 118 i = 0 := by
  rw [in_row h (k := 41) rfl i hi]
  have : ∀ i, i < 6 → ([0, 0, 0, 0, 0, 0] : List Int32).getD i 0 = 0 := by decide +kernel
  exact this i hi
theorem in_z118 {A V : Nat → Nat → Int32} (h : in_ok A V = true) (i : Nat) (hi : i < 6) : A 119 i = 0 := by
  rw [in_row h (k := 42) rfl i hi]
  have : ∀ i, i < 6 → ([0, 0, 0, 0, 0, 0] : List Int32).getD i 0 = 0 := by decide +kernel
  exact this i hi
theorem in_z119 {A V : Nat → Nat → Int32} (h : in_ok A V = true) (i : Nat) (hi : i < 4) : A 120 i = 0 := by
  rw [in_row h (k := 43) rfl i hi]
  have : ∀ i, i < 4 → ([0, 0, 0, 0] : List Int32).getD i 0 = 0 := by decide +kernel
  exact this i hi
theorem in_z120 {A V : Nat → Nat → Int32} (h : in_ok A V = true) (i : Nat) (hi : i < 4) : A 121 i = 0 := by
  rw [in_row h (k := 44) rfl i hi]
  have : ∀ i, i < 4 → ([0, 0, 0, 0] : List Int32).getD i 0 = 0 := by decide +kernel
  exact this i hi
theorem in_z122 {A V : Nat → Nat → Int32} (h : in_ok A V = true) (i : Nat) (hi : i < 40) : A 123 i = 0 := by
  rw [in_row h (k := 45) rfl i hi]
  have : ∀ i, i < 40 → ([0, 0, 0, 0, 0, 0, 0, 0, 0, 0, 0, 0, 0, 0, 0, 0, 0, 0, 0, 0, 0, 0, 0, 0, 0, 0, 0, 0, 0, 0, 0, 0, 0, 0, 0, 0, 0, 0, 0, 0] : List Int32).getD i 0 = 0 := by decide +kernel
  exact this i hi
theorem in_z124 {A V : Nat → Nat → Int32} (h : in_ok A V = true) (i : Nat) (hi : i < 40) : A 125 i = 0 := by
  rw [in_row h (k := 46) rfl i hi]
  have : ∀ i, i < 40 → ([0, 0, 0, 0, 0, 0, 0, 0, 0, 0, 0, 0, 0, 0, 0, 0, 0, 0, 0, 0, 0, 0, 0, 0, 0, 0, 0, 0, 0, 0, 0, 0, 0, 0, 0, 0, 0, 0, 0, 0] : List Int32).getD i 0 = 0 := by decide +kernel
  exact this i hi
theorem in_z126 {A V : Nat → Nat → Int32} (h : in_ok A V = true) (i : Nat) (hi : i < 40) : A 127 i = 0 := by
  rw [in_row h (k := 47) rfl i hi]
  have : ∀ i, i < 40 → ([0, 0, 0, 0, 0, 0, 0, 0, 0, 0, 0, 0, 0, 0, 0, 0, 0, 0, 0, 0, 0, 0, 0, 0, 0, 0, 0, 0, 0, 0, 0, 0, 0, 0, 0, 0, 0, 0, 0, 0] : List Int32).getD i 0 = 0 := by decide +kernel
  exact this i hi
theorem in_z128 {A V : Nat → Nat → Int32} (h : in_ok A V = true) (i : Nat) (hi : i < 40) : A 129 i = 0 := by
  rw [in_row h (k := 48) rfl i hi]
  have : ∀ i, i < 40 → ([0, 0, 0, 0, 0, 0, 0, 0, 0, 0, 0, 0, 0, 0, 0, 0, 0, 0, 0, 0, 0, 0, 0, 0, 0, 0, 0, 0, 0, 0, 0, 0, 0, 0, 0, 0, 0, 0, 0, 0] : List Int32).getD i 0 = 0 := by decide +kernel
  exact this i hi
theorem in_z156 {A V : Nat → Nat → Int32} (h : in_ok A V = true) (i : Nat) (hi : i < 16) : A 157 i = 0 := by
  rw [in_row h (k := 49) rfl i hi]
  have : ∀ i, i < 16 → ([0, 0, 0, 0, 0, 0, 0, 0, 0, 0, 0, 0, 0, 0, 0, 0] : List Int32).getD i 0 = 0 := by decide +kernel
  exact this i hi
theorem in_z157 {A V : Nat → Nat → Int32} (h : in_ok A V = true) (i : Nat) (hi : i < 4) : A 158 i = 0 := by
  rw [in_row h (k := 50) rfl i hi]
  have : ∀ i, i < 4 → ([0, 0, 0, 0] : List Int32).getD i 0 = 0 := by decide +kernel
  exact this i hi
theorem in_z158 {A V : Nat → Nat → Int32} (h : in_ok A V = true) (i : Nat) (hi : i < 30) : A 159 i = 0 := by
  rw [in_row h (k := 51) rfl i hi]
  have : ∀ i, i < 30 → ([0, 0, 0, 0, 0, 0, 0, 0, 0, 0, 0, 0, 0, 0, 0, 0, 0, 0, 0, 0, 0, 0, 0, 0, 0, 0, 0, 0, 0, 0] : List Int32).getD i 0 = 0 := by decide +kernel
  exact this i hi
theorem in_z161 {A V : Nat → Nat → Int32} (h : in_ok A V = true) (i : Nat) (hi : i < 160) : A 162 i = 0 := by
  rw [in_row h (k := 52) rfl i hi]
  have : ∀ i, i < 160 → ([0, 0, 0, 0, 0, 0, 0, 0, 0, 0, 0, 0, 0, 0, 0, 0, 0, 0, 0, 0, 0, 0, 0, 0, 0, 0, 0, 0, 0, 0, 0, 0, 0, 0, 0, 0, 0, 0, 0, 0, 0, 0, 0, 0, 0, 0, 0, 0, 0, 0, 0, 0, 0, 0, 0, 0, 0, 0, 0, 0, 0, 0, 0, 0, 0, 0, 0, 0, 0, 0, 0, 0, 0, 0, 0, 0, 0, 0, 0, 0, 0, 0, 0, 0, 0, 0, 0, 0, 0, 0, 0, 0, 0, 0, 0, 0, 0, 0, 0, 0, 0, 0, 0, 0, 0, 0, 0, 0, 0, 0, 0, 0, 0, 0, 0, 0, 0, 0, 0, 0, 0, 0, 0, 0, 0, 0, 0, 0, 0, 0, 0, 0, 0, 0, 0, 0, 0, 0, 0, 0, 0, 0, 0, 0, 0, 0, 0, 0, 0, 0, 0, 0, 0, 0, 0, 0, 0, 0, 0, 0] : List Int32).getD i 0 = 0 := by decide +kernel
  exact this i hi
theorem in_v64_13 {A V : Nat → Nat → Int32} (h : in_ok A V = true) : V 64 13 = 0 := in_val h (k := 0) rfl
theorem in_v64_14 {A V : Nat → Nat → Int32} (h : in_ok A V = true) : V 64 14 = 0 := in_val h (k := 1) rfl
theorem in_v64_15 {A V : Nat → Nat → Int32} (h : in_ok A V = true) : V 64 15 = 1 := in_val h (k := 2) rfl
theorem in_v64_16 {A V : Nat → Nat → Int32} (h : in_ok A V = true) : V 64 16 = 0 := in_val h (k := 3) rfl
theorem in_v65_3 {A V : Nat → Nat → Int32} (h : in_ok A V = true) : V 65 3 = 0 := in_val h (k := 4) rfl
theorem in_v65_7 {A V : Nat → Nat → Int32} (h : in_ok A V = true) : V 65 7 = 0 := in_val h (k := 5) rfl
theorem in_v81_5 {A V : Nat → Nat → Int32} (h : in_ok A V = true) : V 81 5 = 0 := in_val h (k := 6) rfl
theorem in_v84_0 {A V : Nat → Nat → Int32} (h : in_ok A V = true) : V 84 0 = 0 := in_val h (k := 7) rfl
theorem in_v84_1 {A V : Nat → Nat → Int32} (h : in_ok A V = true) : V 84 1 = 0 := in_val h (k := 8) rfl
theorem in_v84_10 {A V : Nat → Nat → Int32} (h : in_ok A V = true) : V 84 11 = 0 := in_val h (k := 9) rfl
theorem in_v84_12 {A V : Nat → Nat → Int32} (h : in_ok A V = true) : V 84 13 = 0 := in_val h (k := 10) rfl
theorem in_v84_13 {A V : Nat → Nat → Int32} (h : in_ok A V = true) : V 84 14 = 0 := in_val h (k := 11) rfl
theorem in_v94_1 {A V : Nat → Nat → Int32} (h : in_ok A V = true) : V 95 1 = 0 := in_val h (k := 12) rfl
theorem in_v94_2 {A V : Nat → Nat → Int32} (h : in_ok A V = true) : V 95 2 = (-1) := in_val h (k := 13) rfl
theorem in_v94_4 {A V : Nat → Nat → Int32} (h : in_ok A V = true) : V 95 4 = 9 := in_val h (k := 14) rfl
theorem in_v94_5 {A V : Nat → Nat → Int32} (h : in_ok A V = true) : V 95 5 = 1 := in_val h (k := 15) rfl
theorem in_v94_6 {A V : Nat → Nat → Int32} (h : in_ok A V = true) : V 95 6 = 49 := in_val h (k := 16) rfl
theorem in_v94_7 {A V : Nat → Nat → Int32} (h : in_ok A V = true) : V 95 7 = 49 := in_val h (k := 17) rfl
theorem in_v94_8 {A V : Nat → Nat → Int32} (h : in_ok A V = true) : V 95 8 = 1 := in_val h (k := 18) rfl
theorem in_v114_3 {A V : Nat → Nat → Int32} (h : in_ok A V = true) : V 115 3 = 0 := in_val h (k := 19) rfl
theorem in_v114_4 {A V : Nat → Nat → Int32} (h : in_ok A V = true) : V 115 4 = 0 := in_val h (k := 20) rfl
theorem in_v114_5 {A V : Nat → Nat → Int32} (h : in_ok A V = true) : V 115 5 = 0 := in_val h (k := 21) rfl
theorem in_v114_6 {A V : Nat → Nat → Int32} (h : in_ok A V = true) : V 115 6 = 0 := in_val h (k := 22) rfl
theorem in_v121_1 {A V : Nat → Nat → Int32} (h : in_ok A V = true) : V 122 1 = (-1) := in_val h (k := 23) rfl
theorem in_v121_2 {A V : Nat → Nat → Int32} (h : in_ok A V = true) : V 122 2 = 0 := in_val h (k := 24) rfl
theorem in_v123_1 {A V : Nat → Nat → Int32} (h : in_ok A V = true) : V 124 1 = (-1) := in_val h (k := 25) rfl
theorem in_v123_2 {A V : Nat → Nat → Int32} (h : in_ok A V = true) : V 124 2 = 0 := in_val h (k := 26) rfl
theorem in_v125_1 {A V : Nat → Nat → Int32} (h : in_ok A V = true) : V 126 1 = (-1) := in_val h (k := 27) rfl
theorem in_v125_2 {A V : Nat → Nat → Int32} (h : in_ok A V = true) : V 126 2 = 0 := in_val h (k := 28) rfl
theorem in_v127_1 {A V : Nat → Nat → Int32} (h : in_ok A V = true) : V 128 1 = (-1) := in_val h (k := 29) rfl
theorem in_v127_2 {A V : Nat → Nat → Int32} (h : in_ok A V = true) : V 128 2 = 0 := in_val h (k := 30) rfl
theorem in_v131_2 {A V : Nat → Nat → Int32} (h : in_ok A V = true) : V 132 2 = 0 := in_val h (k := 31) rfl
theorem in_v131_4 {A V : Nat → Nat → Int32} (h : in_ok A V = true) : V 132 4 = 0 := in_val h (k := 32) rfl
theorem in_v131_9 {A V : Nat → Nat → Int32} (h : in_ok A V = true) : V 132 9 = 0 := in_val h (k := 33) rfl
theorem in_v131_14 {A V : Nat → Nat → Int32} (h : in_ok A V = true) : V 132 14 = 0 := in_val h (k := 34) rfl
theorem in_v131_15 {A V : Nat → Nat → Int32} (h : in_ok A V = true) : V 132 15 = 1 := in_val h (k := 35) rfl
theorem in_v131_16 {A V : Nat → Nat → Int32} (h : in_ok A V = true) : V 132 16 = 0 := in_val h (k := 36) rfl
theorem in_v131_19 {A V : Nat → Nat → Int32} (h : in_ok A V = true) : V 132 19 = 0 := in_val h (k := 37) rfl
theorem in_v131_20 {A V : Nat → Nat → Int32} (h : in_ok A V = true) : V 132 20 = 0 := in_val h (k := 38) rfl
theorem in_v131_21 {A V : Nat → Nat → Int32} (h : in_ok A V = true) : V 132 21 = 0 := in_val h (k := 39) rfl
theorem in_v131_22 {A V : Nat → Nat → Int32} (h : in_ok A V = true) : V 132 22 = 0 := in_val h (k := 40) rfl
theorem in_v131_26 {A V : Nat → Nat → Int32} (h : in_ok A V = true) : V 132 26 = 0 := in_val h (k := 41) rfl
theorem in_v131_27 {A V : Nat → Nat → Int32} (h : in_ok A V = true) : V 132 27 = 0 := in_val h (k := 42) rfl
theorem in_v131_28 {A V : Nat → Nat → Int32} (h : in_ok A V = true) : V 132 28 = 0 := in_val h (k := 43) rfl
theorem in_v131_30 {A V : Nat → Nat → Int32} (h : in_ok A V = true) : V 132 30 = 0 := in_val h (k := 44) rfl
theorem in_v131_31 {A V : Nat → Nat → Int32} (h : in_ok A V = true) : V 132 31 = 0 := in_val h (k := 45) rfl
theorem in_v131_35 {A V : Nat → Nat → Int32} (h : in_ok A V = true) : V 132 35 = 0 := in_val h (k := 46) rfl
theorem in_v131_36 {A V : Nat → Nat → Int32} (h : in_ok A V = true) : V 132 36 = 0 := in_val h (k := 47) rfl
theorem in_v131_41 {A V : Nat → Nat → Int32} (h : in_ok A V = true) : V 132 41 = 0 := in_val h (k := 48) rfl
theorem in_v131_42 {A V : Nat → Nat → Int32} (h : in_ok A V = true) : V 132 42 = 0 := in_val h (k := 49) rfl
theorem in_v131_43 {A V : Nat → Nat → Int32} (h : in_ok A V = true) : V 132 43 = 0 := in_val h (k := 50) rfl
theorem in_v131_47 {A V : Nat → Nat → Int32} (h : in_ok A V = true) : V 132 47 = 0 := in_val h (k := 51) rfl
theorem in_v131_48 {A V : Nat → Nat → Int32} (h : in_ok A V = true) : V 132 48 = 0 := in_val h (k := 52) rfl
theorem in_v131_49 {A V : Nat → Nat → Int32} (h : in_ok A V = true) : V 132 49 = 0 := in_val h (k := 53) rfl
theorem in_v131_50 {A V : Nat → Nat → Int32} (h : in_ok A V = true) : V 132 50 = 0 := in_val h (k := 54) rfl
def in_N : Nat → Nat := fun _ => 0
def in_B : Nat → Nat → Nat := fun k _ => bif Nat.beq k 1 then 5 else 0
theorem mk5_0 {f : Nat → Bool} (h : ∀ p, p < 5 → f p = false) : mk5 f = 0 := by
  unfold mk5
  rw [h 0 (by decide), h 1 (by decide), h 2 (by decide), h 3 (by decide), h 4 (by decide)]
  rfl
theorem in_iv {A V : Nat → Nat → Int32} (h : in_ok A V = true) : iv in_N in_B A V [] .null := by
  refine ⟨?_, ?_, ?_, ?_, ?_, ?_, ?_, ?_, ?_, ?_, ?_, ?_, ?_⟩
  · exact ⟨⟨in_v64_13 h, in_v131_2 h, by decide⟩, ⟨in_v65_3 h, in_v131_4 h, by decide⟩, ⟨in_v64_14 h, in_v131_9 h, by decide⟩, ⟨in_v64_15 h, in_v131_15 h, by decide⟩, ⟨in_v64_16 h, in_v131_16 h, by decide⟩, ⟨in_v94_1 h, in_v131_14 h, by decide⟩⟩
  · refine ⟨⟨fun q hq => ⟨by show 0 < 16; decide, by show 0 / 2 ^ q % 2 = 0; simp⟩, fun q r _ _ => by show 0 / 2 ^ r % 2 = 0 / 2 ^ q % 2; simp⟩, fun q hq => in_z98 h q hq, fun q r hq hr => ?_⟩
    rw [in_z132 h _ (by omega)]
    show (0 : Int32) = nI (0 / 2 ^ r % 2)
    simp
    rfl
  · intro r hr
    have h1 := in_a99 h r hr
    have h2 := in_a133 h r hr
    have : ∀ r, r < 4 → ([5, 5, 5, 5] : List Int32).getD r 0 = nI 5 := by decide +kernel
    rw [this r hr] at h1 h2
    exact ⟨h1, h2, by show 1 ≤ 5; decide, by show 5 ≤ 5; decide⟩
  · intro s hs; exact absurd hs (Nat.not_lt_zero s)
  · intro p hp; exact absurd hp (Nat.not_lt_zero p)
  · have e0 : ∀ f : Nat → Bool, mk5 (fun p => Nat.blt p (in_N 1) && f p) = 0 := fun f => mk5_0 (fun p _ => by show (Nat.blt p 0 && f p) = false; simp [Nat.blt])
    refine ⟨fun n h1 h5 => ?_, fun i hi => ⟨?_, ?_⟩, ?_⟩
    · rw [e0, in_z69 h n (by omega)]; rfl
    · rw [e0, in_z70 h i hi]; rfl
    · rw [e0, in_z71 h i hi]; rfl
    · rw [e0, in_v65_7 h]; rfl
  · refine ⟨fun p t _ _ => ⟨by show 0 ≤ 3; decide, fun _ => rfl⟩, fun t ht => ⟨?_, ?_, ?_⟩, fun j hj => in_z138 h j hj⟩
    · rw [in_z74 h t ht]; rfl
    · rw [in_z75 h t ht]; rfl
    · rw [in_z76 h t ht]; rfl
  · refine ⟨⟨?_, ?_, ?_, ?_, ?_, ?_, ?_, ?_, ?_, ?_, ?_, ?_⟩, fun e he => absurd he (Nat.not_lt_zero e)⟩
    · exact ⟨(in_z101 h 0 (by decide)).trans (in_z139 h 0 (by decide)).symm, (in_z101 h 1 (by decide)).trans (in_z140 h 0 (by decide)).symm, fun p hp => (in_z101 h (2 + p) (by omega)).trans (in_z141 h (0 + p) (by omega)).symm⟩
    · exact ⟨(in_z102 h 0 (by decide)).trans (in_z139 h 1 (by decide)).symm, (in_z102 h 1 (by decide)).trans (in_z140 h 1 (by decide)).symm, fun p hp => (in_z102 h (2 + p) (by omega)).trans (in_z141 h (5 + p) (by omega)).symm⟩
    · exact ⟨(in_z103 h 0 (by decide)).trans (in_z139 h 2 (by decide)).symm, (in_z103 h 1 (by decide)).trans (in_z140 h 2 (by decide)).symm, fun p hp => (in_z103 h (2 + p) (by omega)).trans (in_z141 h (10 + p) (by omega)).symm⟩
    · exact ⟨(in_z104 h 0 (by decide)).trans (in_z139 h 3 (by decide)).symm, (in_z104 h 1 (by decide)).trans (in_z140 h 3 (by decide)).symm, fun p hp => (in_z104 h (2 + p) (by omega)).trans (in_z141 h (15 + p) (by omega)).symm⟩
    · exact ⟨(in_z105 h 0 (by decide)).trans (in_z139 h 4 (by decide)).symm, (in_z105 h 1 (by decide)).trans (in_z140 h 4 (by decide)).symm, fun p hp => (in_z105 h (2 + p) (by omega)).trans (in_z141 h (20 + p) (by omega)).symm⟩
    · exact ⟨(in_z106 h 0 (by decide)).trans (in_z139 h 5 (by decide)).symm, (in_z106 h 1 (by decide)).trans (in_z140 h 5 (by decide)).symm, fun p hp => (in_z106 h (2 + p) (by omega)).trans (in_z141 h (25 + p) (by omega)).symm⟩
    · exact ⟨(in_z107 h 0 (by decide)).trans (in_z139 h 6 (by decide)).symm, (in_z107 h 1 (by decide)).trans (in_z140 h 6 (by decide)).symm, fun p hp => (in_z107 h (2 + p) (by omega)).trans (in_z141 h (30 + p) (by omega)).symm⟩
    · exact ⟨(in_z108 h 0 (by decide)).trans (in_z139 h 7 (by decide)).symm, (in_z108 h 1 (by decide)).trans (in_z140 h 7 (by decide)).symm, fun p hp => (in_z108 h (2 + p) (by omega)).trans (in_z141 h (35 + p) (by omega)).symm⟩
    · exact ⟨(in_z109 h 0 (by decide)).trans (in_z139 h 8 (by decide)).symm, (in_z109 h 1 (by decide)).trans (in_z140 h 8 (by decide)).symm, fun p hp => (in_z109 h (2 + p) (by omega)).trans (in_z141 h (40 + p) (by omega)).symm⟩
    · exact ⟨(in_z110 h 0 (by decide)).trans (in_z139 h 9 (by decide)).symm, (in_z110 h 1 (by decide)).trans (in_z140 h 9 (by decide)).symm, fun p hp => (in_z110 h (2 + p) (by omega)).trans (in_z141 h (45 + p) (by omega)).symm⟩
    · exact ⟨(in_z111 h 0 (by decide)).trans (in_z139 h 10 (by decide)).symm, (in_z111 h 1 (by decide)).trans (in_z140 h 10 (by decide)).symm, fun p hp => (in_z111 h (2 + p) (by omega)).trans (in_z141 h (50 + p) (by omega)).symm⟩
    · exact ⟨(in_z112 h 0 (by decide)).trans (in_z139 h 11 (by decide)).symm, (in_z112 h 1 (by decide)).trans (in_z140 h 11 (by decide)).symm, fun p hp => (in_z112 h (2 + p) (by omega)).trans (in_z141 h (55 + p) (by omega)).symm⟩
  · intro j hj; exact absurd hj (Nat.not_lt_zero j)
  · have hm : ∀ i, i < 4 → ([(-1), (-1), (-1), (-1)] : List Int32).getD i 0 = -1 := by decide +kernel
    refine ⟨?_, ?_, ?_, ?_⟩
    · have h1 := in_a159 h 0 (by decide)
      rw [hm 0 (by decide)] at h1
      exact ⟨(in_v121_1 h).trans h1.symm, ⟨0, by decide, in_v121_2 h, in_z160 h 0 (by decide)⟩, fun j hj => (in_z122 h j hj).trans (in_z161 h (0 + j) (by omega)).symm, Or.inl h1⟩
    · have h1 := in_a159 h 1 (by decide)
      rw [hm 1 (by decide)] at h1
      exact ⟨(in_v123_1 h).trans h1.symm, ⟨0, by decide, in_v123_2 h, in_z160 h 1 (by decide)⟩, fun j hj => (in_z124 h j hj).trans (in_z161 h (40 + j) (by omega)).symm, Or.inl h1⟩
    · have h1 := in_a159 h 2 (by decide)
      rw [hm 2 (by decide)] at h1
      exact ⟨(in_v125_1 h).trans h1.symm, ⟨0, by decide, in_v125_2 h, in_z160 h 2 (by decide)⟩, fun j hj => (in_z126 h j hj).trans (in_z161 h (80 + j) (by omega)).symm, Or.inl h1⟩
    · have h1 := in_a159 h 3 (by decide)
      rw [hm 3 (by decide)] at h1
      exact ⟨(in_v127_1 h).trans h1.symm, ⟨0, by decide, in_v127_2 h, in_z160 h 3 (by decide)⟩, fun j hj => (in_z128 h j hj).trans (in_z161 h (120 + j) (by omega)).symm, Or.inl h1⟩
  · exact ⟨(in_v114_3 h).trans (in_v131_43 h).symm, Or.inl (in_v114_3 h)⟩
  · refine ⟨⟨7, 8, rfl, rfl, by decide, by decide, by decide, ?_, ?_, ?_⟩, fun t q hq => by simp at hq⟩
    all_goals have e := in_a130 h
    all_goals have e0 : A 131 0 = -4 := e 0 (by decide)
    all_goals have e1 : A 131 1 = -3 := e 1 (by decide)
    all_goals have e2 : A 131 2 = -61 := e 2 (by decide)
    all_goals have e3 : A 131 3 = 0 := e 3 (by decide)
    all_goals have e4 : A 131 4 = -4 := e 4 (by decide)
    all_goals have e5 : A 131 5 = -60 := e 5 (by decide)
    all_goals have e6 : A 131 6 = -13 := e 6 (by decide)
    all_goals have e7 : A 131 7 = 1 := e 7 (by decide)
    all_goals have e8 : A 131 8 = 1 := e 8 (by decide)
    · refine ⟨in_a144 h 0 (by decide), fun j hj => ?_, ?_⟩
      · rw [Nat.zero_add, in_co h _ (by omega)]
        rcases (show j = 0 ∨ j = 1 ∨ j = 2 ∨ j = 3 ∨ j = 4 ∨ j = 5 ∨ j = 6 by omega) with rfl | rfl | rfl | rfl | rfl | rfl | rfl
        · rw [e0]; decide +kernel
        · rw [e1]; decide +kernel
        · rw [e2]; decide +kernel
        · rw [e3]; decide +kernel
        · rw [e4]; decide +kernel
        · rw [e5]; decide +kernel
        · rw [e6]; decide +kernel
      · simp [pfd, e0, e1, e2, e3, e4, e5, e6]
    · refine ⟨in_a144 h 1 (by decide), fun j hj => ?_, ?_⟩
      · have hj0 : j = 0 := by omega
        subst hj0
        rw [in_co h _ (by omega)]
        show in_code.getD 160 0 = tr (A 131 7)
        rw [e7]
        decide +kernel
      · simp [pfd, e7]
    · refine ⟨in_a144 h 2 (by decide), fun j hj => ?_, ?_⟩
      · have hj0 : j = 0 := by omega
        subst hj0
        rw [in_co h _ (by omega)]
        show in_code.getD 320 0 = tr (A 131 8)
        rw [e8]
        decide +kernel
      · simp [pfd, e8]
  · exact ⟨fun j hj => in_a145 h j hj, fun j hj => in_a146 h j hj⟩
