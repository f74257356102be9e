/-! TEXT: both tapes give one stream; what holds when a text was read. -/
section SQ
variable {t t' : Nat → Int32} {n : Nat} {q : Int32 → Bool}
theorem run_c (h : ∀ j, j < n → t j = t' j) : ∀ k b, run q t n k b = run q t' n k b
  | 0, b => rfl
  | k + 1, b => by
    rw [run, run]
    by_cases z : b < n
    · rw [h b z, run_c h k (b + 1)]
    · rw [if_neg (fun y => z y.1), if_neg (fun y => z y.1)]
theorem rn_c (h : ∀ j, j < n → t j = t' j) (b : Nat) : rn q t n b = rn q t' n b := run_c h _ _
theorem am_c {a w : Nat} : ∀ k i, (∀ j, i ≤ j → j < i + k → t (a + j) = t' (a + j)) → am t a w k i = am t' a w k i
  | 0, i, _ => rfl
  | k + 1, i, h => by
    rw [am, am, h i (Nat.le_refl _) (by omega), am_c k (i + 1) (fun j h1 h2 => h j (by omega) (by omega))]
theorem mt_c {a len w : Nat} (h : ∀ j, j < len → t (a + j) = t' (a + j)) : mt t a len w = mt t' a len w := by
  unfold mt
  by_cases z : len = (wd w).length
  · rw [am_c (wd w).length 0 (fun j _ h2 => h j (by omega))]
  · rw [beq_eq_false_iff_ne.mpr z, Bool.false_and, Bool.false_and]
theorem ww_c {a len : Nat} (h : ∀ j, j < len → t (a + j) = t' (a + j)) : ∀ k, ww t a len k = ww t' a len k
  | 0 => rfl
  | k + 1 => by rw [ww, ww, mt_c h, ww_c h k]
theorem dv_c {a : Nat} : ∀ k, (∀ j, j < k → t (a + j) = t' (a + j)) → dv t a k = dv t' a k
  | 0, _ => rfl
  | k + 1, h => by rw [dv, dv, dv_c k (fun j hj => h j (by omega)), h k (by omega)]
theorem tk_c (h : ∀ j, j < n → t j = t' j) {b : Nat} (hb : b ≤ n) : tkS t n b = tkS t' n b ∧ tkE t n b = tkE t' n b ∧ tkK t n b = tkK t' n b ∧ (tkK t n b ≠ 5 → tkV t n b = tkV t' n b) := by
  have e1 : tkS t n b = tkS t' n b := rn_c h b
  obtain ⟨s1, s2⟩ := tkS_b (t := t) hb
  obtain ⟨-, s3, -⟩ := tkE_b (t := t) hb
  obtain ⟨sp, hsp⟩ : ∃ sp, sp = tkS t n b := ⟨_, rfl⟩
  have e2 : tkE t n b = tkE t' n b := by
    unfold tkE
    rw [← e1, ← hsp]
    by_cases z : n ≤ sp
    · rw [if_pos z, if_pos z]
    · rw [if_neg z, if_neg z, h sp (by omega), rn_c h, rn_c h]
  have e3 : tkW t n b = tkW t' n b := by
    unfold tkW
    rw [← e1, ← e2]
    exact ww_c (fun j hj => h _ (by omega)) 12
  refine ⟨e1, e2, ?_, fun z => ?_⟩
  · unfold tkK
    rw [← e1, ← e2, ← e3, ← hsp]
    by_cases z : n ≤ sp
    · rw [if_pos z, if_pos z]
    · rw [if_neg z, if_neg z, h sp (by omega)]
  · have hlt : sp < n := by
      rcases Nat.lt_or_ge sp n with y | y
      · exact y
      · unfold tkK at z
        rw [← hsp, if_pos y] at z
        exact absurd rfl z
    unfold tkV
    rw [← e1, ← e2, ← e3, ← hsp, h sp hlt, dv_c (tkE t n b - sp) (fun j hj => h _ (by omega))]
theorem ps_c (h : ∀ j, j < n → t j = t' j) : ∀ k, ps t n k = ps t' n k
  | 0 => rfl
  | k + 1 => by
    rw [ps, ps, ← ps_c h k]
    exact (tk_c h (ps_le k)).2.1
theorem st_c (h : ∀ j, j < n → t j = t' j) (k : Nat) : tK t n k = tK t' n k ∧ tS t n k = tS t' n k ∧ cC t n k = cC t' n k ∧ (cC t n k = 2 → tV t n k = tV t' n k) := by
  obtain ⟨a1, a2, a3, a4⟩ := tk_c h (ps_le (t := t) (n := n) k)
  have e1 : tK t n k = tK t' n k := by unfold tK; rw [← ps_c h k]; exact a3
  have e2 : tS t n k = tS t' n k := by unfold tS; rw [← ps_c h k]; exact a1
  have e3 : tK t n k ≠ 5 → tV t n k = tV t' n k := fun z => by unfold tV; rw [← ps_c h k]; exact a4 z
  refine ⟨e1, e2, ?_, fun z => e3 (fun y => ?_)⟩
  · unfold cC
    by_cases z : tK t n k = 5
    · have h5 : ∀ v : Int32, ctk 5 v = 1 := fun v => by unfold ctk; simp
      rw [← e1, z, h5, h5]
    · rw [← e1, e3 z]
  · rw [cC_2 z] at y
    omega
end SQ
section SP
variable {c v v' : Nat → Int32}
theorem pP_c (h : ∀ k, c k = 2 → v k = v' k) : ∀ n, pP c v n = pP c v' n
  | 0 => by funext j o k; rw [pP, pP]
  | n + 1 => by
    funext j o k
    rw [pP, pP, pP_c h n]
    by_cases z : c k = 2
    · rw [h k z]
    · simp only [if_neg z]
theorem pQ_c (h : ∀ k, c k = 2 → v k = v' k) (p : Nat) : pQ c v p = pQ c v' p := by
  funext k
  unfold pQ pE
  rw [pP_c h 45]
theorem tF_c (h : ∀ k, c k = 2 → v k = v' k) {k : Nat} (hf : tF c v k) : tF c v' k := by
  unfold tF at hf ⊢
  rw [pQ_c h 0, pQ_c h 1, pQ_c h 2] at hf
  exact hf
theorem tG_c (h : ∀ k, c k = 2 → v k = v' k) {l1 l2 l3 : List Int32} (hf : tG c v l1 l2 l3) : tG c v' l1 l2 l3 := by
  unfold tG at hf ⊢
  rw [pQ_c h 0, pQ_c h 1, pQ_c h 2] at hf
  exact hf
end SP
/-- rows of texts that stay -/
theorem prt_keep {c c' m m' : Nat → Int32} {t0 row a k : Nat} {f : Nat → Int32} (hc : ∀ i, i < 480 * t0 → c' i = c i) (hm : ∀ i, i < 3 * t0 → m' i = m i) (hr : row < 3 * t0) (hk : k ≤ 160) (h : iv_prt c m row f a k) : iv_prt c' m' row f a k := by
  obtain ⟨h1, h2, h3⟩ := h
  exact ⟨by rw [hm _ hr]; exact h1, fun j hj => by rw [hc _ (by omega)]; exact h2 j hj, h3⟩
theorem tx1_keep {c c' m m' : Nat → Int32} {t0 t n : Nat} {f : Nat → Int32} {l w : Int32} (hc : ∀ i, i < 480 * t0 → c' i = c i) (hm : ∀ i, i < 3 * t0 → m' i = m i) (ht : t < t0) (h : iv_tx1 c m t n f l w) : iv_tx1 c' m' t n f l w := by
  obtain ⟨l', w', e1, e2, e3, e4, e5, p1, p2, p3⟩ := h
  exact ⟨l', w', e1, e2, e3, e4, e5, prt_keep hc hm (by omega) (by omega) p1, prt_keep hc hm (by omega) (by omega) p2, prt_keep hc hm (by omega) (by omega) p3⟩
theorem iv_made {N : Nat → Nat} {B : Nat → Nat → Nat} {A V A' V' : xM} {tx tx' : List xh_T} {cu cu' : Value} (hv : iv N B A V tx cu) (hA : ∀ a, a ≠ 97 → a ≠ 144 → a ≠ 145 → a ≠ 148 → a ≠ 149 → A' a = A a) (hV : ∀ a j, a ≠ 95 → ¬ (a = 64 ∧ j = 15) → ¬ (a = 132 ∧ (j = 14 ∨ j = 15 ∨ j = 19 ∨ j = 20 ∨ j = 21 ∨ j = 22 ∨ j = 26 ∨ j = 27 ∨ j = 28 ∨ j = 30 ∨ j = 31)) → V' a j = V a j) (t1 : V' 64 15 = nI (tx'.length + 1)) (t2 : V' 132 15 = nI (tx'.length + 1)) (t3 : tx'.length ≤ 5) (tl : tx.length ≤ tx'.length) (z1 : V' 95 1 = 0) (z2 : V' 132 14 = 0) (n_text : iv_text N B A' V' tx' cu') : iv (va_up N 4 0) B A' V' tx' cu' := by
  have a66 : A' 66 = A 66 := hA 66 (by decide) (by decide) (by decide) (by decide) (by decide)
  have a67 : A' 67 = A 67 := hA 67 (by decide) (by decide) (by decide) (by decide) (by decide)
  have a68 : A' 68 = A 68 := hA 68 (by decide) (by decide) (by decide) (by decide) (by decide)
  have a69 : A' 69 = A 69 := hA 69 (by decide) (by decide) (by decide) (by decide) (by decide)
  have a70 : A' 70 = A 70 := hA 70 (by decide) (by decide) (by decide) (by decide) (by decide)
  have a71 : A' 71 = A 71 := hA 71 (by decide) (by decide) (by decide) (by decide) (by decide)
  have a72 : A' 72 = A 72 := hA 72 (by decide) (by decide) (by decide) (by decide) (by decide)
  have a74 : A' 74 = A 74 := hA 74 (by decide) (by decide) (by decide) (by decide) (by decide)
  have a75 : A' 75 = A 75 := hA 75 (by decide) (by decide) (by decide) (by decide) (by decide)
  have a76 : A' 76 = A 76 := hA 76 (by decide) (by decide) (by decide) (by decide) (by decide)
  have a98 : A' 99 = A 99 := hA 99 (by decide) (by decide) (by decide) (by decide) (by decide)
  have a99 : A' 100 = A 100 := hA 100 (by decide) (by decide) (by decide) (by decide) (by decide)
  have a101 : A' 102 = A 102 := hA 102 (by decide) (by decide) (by decide) (by decide) (by decide)
  have a102 : A' 103 = A 103 := hA 103 (by decide) (by decide) (by decide) (by decide) (by decide)
  have a103 : A' 104 = A 104 := hA 104 (by decide) (by decide) (by decide) (by decide) (by decide)
  have a104 : A' 105 = A 105 := hA 105 (by decide) (by decide) (by decide) (by decide) (by decide)
  have a105 : A' 106 = A 106 := hA 106 (by decide) (by decide) (by decide) (by decide) (by decide)
  have a106 : A' 107 = A 107 := hA 107 (by decide) (by decide) (by decide) (by decide) (by decide)
  have a107 : A' 108 = A 108 := hA 108 (by decide) (by decide) (by decide) (by decide) (by decide)
  have a108 : A' 109 = A 109 := hA 109 (by decide) (by decide) (by decide) (by decide) (by decide)
  have a109 : A' 110 = A 110 := hA 110 (by decide) (by decide) (by decide) (by decide) (by decide)
  have a110 : A' 111 = A 111 := hA 111 (by decide) (by decide) (by decide) (by decide) (by decide)
  have a111 : A' 112 = A 112 := hA 112 (by decide) (by decide) (by decide) (by decide) (by decide)
  have a112 : A' 113 = A 113 := hA 113 (by decide) (by decide) (by decide) (by decide) (by decide)
  have a116 : A' 117 = A 117 := hA 117 (by decide) (by decide) (by decide) (by decide) (by decide)
  have a117 : A' 118 = A 118 := hA 118 (by decide) (by decide) (by decide) (by decide) (by decide)
  have a118 : A' 119 = A 119 := hA 119 (by decide) (by decide) (by decide) (by decide) (by decide)
  have a119 : A' 120 = A 120 := hA 120 (by decide) (by decide) (by decide) (by decide) (by decide)
  have a120 : A' 121 = A 121 := hA 121 (by decide) (by decide) (by decide) (by decide) (by decide)
  have a122 : A' 123 = A 123 := hA 123 (by decide) (by decide) (by decide) (by decide) (by decide)
  have a124 : A' 125 = A 125 := hA 125 (by decide) (by decide) (by decide) (by decide) (by decide)
  have a126 : A' 127 = A 127 := hA 127 (by decide) (by decide) (by decide) (by decide) (by decide)
  have a128 : A' 129 = A 129 := hA 129 (by decide) (by decide) (by decide) (by decide) (by decide)
  have a130 : A' 131 = A 131 := hA 131 (by decide) (by decide) (by decide) (by decide) (by decide)
  have a132 : A' 133 = A 133 := hA 133 (by decide) (by decide) (by decide) (by decide) (by decide)
  have a133 : A' 134 = A 134 := hA 134 (by decide) (by decide) (by decide) (by decide) (by decide)
  have a134 : A' 135 = A 135 := hA 135 (by decide) (by decide) (by decide) (by decide) (by decide)
  have a135 : A' 136 = A 136 := hA 136 (by decide) (by decide) (by decide) (by decide) (by decide)
  have a136 : A' 137 = A 137 := hA 137 (by decide) (by decide) (by decide) (by decide) (by decide)
  have a137 : A' 138 = A 138 := hA 138 (by decide) (by decide) (by decide) (by decide) (by decide)
  have a138 : A' 139 = A 139 := hA 139 (by decide) (by decide) (by decide) (by decide) (by decide)
  have a139 : A' 140 = A 140 := hA 140 (by decide) (by decide) (by decide) (by decide) (by decide)
  have a140 : A' 141 = A 141 := hA 141 (by decide) (by decide) (by decide) (by decide) (by decide)
  have a141 : A' 142 = A 142 := hA 142 (by decide) (by decide) (by decide) (by decide) (by decide)
  have a145 : A' 146 = A 146 := hA 146 (by decide) (by decide) (by decide) (by decide) (by decide)
  have a146 : A' 147 = A 147 := hA 147 (by decide) (by decide) (by decide) (by decide) (by decide)
  have a156 : A' 157 = A 157 := hA 157 (by decide) (by decide) (by decide) (by decide) (by decide)
  have a157 : A' 158 = A 158 := hA 158 (by decide) (by decide) (by decide) (by decide) (by decide)
  have a158 : A' 159 = A 159 := hA 159 (by decide) (by decide) (by decide) (by decide) (by decide)
  have a159 : A' 160 = A 160 := hA 160 (by decide) (by decide) (by decide) (by decide) (by decide)
  have a160 : A' 161 = A 161 := hA 161 (by decide) (by decide) (by decide) (by decide) (by decide)
  have a161 : A' 162 = A 162 := hA 162 (by decide) (by decide) (by decide) (by decide) (by decide)
  have v64_13 : V' 64 13 = V 64 13 := hV 64 13 (by decide) (by omega) (by omega)
  have v64_14 : V' 64 14 = V 64 14 := hV 64 14 (by decide) (by omega) (by omega)
  have v64_16 : V' 64 16 = V 64 16 := hV 64 16 (by decide) (by omega) (by omega)
  have v65_3 : V' 65 3 = V 65 3 := hV 65 3 (by decide) (by omega) (by omega)
  have v65_7 : V' 65 7 = V 65 7 := hV 65 7 (by decide) (by omega) (by omega)
  have v114_3 : V' 115 3 = V 115 3 := hV 115 3 (by decide) (by omega) (by omega)
  have v114_4 : V' 115 4 = V 115 4 := hV 115 4 (by decide) (by omega) (by omega)
  have v114_5 : V' 115 5 = V 115 5 := hV 115 5 (by decide) (by omega) (by omega)
  have v114_6 : V' 115 6 = V 115 6 := hV 115 6 (by decide) (by omega) (by omega)
  have v131_2 : V' 132 2 = V 132 2 := hV 132 2 (by decide) (by omega) (by omega)
  have v131_4 : V' 132 4 = V 132 4 := hV 132 4 (by decide) (by omega) (by omega)
  have v131_9 : V' 132 9 = V 132 9 := hV 132 9 (by decide) (by omega) (by omega)
  have v131_16 : V' 132 16 = V 132 16 := hV 132 16 (by decide) (by omega) (by omega)
  have v131_43 : V' 132 43 = V 132 43 := hV 132 43 (by decide) (by omega) (by omega)
  have v131_47 : V' 132 47 = V 132 47 := hV 132 47 (by decide) (by omega) (by omega)
  have v131_48 : V' 132 48 = V 132 48 := hV 132 48 (by decide) (by omega) (by omega)
  have v131_49 : V' 132 49 = V 132 49 := hV 132 49 (by decide) (by omega) (by omega)
  have v131_50 : V' 132 50 = V 132 50 := hV 132 50 (by decide) (by omega) (by omega)
  have v121 : V' 122 = V 122 := funext (fun k => hV 122 k (by decide) (by omega) (by omega))
  have v123 : V' 124 = V 124 := funext (fun k => hV 124 k (by decide) (by omega) (by omega))
  have v125 : V' 126 = V 126 := funext (fun k => hV 126 k (by decide) (by omega) (by omega))
  have v127 : V' 128 = V 128 := funext (fun k => hV 128 k (by decide) (by omega) (by omega))
  obtain ⟨w1, w2, w3, w4, w5, w6, w7, w8, w9, w10, w11, w12, w13⟩ := hv
  refine ⟨?_, ?_, ?_, ?_, ?_, ?_, ?_, ?_, ?_, ?_, ?_, n_text, ?_⟩
  · obtain ⟨⟨s1, s2, s3⟩, ⟨p1, p2, p3⟩, ⟨e1, e2, e3⟩, -, ⟨l1, l2, l3⟩, -⟩ := w1
    exact ⟨⟨v64_13.trans s1, v131_2.trans s2, s3⟩, ⟨v65_3.trans p1, v131_4.trans p2, p3⟩, ⟨v64_14.trans e1, v131_9.trans e2, e3⟩, ⟨t1, t2, t3⟩, ⟨v64_16.trans l1, v131_16.trans l2, Nat.le_trans l3 tl⟩, ⟨z1, z2, Nat.zero_le _⟩⟩
  · unfold iv_thin at w2 ⊢
    simp only [a66, a67, a68, a69, a70, a71, a72, a74, a75, a76, a98, a99, a101, a102, a103, a104, a105, a106, a107, a108, a109, a110, a111, a112, a116, a117, a118, a119, a120, a122, a124, a126, a128, a130, a132, a133, a134, a135, a136, a137, a138, a139, a140, a141, a145, a146, a156, a157, a158, a159, a160, a161, v64_13, v64_14, v64_16, v65_3, v65_7, v114_3, v114_4, v114_5, v114_6, v131_2, v131_4, v131_9, v131_16, v131_43, v131_47, v131_48, v131_49, v131_50, v121, v123, v125, v127]
    exact w2
  · unfold iv_seat at w3 ⊢
    simp only [a66, a67, a68, a69, a70, a71, a72, a74, a75, a76, a98, a99, a101, a102, a103, a104, a105, a106, a107, a108, a109, a110, a111, a112, a116, a117, a118, a119, a120, a122, a124, a126, a128, a130, a132, a133, a134, a135, a136, a137, a138, a139, a140, a141, a145, a146, a156, a157, a158, a159, a160, a161, v64_13, v64_14, v64_16, v65_3, v65_7, v114_3, v114_4, v114_5, v114_6, v131_2, v131_4, v131_9, v131_16, v131_43, v131_47, v131_48, v131_49, v131_50, v121, v123, v125, v127]
    exact w3
  · unfold iv_need at w4 ⊢
    simp only [a66, a67, a68, a69, a70, a71, a72, a74, a75, a76, a98, a99, a101, a102, a103, a104, a105, a106, a107, a108, a109, a110, a111, a112, a116, a117, a118, a119, a120, a122, a124, a126, a128, a130, a132, a133, a134, a135, a136, a137, a138, a139, a140, a141, a145, a146, a156, a157, a158, a159, a160, a161, v64_13, v64_14, v64_16, v65_3, v65_7, v114_3, v114_4, v114_5, v114_6, v131_2, v131_4, v131_9, v131_16, v131_43, v131_47, v131_48, v131_49, v131_50, v121, v123, v125, v127]
    exact w4
  · unfold iv_peop at w5 ⊢
    simp only [a66, a67, a68, a69, a70, a71, a72, a74, a75, a76, a98, a99, a101, a102, a103, a104, a105, a106, a107, a108, a109, a110, a111, a112, a116, a117, a118, a119, a120, a122, a124, a126, a128, a130, a132, a133, a134, a135, a136, a137, a138, a139, a140, a141, a145, a146, a156, a157, a158, a159, a160, a161, v64_13, v64_14, v64_16, v65_3, v65_7, v114_3, v114_4, v114_5, v114_6, v131_2, v131_4, v131_9, v131_16, v131_43, v131_47, v131_48, v131_49, v131_50, v121, v123, v125, v127]
    exact w5
  · unfold iv_cach at w6 ⊢
    simp only [a66, a67, a68, a69, a70, a71, a72, a74, a75, a76, a98, a99, a101, a102, a103, a104, a105, a106, a107, a108, a109, a110, a111, a112, a116, a117, a118, a119, a120, a122, a124, a126, a128, a130, a132, a133, a134, a135, a136, a137, a138, a139, a140, a141, a145, a146, a156, a157, a158, a159, a160, a161, v64_13, v64_14, v64_16, v65_3, v65_7, v114_3, v114_4, v114_5, v114_6, v131_2, v131_4, v131_9, v131_16, v131_43, v131_47, v131_48, v131_49, v131_50, v121, v123, v125, v127]
    exact w6
  · unfold iv_firs at w7 ⊢
    simp only [a66, a67, a68, a69, a70, a71, a72, a74, a75, a76, a98, a99, a101, a102, a103, a104, a105, a106, a107, a108, a109, a110, a111, a112, a116, a117, a118, a119, a120, a122, a124, a126, a128, a130, a132, a133, a134, a135, a136, a137, a138, a139, a140, a141, a145, a146, a156, a157, a158, a159, a160, a161, v64_13, v64_14, v64_16, v65_3, v65_7, v114_3, v114_4, v114_5, v114_6, v131_2, v131_4, v131_9, v131_16, v131_43, v131_47, v131_48, v131_49, v131_50, v121, v123, v125, v127]
    exact w7
  · unfold iv_even at w8 ⊢
    simp only [a66, a67, a68, a69, a70, a71, a72, a74, a75, a76, a98, a99, a101, a102, a103, a104, a105, a106, a107, a108, a109, a110, a111, a112, a116, a117, a118, a119, a120, a122, a124, a126, a128, a130, a132, a133, a134, a135, a136, a137, a138, a139, a140, a141, a145, a146, a156, a157, a158, a159, a160, a161, v64_13, v64_14, v64_16, v65_3, v65_7, v114_3, v114_4, v114_5, v114_6, v131_2, v131_4, v131_9, v131_16, v131_43, v131_47, v131_48, v131_49, v131_50, v121, v123, v125, v127]
    exact w8
  · exact fun j hj => absurd hj (Nat.not_lt_zero _)
  · unfold iv_shee at w10 ⊢
    simp only [a66, a67, a68, a69, a70, a71, a72, a74, a75, a76, a98, a99, a101, a102, a103, a104, a105, a106, a107, a108, a109, a110, a111, a112, a116, a117, a118, a119, a120, a122, a124, a126, a128, a130, a132, a133, a134, a135, a136, a137, a138, a139, a140, a141, a145, a146, a156, a157, a158, a159, a160, a161, v64_13, v64_14, v64_16, v65_3, v65_7, v114_3, v114_4, v114_5, v114_6, v131_2, v131_4, v131_9, v131_16, v131_43, v131_47, v131_48, v131_49, v131_50, v121, v123, v125, v127]
    exact w10
  · unfold iv_imag at w11 ⊢
    simp only [a66, a67, a68, a69, a70, a71, a72, a74, a75, a76, a98, a99, a101, a102, a103, a104, a105, a106, a107, a108, a109, a110, a111, a112, a116, a117, a118, a119, a120, a122, a124, a126, a128, a130, a132, a133, a134, a135, a136, a137, a138, a139, a140, a141, a145, a146, a156, a157, a158, a159, a160, a161, v64_13, v64_14, v64_16, v65_3, v65_7, v114_3, v114_4, v114_5, v114_6, v131_2, v131_4, v131_9, v131_16, v131_43, v131_47, v131_48, v131_49, v131_50, v121, v123, v125, v127]
    obtain ⟨c0, c1⟩ := w11
    refine ⟨c0, ?_⟩
    rcases c1 with c1 | ⟨d1, d2, d3, d4, d5, d6, d7, d8, d9, d10, d11, d12, d13, d14⟩
    · exact Or.inl c1
    · exact Or.inr ⟨d1, d2, d3, d4, d5, d6, d7, d8, d9, d10, d11, d12, d13, Nat.le_trans d14 tl⟩
  · unfold iv_lets at w13 ⊢
    simp only [a66, a67, a68, a69, a70, a71, a72, a74, a75, a76, a98, a99, a101, a102, a103, a104, a105, a106, a107, a108, a109, a110, a111, a112, a116, a117, a118, a119, a120, a122, a124, a126, a128, a130, a132, a133, a134, a135, a136, a137, a138, a139, a140, a141, a145, a146, a156, a157, a158, a159, a160, a161, v64_13, v64_14, v64_16, v65_3, v65_7, v114_3, v114_4, v114_5, v114_6, v131_2, v131_4, v131_9, v131_16, v131_43, v131_47, v131_48, v131_49, v131_50, v121, v123, v125, v127]
    exact w13
