/-! TEXT: the class makes a text: the heap with other cells behind it. -/
def xhr (A : Nat → Nat → Int32) (V : Nat → Nat → Int32) (R : Nat → Option Nat) (tl : xq_H) (cu : Value) : xq_H :=
  .inr (8, [.ref 65, .ref 72, .ref 73, .ref 77, .ref 81, .ref 84, .ref 95, .ref 98, .ref 99, .ref 100, .ref 101, .ref 114, .ref 115, .int (V 64 13), .int (V 64 14), .int (V 64 15), .int (V 64 16)]) ::
  .inr (2, [.ref 66, .ref 67, .ref 68, .int (V 65 3), .ref 69, .ref 70, .ref 71, .int (V 65 7)]) ::
  .inl (0, 5, .inl (A 66)) ::
  .inl (0, 5, .inl (A 67)) ::
  .inl (0, 5, .inl (A 68)) ::
  .inl (0, 6, .inl (A 69)) ::
  .inl (0, 4, .inl (A 70)) ::
  .inl (0, 4, .inl (A 71)) ::
  .inl (0, 6, .inl (A 72)) ::
  .inr (1, [.ref 74, .ref 75, .ref 76]) ::
  .inl (0, 6, .inl (A 74)) ::
  .inl (0, 6, .inl (A 75)) ::
  .inl (0, 6, .inl (A 76)) ::
  .inr (1, [.ref 78, .ref 79, .ref 80]) ::
  .inl (0, 6, .inl (A 78)) ::
  .inl (0, 6, .inl (A 79)) ::
  .inl (0, 6, .inl (A 80)) ::
  .inr (6, [.ref 65, .ref 72, .ref 82, .ref 83, cu, .int (V 81 5)]) ::
  .inl (0, 40, .inl (A 82)) ::
  .inl (0, 6, .inl (A 83)) ::
  .inr (3, [.int (V 84 0), .int (V 84 1), .ref 65, .ref 81, .ref 73, .ref 85, .ref 89, .ref 90, .ref 91, .ref 92, .ref 93, .int (V 84 11), .ref 94, .int (V 84 13), .int (V 84 14)]) ::
  .inr (1, [.ref 86, .ref 87, .ref 88]) ::
  .inl (0, 6, .inl (A 86)) ::
  .inl (0, 6, .inl (A 87)) ::
  .inl (0, 6, .inl (A 88)) ::
  .inl (0, 243, .inl (A 89)) ::
  .inl (0, 243, .inl (A 90)) ::
  .inl (0, 243, .inl (A 91)) ::
  .inl (0, 243, .inl (A 92)) ::
  .inl (0, 243, .inl (A 93)) ::
  .inl (0, 216, .inl (A 94)) ::
  .inr (4, [.ref 96, .int (V 95 1), .int (V 95 2), .ref 97, .int (V 95 4), .int (V 95 5), .int (V 95 6), .int (V 95 7), .int (V 95 8)]) ::
  .inl (0, 160, .inl (A 96)) ::
  .inl (0, 160, .inl (A 97)) ::
  .inl (5, 6, .inr R) ::
  .inl (0, 4, .inl (A 99)) ::
  .inl (0, 4, .inl (A 100)) ::
  .inl (3, 12, .inr (fun i => if i < 12 then some (102 + i) else none)) ::
  .inl (0, 7, .inl (A 102)) ::
  .inl (0, 7, .inl (A 103)) ::
  .inl (0, 7, .inl (A 104)) ::
  .inl (0, 7, .inl (A 105)) ::
  .inl (0, 7, .inl (A 106)) ::
  .inl (0, 7, .inl (A 107)) ::
  .inl (0, 7, .inl (A 108)) ::
  .inl (0, 7, .inl (A 109)) ::
  .inl (0, 7, .inl (A 110)) ::
  .inl (0, 7, .inl (A 111)) ::
  .inl (0, 7, .inl (A 112)) ::
  .inl (0, 7, .inl (A 113)) ::
  .inl (4, 4, .inr xh_sh) ::
  .inr (0, [.ref 116, .ref 120, .ref 121, .int (V 115 3), .int (V 115 4), .int (V 115 5), .int (V 115 6)]) ::
  .inr (1, [.ref 117, .ref 118, .ref 119]) ::
  .inl (0, 6, .inl (A 117)) ::
  .inl (0, 6, .inl (A 118)) ::
  .inl (0, 6, .inl (A 119)) ::
  .inl (0, 4, .inl (A 120)) ::
  .inl (0, 4, .inl (A 121)) ::
  .inr (5, [.ref 123, .int (V 122 1), .int (V 122 2)]) ::
  .inl (0, 40, .inl (A 123)) ::
  .inr (5, [.ref 125, .int (V 124 1), .int (V 124 2)]) ::
  .inl (0, 40, .inl (A 125)) ::
  .inr (5, [.ref 127, .int (V 126 1), .int (V 126 2)]) ::
  .inl (0, 40, .inl (A 127)) ::
  .inr (5, [.ref 129, .int (V 128 1), .int (V 128 2)]) ::
  .inl (0, 40, .inl (A 129)) ::
  .inr (7, [.ref 131, .int 7, .int 8]) ::
  .inl (0, 9, .inl (A 131)) ::
  .inr (9, [.ref 133, .ref 134, .int (V 132 2), .ref 135, .int (V 132 4), .ref 136, .ref 137, .ref 138, .ref 139, .int (V 132 9), .ref 140, .ref 141, .ref 142, .ref 143, .int (V 132 14), .int (V 132 15), .int (V 132 16), .ref 144, .ref 145, .int (V 132 19), .int (V 132 20), .int (V 132 21), .int (V 132 22), .ref 146, .ref 147, .ref 148, .int (V 132 26), .int (V 132 27), .int (V 132 28), .ref 149, .int (V 132 30), .int (V 132 31), .ref 150, .ref 151, .ref 152, .int (V 132 35), .int (V 132 36), .ref 153, .ref 154, .ref 155, .ref 156, .int (V 132 41), .int (V 132 42), .int (V 132 43), .ref 157, .ref 158, .ref 159, .int (V 132 47), .int (V 132 48), .int (V 132 49), .int (V 132 50), .ref 160, .ref 161, .ref 162, .ref 163]) ::
  .inl (0, 16, .inl (A 133)) ::
  .inl (0, 4, .inl (A 134)) ::
  .inl (0, 6, .inl (A 135)) ::
  .inl (0, 5, .inl (A 136)) ::
  .inl (0, 5, .inl (A 137)) ::
  .inl (0, 5, .inl (A 138)) ::
  .inl (0, 30, .inl (A 139)) ::
  .inl (0, 12, .inl (A 140)) ::
  .inl (0, 12, .inl (A 141)) ::
  .inl (0, 60, .inl (A 142)) ::
  .inl (0, 160, .inl (A 143)) ::
  .inl (0, 2880, .inl (A 144)) ::
  .inl (0, 18, .inl (A 145)) ::
  .inl (2, 45, .inl (A 146)) ::
  .inl (0, 13, .inl (A 147)) ::
  .inl (0, 170, .inl (A 148)) ::
  .inl (1, 8, .inl (A 149)) ::
  .inl (0, 170, .inl (A 150)) ::
  .inl (0, 6, .inl (A 151)) ::
  .inl (0, 5, .inl (A 152)) ::
  .inl (0, 30, .inl (A 153)) ::
  .inl (0, 1024, .inl (A 154)) ::
  .inl (0, 1024, .inl (A 155)) ::
  .inl (0, 1024, .inl (A 156)) ::
  .inl (0, 16, .inl (A 157)) ::
  .inl (0, 4, .inl (A 158)) ::
  .inl (0, 30, .inl (A 159)) ::
  .inl (0, 4, .inl (A 160)) ::
  .inl (0, 4, .inl (A 161)) ::
  .inl (0, 160, .inl (A 162)) ::
  .inl (0, 40, .inl (A 163)) :: tl
theorem xhr_xh (A V : xM) (tx : List xh_T) (cu : Value) : xh A V tx cu = xhr A V (xh_tr tx.length) (xh_tx 164 tx) cu := rfl
theorem xhr_app (A V : xM) (R : Nat → Option Nat) (tl E : xq_H) (cu : Value) : xhr A V R tl cu ++ E = xhr A V R (tl ++ E) cu := rfl
theorem xhr_len0 (A V : xM) (R : Nat → Option Nat) (cu : Value) : (xhr A V R [] cu).length = 100 := rfl
theorem xhr_len (A V : xM) (R : Nat → Option Nat) (tl : xq_H) (cu : Value) : (xhr A V R tl cu).length = 100 + tl.length := by
  rw [← List.nil_append tl, ← xhr_app, List.length_append, xhr_len0, List.nil_append]
theorem xhr_at (A V : xM) (R : Nat → Option Nat) (tl : xq_H) (cu : Value) (i : Nat) : (xhr A V R tl cu)[100 + i]? = tl[i]? := by
  rw [← List.nil_append tl, ← xhr_app, List.getElem?_append_right (by rw [xhr_len0]; omega), xhr_len0, List.nil_append, Nat.add_sub_cancel_left]
theorem xhr_set (A V : xM) (R : Nat → Option Nat) (tl : xq_H) (cu : Value) (i : Nat) (x : xq_C) : (xhr A V R tl cu).set (100 + i) x = xhr A V R (tl.set i x) cu := by
  have e : xhr A V R tl cu = xhr A V R [] cu ++ tl := by rw [xhr_app, List.nil_append]
  rw [e, List.set_append_right _ _ (by rw [xhr_len0]; omega), xhr_len0, Nat.add_sub_cancel_left, xhr_app, List.nil_append]
theorem tx_app : ∀ (tx : List xh_T) (a n : Nat) (f : Nat → Int32) (l w : Int32), xh_tx a (tx ++ [(n, f, l, w)]) = xh_tx a tx ++ [.inr (7, [.ref (a + 2 * tx.length + 1), .int l, .int w]), .inl (0, n, .inl f)]
  | [], a, n, f, l, w => rfl
  | (n0, f0, l0, w0) :: t, a, n, f, l, w => by
    have ih := tx_app t (a + 2) n f l w
    rw [List.cons_append, xh_tx, xh_tx, ih, List.length_cons, show a + 2 + 2 * t.length + 1 = a + 2 * (t.length + 1) + 1 by omega]
    rfl
theorem tx_len : ∀ (tx : List xh_T) (a : Nat), (xh_tx a tx).length = 2 * tx.length
  | [], a => rfl
  | (n0, f0, l0, w0) :: t, a => by
    rw [xh_tx, List.length_cons, List.length_cons, tx_len t (a + 2), List.length_cons]
    omega
section SH
variable {ro : Nat → Option xq_C} {d pc : Nat} {co : Nat → Option xq_I} {L : List (Option Value)} {t : List Value} {h : xq_H} {Q : Option Value → xq_H → Prop} {ln a b e pl idx : Nat} {v : Value}
theorem sh_newo {st : List Value} (hI : co pc = some (.new idx, ln, a, b, e, pl, v)) (k : xw ro d co (pc + 3) L (.ref (64 + h.length) :: st) (h ++ [.inr (a, xq_df a)]) Q) : xw ro d co pc L st h Q := xw_step hI (fun F => rfl) k
theorem sh_newi {n : Int32} {ty : ClassFile.ArrayType} (hc : (!decide (n < 0) && Nat.ble n.toNatClampNeg 100000) = true) (hI : co pc = some (.newarray ty, ln, a, b, e, pl, v)) (k : xw ro d co (pc + 2) L (.ref (64 + h.length) :: t) (h ++ [.inl (a, n.toNatClampNeg, .inl (fun _ => 0))]) Q) : xw ro d co pc L (.int n :: t) h Q := by
  refine xw_step hI (fun F => ?_) k
  show xq_newi a pc L (.int n :: t) h = _
  unfold xq_newi
  dsimp only
  rw [hc]
  rfl
theorem sh_alen {r n : Nat} {f : Nat → Int32} (h1 : 64 ≤ r) (h2 : h[r - 64]? = some (.inl (0, n, .inl f))) (hI : co pc = some (.arraylength, ln, a, b, e, pl, v)) (k : xw ro d co (pc + 1) L (.int (Int32.ofNat n) :: t) h Q) : xw ro d co pc L (.ref r :: t) h Q := by
  refine xw_step hI (fun F => ?_) k
  show xq_alen ro pc L (.ref r :: t) h = _
  unfold xq_alen xq_at
  dsimp only
  rw [blt_f h1, cond_false, h2]
  rfl
theorem sh_min {x y : Int32} (hl : y < x) (hs : Nat.ble (xq_sum t) 8 = true) (hI : co pc = some (.invokestatic idx, ln, 0, b, 3, pl, v)) (k : xw ro d co (pc + 3) L (.int y :: t) h Q) : xw ro d co pc L (.int y :: .int x :: t) h Q := by
  refine xw_step hI (fun F => ?_) k
  show xq_min 0 pc L (.int y :: .int x :: t) h = _
  unfold xq_min xq_mm
  dsimp only
  rw [hs, decide_eq_true hl]
  rfl
theorem sh_cpy {r q n0 n1 : Nat} {f g : Nat → Int32} {sp dp n : Int32} (h1 : 64 ≤ r) (h2 : h[r - 64]? = some (.inl (0, n0, .inl f))) (h3 : 64 ≤ q) (h4 : h[q - 64]? = some (.inl (0, n1, .inl g))) (hc : (!decide (sp < 0) && !decide (dp < 0) && !decide (n < 0) && Nat.ble (sp.toNatClampNeg + n.toNatClampNeg) n0 && Nat.ble (dp.toNatClampNeg + n.toNatClampNeg) n1) = true) (hs : Nat.ble (xq_sum t) 8 = true) (hI : co pc = some (.invokestatic idx, ln, a, b, 2, pl, v)) (k : xw ro d co (pc + 3) L t (h.set (q - 64) (.inl (0, n1, .inl (va_cpy f g sp.toNatClampNeg dp.toNatClampNeg n.toNatClampNeg)))) Q) : xw ro d co pc L (.int n :: .int dp :: .ref q :: .int sp :: .ref r :: t) h Q := by
  refine xw_step hI (fun F => ?_) k
  show xq_copy pc L (.int n :: .int dp :: .ref q :: .int sp :: .ref r :: t) h = _
  unfold xq_copy
  dsimp only
  rw [blt_f h1, blt_f h3, h2, h4]
  simp only [Bool.or_false, cond_false]
  rw [hc, hs]
  rfl
theorem sh_put {r ci k ty : Nat} {fs : List Value} {x : Value} (h1 : 64 ≤ r) (h2 : h[r - 64]? = some (.inr (ci, fs))) (hk : k < fs.length) (hf : xq_fit ty x = true) (hI : co pc = some (.putfield idx, ln, ci, k, ty, pl, v)) (kk : xw ro d co (pc + 3) L t (h.set (r - 64) (.inr (ci, fs.set k x))) Q) : xw ro d co pc L (x :: .ref r :: t) h Q := by
  refine xw_step hI (fun F => ?_) kk
  show xq_put ci k ty pc L (x :: .ref r :: t) h = _
  unfold xq_put
  dsimp only
  rw [blt_f h1, cond_false, h2]
  dsimp only
  rw [show Nat.beq ci ci = true from Nat.beq_eq.mpr rfl, show Nat.blt k fs.length = true from Nat.blt_eq.mpr hk, hf]
  rfl
theorem sh_aast {r q n : Nat} {i : Int32} {f : Nat → Option Nat} {fs : List Value} (h1 : 64 ≤ r) (h2 : h[r - 64]? = some (.inl (5, n, .inr f))) (h3 : 64 ≤ q) (h4 : h[q - 64]? = some (.inr (7, fs))) (hi : xq_in i n = true) (hI : co pc = some (.aastore, ln, a, b, e, pl, v)) (k : xw ro d co (pc + 1) L t (h.set (r - 64) (.inl (5, n, .inr (va_up f i.toNatClampNeg (some q))))) Q) : xw ro d co pc L (.ref q :: .int i :: .ref r :: t) h Q := by
  refine xw_step hI (fun F => ?_) k
  show xq_astr pc L (.ref q :: .int i :: .ref r :: t) h = _
  unfold xq_astr
  dsimp only
  rw [blt_f h1, blt_f h3, h2, h4]
  simp only [Bool.or_false, cond_false]
  rw [hi]
  rfl
end SH
section SC
variable {ro : Nat → Option xq_C} {d : Nat} {h : xq_H}
/-- Arrays.copyOf, of fewer than there are -/
theorem s_copyOf {f : Nat → Int32} {m : Nat} (hm : m < 160) (h2 : h[33]? = some (.inl (0, 160, .inl f))) : xe ro (d + 1) 218 [.ref 97, .int (nI m)] h (fun r h' => r = some (.ref (64 + h.length)) ∧ h' = h ++ [.inl (0, m, .inl (va_cpy f (fun _ => 0) 0 0 m))]) := by
  have hl : 33 < h.length := by
    rcases Nat.lt_or_ge 33 h.length with q | q
    · exact q
    · rw [List.getElem?_eq_none q] at h2; cases h2
  have e160 : Int32.ofNat 160 = nI 160 := rfl
  refine xe_of (co := xk_218) (nl := 3) rfl rfl rfl ?_
  refine xw_me 2 [] rfl trivial ?_
  refine sh_alen (n := 160) (f := f) (by decide) h2 rfl ?_
  refine xw_me 2 [1] rfl ⟨nt (fun z => by rw [e160] at z; have := (nI_eq (by omega) (by omega)).mp z; omega), trivial⟩ ?_
  refine sh_newi (by rw [decide_eq_false (nI_pos (by omega)), tC (by omega), Nat.ble_eq.mpr (show m ≤ 100000 by omega)]; rfl) rfl ?_
  rw [tC (show m < 2 ^ 20 by omega)]
  refine xw_me 6 [] rfl trivial ?_
  refine sh_alen (n := 160) (f := f) (by decide) (by rw [List.getElem?_append_left hl]; exact h2) rfl ?_
  refine xw_me 1 [] rfl trivial ?_
  refine sh_min (by rw [e160]; simp (disch := omega) only [ltI, leI, eqI, tI, tI1, ti_0, ti_1, ti_2, ti_3, ti_4, ti_5, ti_6, ti_7, ti_8, ti_9, ti_10, ti_11, ti_12, ti_14, ti_18, ti_30, ti_39, ti_40, ti_41, ti_45, ti_50, ti_59, ti_97, ti_99, ti_100, ti_122, ti_160, ti_243, ti_255, ti_399, ti_999, ti_1000, ti_1024, ti_99999, tm_1, tm_2, tm_3, tm_4, tm_5, tm_7, tm_11, tm_12, tm_13, tm_14, tm_100, if_pos, if_neg, if_true, if_false, bC_in, bI_s, bS_s, bX_s, bY_s, sO, tC]; omega) rfl rfl ?_
  refine sh_cpy (n0 := 160) (n1 := m) (f := f) (g := fun _ => 0) (by decide) (by rw [List.getElem?_append_left hl]; exact h2) (by omega) (by rw [Nat.add_sub_cancel_left, List.getElem?_append_right (Nat.le_refl _), Nat.sub_self]; rfl) ?_ rfl rfl ?_
  · rw [decide_eq_false (nI_pos (by omega)), tC (by omega)]
    have h1 : Nat.ble ((0 : Int32).toNatClampNeg + m) 160 = true := Nat.ble_eq.mpr (by show 0 + m ≤ 160; omega)
    have h2 : Nat.ble ((0 : Int32).toNatClampNeg + m) m = true := Nat.ble_eq.mpr (by show 0 + m ≤ m; omega)
    rw [h1, h2]
    rfl
  · rw [Nat.add_sub_cancel_left, List.set_append_right _ _ (Nat.le_refl _), Nat.sub_self, tC (show m < 2 ^ 20 by omega)]
    exact xw_mr 2 [] rfl trivial ⟨rfl, rfl⟩
/-- a Text gets its fields -/
theorem s_newText {r1 r2 : Nat} {l w : Int32} {x y z : Value} (h1 : 64 ≤ r1) (h2 : h[r1 - 64]? = some (.inr (7, [x, y, z]))) : xe ro (d + 1) 67 [.ref r1, .ref r2, .int l, .int w] h (fun r h' => r = none ∧ h' = h.set (r1 - 64) (.inr (7, [.ref r2, .int l, .int w]))) := by
  have hl : r1 - 64 < h.length := by
    rcases Nat.lt_or_ge (r1 - 64) h.length with q | q
    · exact q
    · rw [List.getElem?_eq_none q] at h2; cases h2
  refine xe_of (co := xk_67) (nl := 4) rfl rfl rfl ?_
  refine xw_me 4 [] rfl trivial ?_
  refine sh_put (ci := 7) (k := 0) (ty := 2) (fs := [x, y, z]) h1 h2 (by show 0 < 3; decide) rfl rfl ?_
  refine xw_me 2 [] rfl trivial ?_
  refine sh_put (ci := 7) (k := 1) (ty := 0) (fs := [.ref r2, y, z]) h1 (by rw [List.getElem?_set_self hl]; rfl) (by show 1 < 3; decide) rfl rfl ?_
  refine xw_me 2 [] rfl trivial ?_
  refine sh_put (ci := 7) (k := 2) (ty := 0) (fs := [.ref r2, .int l, z]) h1 (by rw [List.getElem?_set_self (by rw [List.length_set]; exact hl)]; rfl) (by show 2 < 3; decide) rfl rfl ?_
  rw [List.set_set, List.set_set]
  exact xw_mr 1 [] rfl trivial ⟨rfl, rfl⟩
end SC
