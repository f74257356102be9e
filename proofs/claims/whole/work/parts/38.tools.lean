/-! METHODS AS FUNCTIONS over what the heap holds (A, V, cu), laid by wip/whole/dec.py: f<method>, its loops f<method>_L<place>; s<method>: the small machine does it. -/
abbrev xM : Type := Nat → Nat → Int32
abbrev xS : Type := xM × xM × Value
/-- fuel of every loop -/
def FU : Nat := 5000
def aw (A : xM) (r : Nat) (i x : Int32) : xM := va_up A r (upd (A r) i.toNatClampNeg x)
def ysz (r : Nat) : Nat := match ys_A r with
  | some (_, n) => n
  | none => 0
def bC {α : Type} (c : Bool) (k : Option α) : Option α := bif c then k else none
theorem bC_ok {α : Type} {c : Bool} {k : Option α} {y : α} (e : bC c k = some y) : c = true ∧ k = some y := by
  cases c with
  | true => exact ⟨rfl, e⟩
  | false => cases e
def bI {α β : Type} (x : Option β) (k : β → Option α) : Option α := match x with
  | some v => k v
  | none => none
theorem bI_ok {α β : Type} {x : Option β} {k : β → Option α} {y : α} (e : bI x k = some y) : ∃ v, x = some v ∧ k v = some y := by
  cases x with
  | some v => exact ⟨v, rfl, e⟩
  | none => cases e
def bS {α : Type} (x : Option xS) (k : xM → xM → Value → Option α) : Option α := match x with
  | some (A, V, c) => k A V c
  | none => none
theorem bS_ok {α : Type} {x : Option xS} {k : xM → xM → Value → Option α} {y : α} (e : bS x k = some y) : ∃ A V c, x = some (A, V, c) ∧ k A V c = some y := by
  cases x with
  | some v => exact ⟨v.1, v.2.1, v.2.2, rfl, e⟩
  | none => cases e
def bX {α : Type} (x : Option (Int32 × xS)) (k : Int32 → xM → xM → Value → Option α) : Option α := match x with
  | some (r, A, V, c) => k r A V c
  | none => none
theorem bX_ok {α : Type} {x : Option (Int32 × xS)} {k : Int32 → xM → xM → Value → Option α} {y : α} (e : bX x k = some y) : ∃ r A V c, x = some (r, A, V, c) ∧ k r A V c = some y := by
  cases x with
  | some v => exact ⟨v.1, v.2.1, v.2.2.1, v.2.2.2, rfl, e⟩
  | none => cases e
def bY {α : Type} (x : Option (Int64 × xS)) (k : Int64 → xM → xM → Value → Option α) : Option α := match x with
  | some (r, A, V, c) => k r A V c
  | none => none
theorem bY_ok {α : Type} {x : Option (Int64 × xS)} {k : Int64 → xM → xM → Value → Option α} {y : α} (e : bY x k = some y) : ∃ r A V c, x = some (r, A, V, c) ∧ k r A V c = some y := by
  cases x with
  | some v => exact ⟨v.1, v.2.1, v.2.2.1, v.2.2.2, rfl, e⟩
  | none => cases e
theorem ite_ok {α : Type} {c : Prop} {inst : Decidable c} {a b : Option α} {y : α} (e : (@ite _ c inst a b) = some y) : (c ∧ a = some y) ∨ (¬ c ∧ b = some y) := by
  by_cases h : c
  · rw [if_pos h] at e; exact Or.inl ⟨h, e⟩
  · rw [if_neg h] at e; exact Or.inr ⟨h, e⟩
theorem nt {P : Prop} {inst : Decidable P} (h : ¬ P) : (!decide P) = true := by rw [decide_eq_false h]; rfl
theorem nnt {P : Prop} {inst : Decidable P} (h : P) : (!!decide P) = true := by rw [decide_eq_true h]; rfl
theorem tsw_c {b : Bool} {P : Prop} {inst : Decidable P} (h : ¬ b = true) (k : P) : (!b && decide P) = true := by
  rw [decide_eq_true k]
  cases b with
  | true => exact absurd rfl h
  | false => rfl
abbrev qI (r : Int32) (h : xq_H) : Option Value → xq_H → Prop := fun r' h' => r' = some (.int r) ∧ h' = h
abbrev qL (r : Int64) (h : xq_H) : Option Value → xq_H → Prop := fun r' h' => r' = some (.long r) ∧ h' = h
abbrev qU (h : xq_H) : Option Value → xq_H → Prop := fun r' h' => r' = none ∧ h' = h
def isTd (o : Nat) : Prop := 102 ≤ o ∧ o ≤ 113
def isSh (o : Nat) : Prop := o = 122 ∨ o = 124 ∨ o = 126 ∨ o = 128
def tref : Nat → Nat
  | 0 => 130
  | n + 1 => 164 + 2 * n
theorem xin_lt {i : Int32} {n : Nat} (h : xq_in i n = true) : i.toNatClampNeg < n := by
  unfold xq_in at h
  rw [Bool.and_eq_true] at h
  exact Nat.blt_eq.mp h.2
theorem td_of {i : Int32} (h : xq_in i 12 = true) : isTd (102 + i.toNatClampNeg) := by
  have := xin_lt h
  unfold isTd
  omega
theorem sh_of {i : Int32} (h : xq_in i 4 = true) : isSh (122 + 2 * i.toNatClampNeg) := by
  have := xin_lt h
  unfold isSh
  omega
section ST
variable {ro : Nat → Option xq_C} {d pc o : Nat} {co : Nat → Option xq_I} {L : List (Option Value)} {t : List Value} {A V : xM} {tx : List xh_T} {cu : Value} {Q : Option Value → xq_H → Prop} {i x : Int32} {ln a b e pl idx : Nat} {v : Value}
theorem h_told (ho : isTd o) : 64 ≤ o ∧ (xh A V tx cu)[o - 64]? = some (.inl (0, 7, .inl (A o))) ∧ ∀ f, (xh A V tx cu).set (o - 64) (.inl (0, 7, .inl f)) = xh (va_up A o f) V tx cu := by
  have : o = 102 ∨ o = 103 ∨ o = 104 ∨ o = 105 ∨ o = 106 ∨ o = 107 ∨ o = 108 ∨ o = 109 ∨ o = 110 ∨ o = 111 ∨ o = 112 ∨ o = 113 := by unfold isTd at ho; omega
  rcases this with rfl | rfl | rfl | rfl | rfl | rfl | rfl | rfl | rfl | rfl | rfl | rfl <;> exact ⟨by decide, rfl, fun _ => rfl⟩
theorem h_cells (ho : isSh o) : 64 ≤ o + 1 ∧ (xh A V tx cu)[o + 1 - 64]? = some (.inl (0, 40, .inl (A (o + 1)))) ∧ ∀ f, (xh A V tx cu).set (o + 1 - 64) (.inl (0, 40, .inl f)) = xh (va_up A (o + 1) f) V tx cu := by
  unfold isSh at ho
  rcases ho with rfl | rfl | rfl | rfl <;> exact ⟨by decide, rfl, fun _ => rfl⟩
theorem h_sheet (ho : isSh o) : 64 ≤ o ∧ (xh A V tx cu)[o - 64]? = some (.inr (5, [.ref (o + 1), .int (V o 1), .int (V o 2)])) ∧ (∀ x, (xh A V tx cu).set (o - 64) (.inr (5, [.ref (o + 1), .int x, .int (V o 2)])) = xh A (up2 V o 1 x) tx cu) ∧ ∀ x, (xh A V tx cu).set (o - 64) (.inr (5, [.ref (o + 1), .int (V o 1), .int x])) = xh A (up2 V o 2 x) tx cu := by
  unfold isSh at ho
  rcases ho with rfl | rfl | rfl | rfl <;> exact ⟨by decide, rfl, fun _ => rfl, fun _ => rfl⟩
theorem blt_f {n m : Nat} (h : m ≤ n) : Nat.blt n m = false := by
  cases q : Nat.blt n m with
  | false => rfl
  | true => exact absurd (Nat.blt_eq.mp q) (by omega)
theorem st_ld_told (ho : isTd o) (hi : xq_in i 7 = true) (hI : co pc = some (.iaload, ln, a, b, e, pl, v)) (k : xw ro d co (pc + 1) L (.int (A o i.toNatClampNeg) :: t) (xh A V tx cu) Q) : xw ro d co pc L (.int i :: .ref o :: t) (xh A V tx cu) Q := by
  obtain ⟨h1, h2, h3⟩ := h_told (A := A) (V := V) (tx := tx) (cu := cu) ho
  refine xw_step hI (fun F => ?_) k
  show xq_aldi ro 0 pc L (.int i :: .ref o :: t) (xh A V tx cu) = _
  unfold xq_aldi xq_at
  dsimp only
  rw [blt_f h1, cond_false, h2]
  dsimp only
  rw [hi]
  rfl
theorem st_st_told (ho : isTd o) (hi : xq_in i 7 = true) (hI : co pc = some (.iastore, ln, a, b, e, pl, v)) (k : xw ro d co (pc + 1) L t (xh (aw A o i x) V tx cu) Q) : xw ro d co pc L (.int x :: .int i :: .ref o :: t) (xh A V tx cu) Q := by
  obtain ⟨h1, h2, h3⟩ := h_told (A := A) (V := V) (tx := tx) (cu := cu) ho
  refine xw_step hI (fun F => ?_) k
  show xq_asti 0 (fun x => x) pc L (.int x :: .int i :: .ref o :: t) (xh A V tx cu) = _
  unfold xq_asti
  dsimp only
  rw [blt_f h1, cond_false, h2]
  dsimp only
  rw [hi, h3]
  rfl
theorem st_ld_cells (ho : isSh o) (hi : xq_in i 40 = true) (hI : co pc = some (.iaload, ln, a, b, e, pl, v)) (k : xw ro d co (pc + 1) L (.int (A (o + 1) i.toNatClampNeg) :: t) (xh A V tx cu) Q) : xw ro d co pc L (.int i :: .ref (o + 1) :: t) (xh A V tx cu) Q := by
  obtain ⟨h1, h2, h3⟩ := h_cells (A := A) (V := V) (tx := tx) (cu := cu) ho
  refine xw_step hI (fun F => ?_) k
  show xq_aldi ro 0 pc L (.int i :: .ref (o + 1) :: t) (xh A V tx cu) = _
  unfold xq_aldi xq_at
  dsimp only
  rw [blt_f h1, cond_false, h2]
  dsimp only
  rw [hi]
  rfl
theorem st_st_cells (ho : isSh o) (hi : xq_in i 40 = true) (hI : co pc = some (.iastore, ln, a, b, e, pl, v)) (k : xw ro d co (pc + 1) L t (xh (aw A (o + 1) i x) V tx cu) Q) : xw ro d co pc L (.int x :: .int i :: .ref (o + 1) :: t) (xh A V tx cu) Q := by
  obtain ⟨h1, h2, h3⟩ := h_cells (A := A) (V := V) (tx := tx) (cu := cu) ho
  refine xw_step hI (fun F => ?_) k
  show xq_asti 0 (fun x => x) pc L (.int x :: .int i :: .ref (o + 1) :: t) (xh A V tx cu) = _
  unfold xq_asti
  dsimp only
  rw [blt_f h1, cond_false, h2]
  dsimp only
  rw [hi, h3]
  rfl
theorem st_get_sheet_0 (ho : isSh o) (hI : co pc = some (.getfield idx, ln, 5, 0, e, pl, v)) (k : xw ro d co (pc + 3) L (.ref (o + 1) :: t) (xh A V tx cu) Q) : xw ro d co pc L (.ref o :: t) (xh A V tx cu) Q := by
  obtain ⟨h1, h2, h3⟩ := h_sheet (A := A) (V := V) (tx := tx) (cu := cu) ho
  refine xw_step hI (fun F => ?_) k
  show xq_get 5 0 pc L (.ref o :: t) (xh A V tx cu) = _
  unfold xq_get
  dsimp only
  rw [blt_f h1, cond_false, h2]
  rfl
theorem st_get_sheet_1 (ho : isSh o) (hI : co pc = some (.getfield idx, ln, 5, 1, e, pl, v)) (k : xw ro d co (pc + 3) L (.int (V o 1) :: t) (xh A V tx cu) Q) : xw ro d co pc L (.ref o :: t) (xh A V tx cu) Q := by
  obtain ⟨h1, h2, h3⟩ := h_sheet (A := A) (V := V) (tx := tx) (cu := cu) ho
  refine xw_step hI (fun F => ?_) k
  show xq_get 5 1 pc L (.ref o :: t) (xh A V tx cu) = _
  unfold xq_get
  dsimp only
  rw [blt_f h1, cond_false, h2]
  rfl
theorem st_get_sheet_2 (ho : isSh o) (hI : co pc = some (.getfield idx, ln, 5, 2, e, pl, v)) (k : xw ro d co (pc + 3) L (.int (V o 2) :: t) (xh A V tx cu) Q) : xw ro d co pc L (.ref o :: t) (xh A V tx cu) Q := by
  obtain ⟨h1, h2, h3⟩ := h_sheet (A := A) (V := V) (tx := tx) (cu := cu) ho
  refine xw_step hI (fun F => ?_) k
  show xq_get 5 2 pc L (.ref o :: t) (xh A V tx cu) = _
  unfold xq_get
  dsimp only
  rw [blt_f h1, cond_false, h2]
  rfl
theorem st_put_sheet_1 (ho : isSh o) (hI : co pc = some (.putfield idx, ln, 5, 1, 0, pl, v)) (k : xw ro d co (pc + 3) L t (xh A (up2 V o 1 x) tx cu) Q) : xw ro d co pc L (.int x :: .ref o :: t) (xh A V tx cu) Q := by
  obtain ⟨h1, h2, h3, h4⟩ := h_sheet (A := A) (V := V) (tx := tx) (cu := cu) ho
  refine xw_step hI (fun F => ?_) k
  show xq_put 5 1 0 pc L (.int x :: .ref o :: t) (xh A V tx cu) = _
  unfold xq_put
  dsimp only
  rw [blt_f h1, cond_false, h2]
  dsimp only
  rw [← h3]
  rfl
theorem st_put_sheet_2 (ho : isSh o) (hI : co pc = some (.putfield idx, ln, 5, 2, 0, pl, v)) (k : xw ro d co (pc + 3) L t (xh A (up2 V o 2 x) tx cu) Q) : xw ro d co pc L (.int x :: .ref o :: t) (xh A V tx cu) Q := by
  obtain ⟨h1, h2, h3, h4⟩ := h_sheet (A := A) (V := V) (tx := tx) (cu := cu) ho
  refine xw_step hI (fun F => ?_) k
  show xq_put 5 2 0 pc L (.int x :: .ref o :: t) (xh A V tx cu) = _
  unfold xq_put
  dsimp only
  rw [blt_f h1, cond_false, h2]
  dsimp only
  rw [← h4]
  rfl
theorem st_recv_sheet {st : List Value} (ho : isSh o) (hs : st[b]? = some (.ref o)) (F : xq_F) : xq_step ro xq_df F pc L st (xh A V tx cu) (.invokevirtual idx, ln, a, b, 5, pl, v) = xq_call F a (b + 1) pc L st (xh A V tx cu) := by
  obtain ⟨h1, h2, h3⟩ := h_sheet (A := A) (V := V) (tx := tx) (cu := cu) ho
  show (bif Nat.beq 5 20 then xq_clone pc L st (xh A V tx cu) else bif xq_recv (xh A V tx cu) 5 b st then xq_call F a (b + 1) pc L st (xh A V tx cu) else none) = _
  have : xq_recv (xh A V tx cu) 5 b st = true := by
    unfold xq_recv
    rw [hs]
    dsimp only
    rw [blt_f h1, cond_false, h2]
    rfl
  rw [this]
  rfl
theorem st_aal_100 (hi : xq_in i 12 = true) (hI : co pc = some (.aaload, ln, a, b, e, pl, v)) (k : xw ro d co (pc + 1) L (.ref (102 + i.toNatClampNeg) :: t) (xh A V tx cu) Q) : xw ro d co pc L (.int i :: .ref 101 :: t) (xh A V tx cu) Q := by
  refine xw_step hI (fun F => ?_) k
  have := xin_lt hi
  show (bif Nat.blt 2 3 && Nat.blt 3 6 && xq_in i 12 then xq_go (pc + 1) L (xq_ref (if i.toNatClampNeg < 12 then some (102 + i.toNatClampNeg) else none) :: t) (xh A V tx cu) else none) = _
  rw [hi, if_pos this]
  rfl
theorem st_aal_113 (hi : xq_in i 4 = true) (hI : co pc = some (.aaload, ln, a, b, e, pl, v)) (k : xw ro d co (pc + 1) L (.ref (122 + 2 * i.toNatClampNeg) :: t) (xh A V tx cu) Q) : xw ro d co pc L (.int i :: .ref 114 :: t) (xh A V tx cu) Q := by
  refine xw_step hI (fun F => ?_) k
  have hl := xin_lt hi
  have : xh_sh i.toNatClampNeg = some (122 + 2 * i.toNatClampNeg) := by
    rcases (show i.toNatClampNeg = 0 ∨ i.toNatClampNeg = 1 ∨ i.toNatClampNeg = 2 ∨ i.toNatClampNeg = 3 by omega) with q | q | q | q <;> rw [q] <;> rfl
  show (bif Nat.blt 2 4 && Nat.blt 4 6 && xq_in i 4 then xq_go (pc + 1) L (xq_ref (xh_sh i.toNatClampNeg) :: t) (xh A V tx cu) else none) = _
  rw [hi, this]
  rfl
theorem xh_tr_at : ∀ (n j : Nat), j ≤ n → xh_tr n j = some (tref j)
  | 0, j, h => by
    have : j = 0 := by omega
    subst this
    rfl
  | n + 1, j, h => by
    by_cases q : j = n + 1
    · subst q
      show va_up (xh_tr n) (n + 1) (some (164 + 2 * n)) (n + 1) = _
      rw [va_up_self]
      rfl
    · show va_up (xh_tr n) (n + 1) (some (164 + 2 * n)) j = _
      rw [show va_up (xh_tr n) (n + 1) (some (164 + 2 * n)) j = xh_tr n j from if_neg q]
      exact xh_tr_at n j (by omega)
theorem st_aal_97 (hi : (xq_in i 6 && Nat.ble i.toNatClampNeg tx.length) = true) (hI : co pc = some (.aaload, ln, a, b, e, pl, v)) (k : xw ro d co (pc + 1) L (.ref (tref i.toNatClampNeg) :: t) (xh A V tx cu) Q) : xw ro d co pc L (.int i :: .ref 98 :: t) (xh A V tx cu) Q := by
  refine xw_step hI (fun F => ?_) k
  rw [Bool.and_eq_true] at hi
  have := xh_tr_at tx.length i.toNatClampNeg (Nat.ble_eq.mp hi.2)
  show (bif Nat.blt 2 5 && Nat.blt 5 6 && xq_in i 6 then xq_go (pc + 1) L (xq_ref (xh_tr tx.length i.toNatClampNeg) :: t) (xh A V tx cu) else none) = _
  rw [hi.1, this]
  rfl
theorem lsw_d : ∀ {l : List (Int × Int)} {dv k : Int}, l.all (fun p => !decide (p.1 = k)) = true → Op.lookupswitch.offset l dv k = dv
  | [], _, _, _ => rfl
  | (a, o) :: t, dv, k, h => by
    rw [List.all_cons, Bool.and_eq_true] at h
    have h1 : ¬ a = k := by simpa using h.1
    rw [Op.lookupswitch.offset_cons, if_neg h1]
    exact lsw_d h.2
theorem st_lsw {h : xq_H} {dv : Int} {ps : Array (Int × Int)} {o : Int} (hI : co pc = some (.lookupswitch dv ps, ln, a, b, e, pl, v)) (ho : Op.lookupswitch.offset ps.toList dv x.toInt = o) (k : xw ro d co ((pc : Int) + o).toNat L t h Q) : xw ro d co pc L (.int x :: t) h Q := by
  refine xw_step hI (fun F => ?_) k
  show xq_lsw pc dv ps L (.int x :: t) h = _
  unfold xq_lsw
  dsimp only
  rw [ho]
  rfl
def isSt (o : Nat) : Prop := 2 < o ∧ o < 16
def slen (o : Nat) : Int32 := Int32.ofNat (xq_len.getD (o - 3) 0)
def schr (o i : Nat) : Int32 := (xq_byt.getD (o - 3) []).getD i 0 &&& 255
theorem h_str (ho : isSt o) : Nat.blt o 64 = true ∧ Nat.blt 2 o = true ∧ Nat.blt o 16 = true := by
  unfold isSt at ho
  exact ⟨Nat.blt_eq.mpr (by omega), Nat.blt_eq.mpr ho.1, Nat.blt_eq.mpr ho.2⟩
theorem st_slen (hd : 60 ≤ d) (ho : isSt o) (hI : co pc = some (.invokevirtual idx, ln, 219, 0, 10, pl, v)) (hs : Nat.ble (xq_sum t) 8 = true) (k : xw ro d co (pc + 3) L (.int (slen o) :: t) (xh A V tx cu) Q) : xw ro d co pc L (.ref o :: t) (xh A V tx cu) Q := by
  obtain ⟨h1, h2, h3⟩ := h_str ho
  obtain ⟨d, rfl⟩ : ∃ d1, d = d1 + 1 := ⟨d - 1, by omega⟩
  refine xw_call (k := 219) (j := 1) (Q1 := fun r h => r = some (.int (slen o)) ∧ h = xh A V tx cu) hI (fun F => ?_) ?_ rfl rfl (xe_pr (r := some (.int (slen o))) (h' := xh A V tx cu) (by omega) rfl ?_ ⟨rfl, rfl⟩) ?_
  · show (bif Nat.beq 10 20 then xq_clone pc L (.ref o :: t) (xh A V tx cu) else bif xq_recv (xh A V tx cu) 10 0 (.ref o :: t) then xq_call F 219 1 pc L (.ref o :: t) (xh A V tx cu) else none) = _
    have : xq_recv (xh A V tx cu) 10 0 (.ref o :: t) = true := by
      show (bif Nat.blt o 64 then Nat.beq 10 10 && Nat.blt 2 o && Nat.blt o 16 else (match (xh A V tx cu)[o - 64]? with | some (.inr (ci', _)) => Nat.beq 10 ci' | _ => false)) = true
      rw [h1, h2, h3]
      rfl
    rw [this]
    rfl
  · show (Nat.ble 1 (t.length + 1) && Nat.ble (xq_sum t) 8) = true
    rw [hs, Nat.ble_eq.mpr (by omega)]
    rfl
  · show (bif Nat.blt 2 o && Nat.blt o 16 then some (some (Value.int (Int32.ofNat (xq_len.getD (o - 3) 0))), xh A V tx cu) else none) = _
    rw [h2, h3]
    rfl
  · rintro _ _ ⟨rfl, rfl⟩
    exact k
theorem st_schr (hd : 60 ≤ d) (ho : isSt o) (hi : xq_in i (xq_len.getD (o - 3) 0) = true) (hI : co pc = some (.invokevirtual idx, ln, 220, 1, 10, pl, v)) (hs : Nat.ble (xq_sum t) 8 = true) (k : xw ro d co (pc + 3) L (.int (schr o i.toNatClampNeg) :: t) (xh A V tx cu) Q) : xw ro d co pc L (.int i :: .ref o :: t) (xh A V tx cu) Q := by
  obtain ⟨h1, h2, h3⟩ := h_str ho
  obtain ⟨d, rfl⟩ : ∃ d1, d = d1 + 1 := ⟨d - 1, by omega⟩
  refine xw_call (k := 220) (j := 2) (Q1 := fun r h => r = some (.int (schr o i.toNatClampNeg)) ∧ h = xh A V tx cu) hI (fun F => ?_) ?_ rfl rfl (xe_pr (r := some (.int (schr o i.toNatClampNeg))) (h' := xh A V tx cu) (by omega) rfl ?_ ⟨rfl, rfl⟩) ?_
  · show (bif Nat.beq 10 20 then xq_clone pc L (.int i :: .ref o :: t) (xh A V tx cu) else bif xq_recv (xh A V tx cu) 10 1 (.int i :: .ref o :: t) then xq_call F 220 2 pc L (.int i :: .ref o :: t) (xh A V tx cu) else none) = _
    have : xq_recv (xh A V tx cu) 10 1 (.int i :: .ref o :: t) = true := by
      show (bif Nat.blt o 64 then Nat.beq 10 10 && Nat.blt 2 o && Nat.blt o 16 else (match (xh A V tx cu)[o - 64]? with | some (.inr (ci', _)) => Nat.beq 10 ci' | _ => false)) = true
      rw [h1, h2, h3]
      rfl
    rw [this]
    rfl
  · show (Nat.ble 2 (t.length + 1 + 1) && Nat.ble (xq_sum t) 8) = true
    rw [hs, Nat.ble_eq.mpr (by omega)]
    rfl
  · show (bif Nat.blt 2 o && (Nat.blt o 16 && xq_in i (xq_len.getD (o - 3) 0)) then some (some (Value.int ((xq_byt.getD (o - 3) []).getD i.toNatClampNeg 0 &&& 255)), xh A V tx cu) else none) = _
    rw [h2, h3, hi]
    rfl
  · rintro _ _ ⟨rfl, rfl⟩
    exact k
theorem st_cpy_cells {o1 o2 : Nat} {sp dp n : Int32} (h1 : isSh o1) (h2 : isSh o2) (hc : (!decide (sp < 0) && !decide (dp < 0) && !decide (n < 0) && Nat.ble (sp.toNatClampNeg + n.toNatClampNeg) 40 && Nat.ble (dp.toNatClampNeg + n.toNatClampNeg) 40) = true) (hI : co pc = some (.invokestatic idx, ln, a, b, 2, pl, v)) (hs : Nat.ble (xq_sum t) 8 = true) (k : xw ro d co (pc + 3) L t (xh (va_up A (o2 + 1) (va_cpy (A (o1 + 1)) (A (o2 + 1)) sp.toNatClampNeg dp.toNatClampNeg n.toNatClampNeg)) V tx cu) Q) : xw ro d co pc L (.int n :: .int dp :: .ref (o2 + 1) :: .int sp :: .ref (o1 + 1) :: t) (xh A V tx cu) Q := by
  obtain ⟨a1, a2, a3⟩ := h_cells (A := A) (V := V) (tx := tx) (cu := cu) h1
  obtain ⟨b1, b2, b3⟩ := h_cells (A := A) (V := V) (tx := tx) (cu := cu) h2
  refine xw_step hI (fun F => ?_) k
  show xq_copy pc L (.int n :: .int dp :: .ref (o2 + 1) :: .int sp :: .ref (o1 + 1) :: t) (xh A V tx cu) = _
  unfold xq_copy
  dsimp only
  rw [blt_f a1, blt_f b1, a2, b2]
  simp only [Bool.or_false, cond_false]
  rw [hc, hs, b3]
  rfl
theorem sX8_lawText (hd : 61 ≤ d) (h : (xq_in (V 64 16) 6 && Nat.ble (V 64 16).toNatClampNeg tx.length) = true) : xe ro d 119 [.ref 64] (xh A V tx cu) (fun r' h' => r' = some (.ref (tref (V 64 16).toNatClampNeg)) ∧ h' = xh A V tx cu) := by
  obtain ⟨d, rfl⟩ : ∃ d1, d = d1 + 1 := ⟨d - 1, by omega⟩
  have hd0 : 60 ≤ d := by omega
  have h0 : xq_in (V 64 16) 6 = true := ((Bool.and_eq_true _ _).mp h).1
  have hl := xin_lt h0
  have h1 : ¬ V 64 16 < 0 := by
    unfold xq_in at h0
    simpa using ((Bool.and_eq_true _ _).mp h0).1
  have h2 : ¬ (6 : Int32) ≤ V 64 16 := fun q => by
    have q2 := Int32.le_iff_toInt_le.mp q
    have q3 : (6 : Int32).toInt = 6 := by decide
    have q4 : (V 64 16).toNatClampNeg = (V 64 16).toInt.toNat := rfl
    omega
  refine xe_of (co := xk_119) (nl := 1) rfl rfl rfl ?_
  refine xw_y hd0 11 [0, 0] rfl ⟨nt h1, nt h2, trivial⟩ ?_
  refine st_aal_97 h rfl ?_
  exact xw_yr hd0 4 [] rfl trivial ⟨rfl, rfl⟩
theorem sX8_rowOf_0 (hd : 61 ≤ d) (h : xq_in i 4 = true) (h2 : V (122 + 2 * i.toNatClampNeg) 1 = -1) : xe ro d 120 [.ref 64, .int i] (xh A V tx cu) (fun r' h' => r' = some .null ∧ h' = xh A V tx cu) := by
  obtain ⟨d, rfl⟩ : ∃ d1, d = d1 + 1 := ⟨d - 1, by omega⟩
  have hd0 : 60 ≤ d := by omega
  refine xe_of (co := xk_120) (nl := 3) rfl rfl rfl ?_
  refine xw_y hd0 3 [] rfl trivial ?_
  refine st_aal_113 h rfl ?_
  refine xw_y hd0 4 [] rfl trivial ?_
  refine st_get_sheet_1 (sh_of h) rfl ?_
  exact xw_yr hd0 8 [0] rfl ⟨nnt h2, trivial⟩ ⟨rfl, rfl⟩
theorem sX8_rowOf_1 (hd : 61 ≤ d) (h : xq_in i 4 = true) (h2 : ¬ V (122 + 2 * i.toNatClampNeg) 1 = -1) : xe ro d 120 [.ref 64, .int i] (xh A V tx cu) (fun r' h' => r' = some (.ref (122 + 2 * i.toNatClampNeg)) ∧ h' = xh A V tx cu) := by
  obtain ⟨d, rfl⟩ : ∃ d1, d = d1 + 1 := ⟨d - 1, by omega⟩
  have hd0 : 60 ≤ d := by omega
  refine xe_of (co := xk_120) (nl := 3) rfl rfl rfl ?_
  refine xw_y hd0 3 [] rfl trivial ?_
  refine st_aal_113 h rfl ?_
  refine xw_y hd0 4 [] rfl trivial ?_
  refine st_get_sheet_1 (sh_of h) rfl ?_
  exact xw_yr hd0 8 [1] rfl ⟨nt h2, trivial⟩ ⟨rfl, rfl⟩
end ST
