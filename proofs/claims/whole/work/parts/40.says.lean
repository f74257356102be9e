def txn (tx : List xh_T) : Nat → Nat
  | 0 => 9
  | j + 1 => (tx.getD j (0, (fun _ => 0), 0, 0)).1
def txf (tx : List xh_T) (A : xM) : Nat → Nat → Int32
  | 0 => A 131
  | j + 1 => (tx.getD j (0, (fun _ => 0), 0, 0)).2.1
def txl (tx : List xh_T) : Nat → Int32
  | 0 => 7
  | j + 1 => (tx.getD j (0, (fun _ => 0), 0, 0)).2.2.1
def txw (tx : List xh_T) : Nat → Int32
  | 0 => 8
  | j + 1 => (tx.getD j (0, (fun _ => 0), 0, 0)).2.2.2
def tidx (q : Nat) : Nat := if q = 130 then 0 else (q - 164) / 2 + 1
theorem tref_s (j : Nat) : tref (j + 1) = 164 + 2 * j := rfl
theorem tidx_tref (j : Nat) : tidx (tref j) = j := by
  cases j with
  | zero => rfl
  | succ j => rw [tref_s]; unfold tidx; rw [if_neg (by omega)]; omega
theorem xh_tx_at : ∀ (tx : List xh_T) (a j : Nat), j < tx.length → (xh_tx a tx)[2 * j]? = some (.inr (7, [.ref (a + 2 * j + 1), .int (tx.getD j (0, (fun _ => 0), 0, 0)).2.2.1, .int (tx.getD j (0, (fun _ => 0), 0, 0)).2.2.2])) ∧ (xh_tx a tx)[2 * j + 1]? = some (.inl (0, (tx.getD j (0, (fun _ => 0), 0, 0)).1, .inl (tx.getD j (0, (fun _ => 0), 0, 0)).2.1))
  | [], a, j, h => by exact absurd h (by simp)
  | (n, f, l, w) :: t, a, 0, _ => ⟨rfl, rfl⟩
  | (n, f, l, w) :: t, a, j + 1, h => by
    have := xh_tx_at t (a + 2) j (by simpa using h)
    rw [show a + 2 + 2 * j + 1 = a + 2 * (j + 1) + 1 by omega] at this
    exact this
section SX
variable {ro : Nat → Option xq_C} {d pc o : Nat} {co : Nat → Option xq_I} {L : List (Option Value)} {t : List Value} {A V : xM} {tx : List xh_T} {cu : Value} {Q : Option Value → xq_H → Prop} {i x : Int32} {ln a b e pl idx j : Nat} {v : Value}
theorem h_text (hj : j ≤ tx.length) : 64 ≤ tref j ∧ 64 ≤ tref j + 1 ∧ (xh A V tx cu)[tref j - 64]? = some (.inr (7, [.ref (tref j + 1), .int (txl tx j), .int (txw tx j)])) ∧ (xh A V tx cu)[tref j + 1 - 64]? = some (.inl (0, txn tx j, .inl (txf tx A j))) := by
  cases j with
  | zero => exact ⟨by decide, by decide, rfl, rfl⟩
  | succ j =>
    obtain ⟨h1, h2⟩ := xh_tx_at tx 164 j (by omega)
    refine ⟨by rw [tref_s]; omega, by rw [tref_s]; omega, ?_, ?_⟩
    · have : tref (j + 1) - 64 = 2 * j + 100 := by rw [tref_s]; omega
      rw [this]
      exact h1
    · have : tref (j + 1) + 1 - 64 = 2 * j + 1 + 100 := by rw [tref_s]; omega
      rw [this]
      exact h2
theorem st_get_text_0 (ho : j ≤ tx.length) (hI : co pc = some (.getfield idx, ln, 7, 0, e, pl, v)) (k : xw ro d co (pc + 3) L (.ref (tref j + 1) :: t) (xh A V tx cu) Q) : xw ro d co pc L (.ref (tref j) :: t) (xh A V tx cu) Q := by
  obtain ⟨h1, h2, h3, h4⟩ := h_text (A := A) (V := V) (tx := tx) (cu := cu) ho
  refine xw_step hI (fun F => ?_) k
  show xq_get 7 0 pc L (.ref (tref j) :: t) (xh A V tx cu) = _
  unfold xq_get
  dsimp only
  rw [blt_f h1, cond_false, h3]
  rfl
theorem st_get_text_1 (ho : j ≤ tx.length) (hI : co pc = some (.getfield idx, ln, 7, 1, e, pl, v)) (k : xw ro d co (pc + 3) L (.int (txl tx j) :: t) (xh A V tx cu) Q) : xw ro d co pc L (.ref (tref j) :: t) (xh A V tx cu) Q := by
  obtain ⟨h1, h2, h3, h4⟩ := h_text (A := A) (V := V) (tx := tx) (cu := cu) ho
  refine xw_step hI (fun F => ?_) k
  show xq_get 7 1 pc L (.ref (tref j) :: t) (xh A V tx cu) = _
  unfold xq_get
  dsimp only
  rw [blt_f h1, cond_false, h3]
  rfl
theorem st_get_text_2 (ho : j ≤ tx.length) (hI : co pc = some (.getfield idx, ln, 7, 2, e, pl, v)) (k : xw ro d co (pc + 3) L (.int (txw tx j) :: t) (xh A V tx cu) Q) : xw ro d co pc L (.ref (tref j) :: t) (xh A V tx cu) Q := by
  obtain ⟨h1, h2, h3, h4⟩ := h_text (A := A) (V := V) (tx := tx) (cu := cu) ho
  refine xw_step hI (fun F => ?_) k
  show xq_get 7 2 pc L (.ref (tref j) :: t) (xh A V tx cu) = _
  unfold xq_get
  dsimp only
  rw [blt_f h1, cond_false, h3]
  rfl
theorem st_len_steps (ho : j ≤ tx.length) (hI : co pc = some (.arraylength, ln, a, b, e, pl, v)) (k : xw ro d co (pc + 1) L (.int (Int32.ofNat (txn tx j)) :: t) (xh A V tx cu) Q) : xw ro d co pc L (.ref (tref j + 1) :: t) (xh A V tx cu) Q := by
  obtain ⟨h1, h2, h3, h4⟩ := h_text (A := A) (V := V) (tx := tx) (cu := cu) ho
  refine xw_step hI (fun F => ?_) k
  show xq_alen ro pc L (.ref (tref j + 1) :: t) (xh A V tx cu) = _
  unfold xq_alen xq_at
  dsimp only
  rw [blt_f h2, cond_false, h4]
  rfl
theorem st_ld_steps (ho : j ≤ tx.length) (hi : xq_in i (txn tx j) = true) (hI : co pc = some (.iaload, ln, a, b, e, pl, v)) (k : xw ro d co (pc + 1) L (.int (txf tx A j i.toNatClampNeg) :: t) (xh A V tx cu) Q) : xw ro d co pc L (.int i :: .ref (tref j + 1) :: t) (xh A V tx cu) Q := by
  obtain ⟨h1, h2, h3, h4⟩ := h_text (A := A) (V := V) (tx := tx) (cu := cu) ho
  refine xw_step hI (fun F => ?_) k
  show xq_aldi ro 0 pc L (.int i :: .ref (tref j + 1) :: t) (xh A V tx cu) = _
  unfold xq_aldi xq_at
  dsimp only
  rw [blt_f h2, cond_false, h4]
  dsimp only
  rw [hi]
  rfl
theorem st_recv_text {st : List Value} (ho : j ≤ tx.length) (hs : st[b]? = some (.ref (tref j))) (F : xq_F) : xq_step ro xq_df F pc L st (xh A V tx cu) (.invokevirtual idx, ln, a, b, 7, pl, v) = xq_call F a (b + 1) pc L st (xh A V tx cu) := by
  obtain ⟨h1, h2, h3, h4⟩ := h_text (A := A) (V := V) (tx := tx) (cu := cu) ho
  show (bif Nat.beq 7 20 then xq_clone pc L st (xh A V tx cu) else bif xq_recv (xh A V tx cu) 7 b st then xq_call F a (b + 1) pc L st (xh A V tx cu) else none) = _
  have : xq_recv (xh A V tx cu) 7 b st = true := by
    unfold xq_recv
    rw [hs]
    dsimp only
    rw [blt_f h1, cond_false, h3]
    rfl
  rw [this]
  rfl
end SX
def fX7_from (tx : List xh_T) (l0 : Nat) (l1 : Int32) (A V : xM) : Option (Int32) := if l1 = 0 then (some (0 : Int32)) else (if l1 = (1 : Int32) then (some (txl tx l0)) else (some (txw tx l0)))
def fX7_to (tx : List xh_T) (l0 : Nat) (l1 : Int32) (A V : xM) : Option (Int32) := if l1 = 0 then (some (txl tx l0)) else (if l1 = (1 : Int32) then (some (txw tx l0)) else (some (Int32.ofNat (txn tx l0))))
def fX6_valueOf (l1 : Int32) (A V : xM) : Option (Int32) := if ((-l1) - (3 : Int32)) < 0 then (some l1) else (if (6 : Int32) ≤ ((-l1) - (3 : Int32)) then (some l1) else (bC (xq_in ((-l1) - (3 : Int32)) 6) (some (A 83 ((-l1) - (3 : Int32)).toNatClampNeg))))
def fX6_unary (l0 : Int32) (l1 : Int32) (A V : xM) : Option (Int32) := if l0 = (-15 : Int32) then (some (-l1)) else (if l1 = 0 then (some (1 : Int32)) else (some (0 : Int32)))
def fX6_binary (l0 : Int32) (l1 : Int32) (l2 : Int32) (A V : xM) : Option (Int32) := if l0 = 13 then (if l1 = 0 then (some (0 : Int32)) else (if l2 = 0 then (some (0 : Int32)) else (some (1 : Int32)))) else (if l0 = 42 then (some (l1 * l2)) else (if l0 = 43 then (some (l1 + l2)) else (if l0 = 45 then (some (l1 - l2)) else (if l0 = 60 then (if l2 ≤ l1 then (some (0 : Int32)) else (some (1 : Int32))) else (if l0 = 61 then (if l1 = l2 then (some (1 : Int32)) else (some (0 : Int32))) else (if l1 = 0 then (if l2 = 0 then (some (0 : Int32)) else (some (1 : Int32))) else (some (1 : Int32))))))))
def fX6_says_L44 (tx : List xh_T) (j : Nat) (l3 : Int32) (ex : Int32 → xM → xM → Value → Option (Int32 × xS)) : Nat → Int32 → Int32 → xM → xM → Value → Option (Int32 × xS)
  | 0, _, _, _, _, _ => none
  | n + 1, l4, l5, A, V, cu => if l3 ≤ l5 then (ex l4 A V cu) else (bC (xq_in l5 (txn tx j)) (if (txf tx A j l5.toNatClampNeg) < (-8 : Int32) then (if (txf tx A j l5.toNatClampNeg) = (-14 : Int32) then (if (1 : Int32) ≤ l4 then (bC (xq_in (l4 - (1 : Int32)) 40) (bI (fX6_unary (txf tx A j l5.toNatClampNeg) (A 82 (l4 - (1 : Int32)).toNatClampNeg) A V) (fun x7 => fX6_says_L44 tx j l3 ex n l4 (l5 + Int32.ofInt 1) (aw A 82 (l4 - (1 : Int32)) x7) V cu))) else (some ((0 : Int32), A, V, cu))) else (if (txf tx A j l5.toNatClampNeg) = (-15 : Int32) then (if (1 : Int32) ≤ l4 then (bC (xq_in (l4 - (1 : Int32)) 40) (bI (fX6_unary (txf tx A j l5.toNatClampNeg) (A 82 (l4 - (1 : Int32)).toNatClampNeg) A V) (fun x12 => fX6_says_L44 tx j l3 ex n l4 (l5 + Int32.ofInt 1) (aw A 82 (l4 - (1 : Int32)) x12) V cu))) else (some ((0 : Int32), A, V, cu))) else (if (2 : Int32) ≤ l4 then (bC (xq_in ((l4 + Int32.ofInt (-1)) - (1 : Int32)) 40) (bC (xq_in (l4 + Int32.ofInt (-1)) 40) (bI (fX6_binary (-(txf tx A j l5.toNatClampNeg)) (A 82 ((l4 + Int32.ofInt (-1)) - (1 : Int32)).toNatClampNeg) (A 82 (l4 + Int32.ofInt (-1)).toNatClampNeg) A V) (fun x17 => fX6_says_L44 tx j l3 ex n (l4 + Int32.ofInt (-1)) (l5 + Int32.ofInt 1) (aw A 82 ((l4 + Int32.ofInt (-1)) - (1 : Int32)) x17) V cu)))) else (some ((0 : Int32), A, V, cu))))) else (if (txf tx A j l5.toNatClampNeg) = (-14 : Int32) then (if l4 < (40 : Int32) then (bI (fX6_valueOf (txf tx A j l5.toNatClampNeg) A V) (fun x21 => bC (xq_in l4 40) (fX6_says_L44 tx j l3 ex n (l4 + Int32.ofInt 1) (l5 + Int32.ofInt 1) (aw A 82 l4 x21) V cu))) else (some ((0 : Int32), A, V, cu))) else (if (txf tx A j l5.toNatClampNeg) = (-15 : Int32) then (if l4 < (40 : Int32) then (bI (fX6_valueOf (txf tx A j l5.toNatClampNeg) A V) (fun x26 => bC (xq_in l4 40) (fX6_says_L44 tx j l3 ex n (l4 + Int32.ofInt 1) (l5 + Int32.ofInt 1) (aw A 82 l4 x26) V cu))) else (some ((0 : Int32), A, V, cu))) else (if l4 < (40 : Int32) then (bI (fX6_valueOf (txf tx A j l5.toNatClampNeg) A V) (fun x30 => bC (xq_in l4 40) (fX6_says_L44 tx j l3 ex n (l4 + Int32.ofInt 1) (l5 + Int32.ofInt 1) (aw A 82 l4 x30) V cu))) else (some ((0 : Int32), A, V, cu)))))))
def fX6_saysj (tx : List xh_T) (j : Nat) (l1 : Int32) (A V : xM) (cu : Value) : Option (Int32 × xS) := bI (fX7_to tx j l1 A V) (fun x33 => bI (fX7_from tx j l1 A V) (fun x35 => fX6_says_L44 tx j (bif decide ((Int32.ofNat (txn tx j)) < x33) then (Int32.ofNat (txn tx j)) else x33) (fun (l4_37 : Int32) (A45 V46 : xM) (c47 : Value) => if l4_37 ≤ 0 then (some ((0 : Int32), A45, V46, c47)) else (bC (xq_in (l4_37 - (1 : Int32)) 40) (if (A45 82 (l4_37 - (1 : Int32)).toNatClampNeg) = 0 then (some ((0 : Int32), A45, V46, c47)) else (some ((1 : Int32), A45, V46, c47))))) FU (0 : Int32) x35 A V cu))
set_option maxRecDepth 20000 in
set_option maxHeartbeats 4000000 in
theorem sX7_from {LL : Nat} {xs : Nat → Int32} {tx : List xh_T} {d : Nat} {A V : xM} {cu : Value} {r : Int32} {l0 : Nat} {l1 : Int32} (hl0 : l0 ≤ tx.length) (hd : 61 ≤ d) (e : fX7_from tx l0 l1 A V = some r) : xe (xk_ro LL xs) d 68 [.ref (tref l0), .int l1] (xh A V tx cu) (qI r (xh A V tx cu)) := by
  obtain ⟨d, rfl⟩ : ∃ d1, d = d1 + 1 := ⟨d - 1, by omega⟩
  replace hd : 60 ≤ d := by omega
  have hd0 : 60 ≤ d := by omega
  refine xe_of (co := xk_68) (nl := 2) rfl rfl rfl ?_
  unfold fX7_from at e
  rcases ite_ok e with ⟨h1, e⟩ | ⟨h1, e⟩
  · cases e
    exact xw_yr hd0 6 [0] rfl ⟨nnt h1, rfl, trivial⟩ ⟨rfl, rfl⟩
  · rcases ite_ok e with ⟨h2, e⟩ | ⟨h2, e⟩
    · refine xw_y hd0 6 [1, 0] rfl ⟨nt h1, nnt h2, trivial⟩ ?_
      refine st_get_text_1 hl0 rfl ?_
      cases e
      exact xw_yr hd0 3 [] rfl ⟨rfl, trivial⟩ ⟨rfl, rfl⟩
    · refine xw_y hd0 6 [1, 1] rfl ⟨nt h1, nt h2, trivial⟩ ?_
      refine st_get_text_2 hl0 rfl ?_
      cases e
      exact xw_yr hd0 2 [] rfl ⟨rfl, trivial⟩ ⟨rfl, rfl⟩
set_option maxRecDepth 20000 in
set_option maxHeartbeats 4000000 in
theorem sX7_to {LL : Nat} {xs : Nat → Int32} {tx : List xh_T} {d : Nat} {A V : xM} {cu : Value} {r : Int32} {l0 : Nat} {l1 : Int32} (hl0 : l0 ≤ tx.length) (hd : 61 ≤ d) (e : fX7_to tx l0 l1 A V = some r) : xe (xk_ro LL xs) d 69 [.ref (tref l0), .int l1] (xh A V tx cu) (qI r (xh A V tx cu)) := by
  obtain ⟨d, rfl⟩ : ∃ d1, d = d1 + 1 := ⟨d - 1, by omega⟩
  replace hd : 60 ≤ d := by omega
  have hd0 : 60 ≤ d := by omega
  refine xe_of (co := xk_69) (nl := 2) rfl rfl rfl ?_
  unfold fX7_to at e
  rcases ite_ok e with ⟨h1, e⟩ | ⟨h1, e⟩
  · refine xw_y hd0 3 [0] rfl ⟨nnt h1, trivial⟩ ?_
    refine st_get_text_1 hl0 rfl ?_
    cases e
    exact xw_yr hd0 3 [] rfl ⟨rfl, trivial⟩ ⟨rfl, rfl⟩
  · rcases ite_ok e with ⟨h2, e⟩ | ⟨h2, e⟩
    · refine xw_y hd0 6 [1, 0] rfl ⟨nt h1, nnt h2, trivial⟩ ?_
      refine st_get_text_2 hl0 rfl ?_
      cases e
      exact xw_yr hd0 3 [] rfl ⟨rfl, trivial⟩ ⟨rfl, rfl⟩
    · refine xw_y hd0 6 [1, 1] rfl ⟨nt h1, nt h2, trivial⟩ ?_
      refine st_get_text_0 hl0 rfl ?_
      refine st_len_steps hl0 rfl ?_
      cases e
      exact xw_yr hd0 2 [] rfl ⟨rfl, trivial⟩ ⟨rfl, rfl⟩
set_option maxRecDepth 20000 in
set_option maxHeartbeats 4000000 in
theorem sX6_valueOf {LL : Nat} {xs : Nat → Int32} {tx : List xh_T} {d : Nat} {A V : xM} {cu : Value} {r : Int32} {l1 : Int32} (hd : 61 ≤ d) (e : fX6_valueOf l1 A V = some r) : xe (xk_ro LL xs) d 64 [.ref 81, .int l1] (xh A V tx cu) (qI r (xh A V tx cu)) := by
  obtain ⟨d, rfl⟩ : ∃ d1, d = d1 + 1 := ⟨d - 1, by omega⟩
  replace hd : 60 ≤ d := by omega
  have hd0 : 60 ≤ d := by omega
  refine xe_of (co := xk_64) (nl := 3) rfl rfl rfl ?_
  unfold fX6_valueOf at e
  rcases ite_ok e with ⟨h1, e⟩ | ⟨h1, e⟩
  · cases e
    exact xw_yr hd0 10 [1] rfl ⟨decide_eq_true h1, rfl, trivial⟩ ⟨rfl, rfl⟩
  · rcases ite_ok e with ⟨h2, e⟩ | ⟨h2, e⟩
    · cases e
      exact xw_yr hd0 13 [0, 1] rfl ⟨nt h1, decide_eq_true h2, rfl, trivial⟩ ⟨rfl, rfl⟩
    · obtain ⟨h3, e⟩ := bC_ok e
      cases e
      exact xw_yr hd0 17 [0, 0] rfl ⟨nt h1, nt h2, h3, rfl, trivial⟩ ⟨rfl, rfl⟩
set_option maxRecDepth 20000 in
set_option maxHeartbeats 4000000 in
theorem sX6_unary {LL : Nat} {xs : Nat → Int32} {tx : List xh_T} {d : Nat} {A V : xM} {cu : Value} {r : Int32} {l0 l1 : Int32} (hd : 61 ≤ d) (e : fX6_unary l0 l1 A V = some r) : xe (xk_ro LL xs) d 65 [.int l0, .int l1] (xh A V tx cu) (qI r (xh A V tx cu)) := by
  obtain ⟨d, rfl⟩ : ∃ d1, d = d1 + 1 := ⟨d - 1, by omega⟩
  replace hd : 60 ≤ d := by omega
  have hd0 : 60 ≤ d := by omega
  refine xe_of (co := xk_65) (nl := 2) rfl rfl rfl ?_
  unfold fX6_unary at e
  rcases ite_ok e with ⟨h1, e⟩ | ⟨h1, e⟩
  · cases e
    exact xw_yr hd0 7 [0] rfl ⟨nnt h1, rfl, trivial⟩ ⟨rfl, rfl⟩
  · rcases ite_ok e with ⟨h2, e⟩ | ⟨h2, e⟩
    · cases e
      exact xw_yr hd0 9 [1, 0] rfl ⟨nt h1, nnt h2, rfl, trivial⟩ ⟨rfl, rfl⟩
    · cases e
      exact xw_yr hd0 8 [1, 1] rfl ⟨nt h1, nt h2, rfl, trivial⟩ ⟨rfl, rfl⟩
set_option maxRecDepth 20000 in
set_option maxHeartbeats 4000000 in
theorem sX6_binary {LL : Nat} {xs : Nat → Int32} {tx : List xh_T} {d : Nat} {A V : xM} {cu : Value} {r : Int32} {l0 l1 l2 : Int32} (hd : 61 ≤ d) (e : fX6_binary l0 l1 l2 A V = some r) : xe (xk_ro LL xs) d 66 [.int l0, .int l1, .int l2] (xh A V tx cu) (qI r (xh A V tx cu)) := by
  obtain ⟨d, rfl⟩ : ∃ d1, d = d1 + 1 := ⟨d - 1, by omega⟩
  replace hd : 60 ≤ d := by omega
  have hd0 : 60 ≤ d := by omega
  refine xe_of (co := xk_66) (nl := 3) rfl rfl rfl ?_
  unfold fX6_binary at e
  refine xw_y hd0 1 [] rfl trivial ?_
  rcases ite_ok e with ⟨h1, e⟩ | ⟨h1, e⟩
  · refine st_lsw rfl (o := 93) (by rw [h1]; rfl) ?_
    rcases ite_ok e with ⟨h2, e⟩ | ⟨h2, e⟩
    · cases e
      exact xw_yr hd0 5 [1] rfl ⟨decide_eq_true h2, rfl, trivial⟩ ⟨rfl, rfl⟩
    · rcases ite_ok e with ⟨h3, e⟩ | ⟨h3, e⟩
      · cases e
        exact xw_yr hd0 7 [0, 1] rfl ⟨nt h2, decide_eq_true h3, rfl, trivial⟩ ⟨rfl, rfl⟩
      · cases e
        exact xw_yr hd0 8 [0, 0] rfl ⟨nt h2, nt h3, rfl, trivial⟩ ⟨rfl, rfl⟩
  rcases ite_ok e with ⟨h4, e⟩ | ⟨h4, e⟩
  · refine st_lsw rfl (o := 67) (by rw [h4]; rfl) ?_
    cases e
    exact xw_yr hd0 5 [] rfl ⟨rfl, trivial⟩ ⟨rfl, rfl⟩
  rcases ite_ok e with ⟨h5, e⟩ | ⟨h5, e⟩
  · refine st_lsw rfl (o := 59) (by rw [h5]; rfl) ?_
    cases e
    exact xw_yr hd0 5 [] rfl ⟨rfl, trivial⟩ ⟨rfl, rfl⟩
  rcases ite_ok e with ⟨h6, e⟩ | ⟨h6, e⟩
  · refine st_lsw rfl (o := 63) (by rw [h6]; rfl) ?_
    cases e
    exact xw_yr hd0 5 [] rfl ⟨rfl, trivial⟩ ⟨rfl, rfl⟩
  rcases ite_ok e with ⟨h7, e⟩ | ⟨h7, e⟩
  · refine st_lsw rfl (o := 71) (by rw [h7]; rfl) ?_
    rcases ite_ok e with ⟨h8, e⟩ | ⟨h8, e⟩
    · cases e
      exact xw_yr hd0 6 [1] rfl ⟨decide_eq_true h8, rfl, trivial⟩ ⟨rfl, rfl⟩
    · cases e
      exact xw_yr hd0 7 [0] rfl ⟨nt h8, rfl, trivial⟩ ⟨rfl, rfl⟩
  rcases ite_ok e with ⟨h9, e⟩ | ⟨h9, e⟩
  · refine st_lsw rfl (o := 82) (by rw [h9]; rfl) ?_
    rcases ite_ok e with ⟨h10, e⟩ | ⟨h10, e⟩
    · cases e
      exact xw_yr hd0 7 [0] rfl ⟨nnt h10, rfl, trivial⟩ ⟨rfl, rfl⟩
    · cases e
      exact xw_yr hd0 6 [1] rfl ⟨nt h10, rfl, trivial⟩ ⟨rfl, rfl⟩
  refine st_lsw rfl (o := 107) (lsw_d (by simp only [← Int32.toInt_inj] at h1 h4 h5 h6 h7 h9; simp at h1 h4 h5 h6 h7 h9 ⊢; omega)) ?_
  rcases ite_ok e with ⟨h11, e⟩ | ⟨h11, e⟩
  · rcases ite_ok e with ⟨h12, e⟩ | ⟨h12, e⟩
    · cases e
      exact xw_yr hd0 7 [0, 1] rfl ⟨nnt h11, decide_eq_true h12, rfl, trivial⟩ ⟨rfl, rfl⟩
    · cases e
      exact xw_yr hd0 8 [0, 0] rfl ⟨nnt h11, nt h12, rfl, trivial⟩ ⟨rfl, rfl⟩
  · cases e
    exact xw_yr hd0 6 [1] rfl ⟨nt h11, rfl, trivial⟩ ⟨rfl, rfl⟩
set_option maxRecDepth 20000 in
set_option maxHeartbeats 4000000 in
theorem slX6_says_L44 {LL : Nat} {xs : Nat → Int32} {tx : List xh_T} {d : Nat} {A' V' : xM} {c' : Value} {r : Int32} {j : Nat} {l3 : Int32} {ex : Int32 → xM → xM → Value → Option (Int32 × xS)} (hj : j ≤ tx.length) (hd : 63 ≤ d) (hex : ∀ (y4 : Int32) (w1 w2 w3 w5 w6 w7 w8 : Option Value) (A V : xM) (cu : Value), ex y4 A V cu = some (r, A', V', c') → xw (xk_ro LL xs) d xk_63 223 [some (.ref 81), w1, w2, w3, some (.int y4), w5, w6, w7, w8] [] (xh A V tx cu) (qI r (xh A' V' tx c'))) : ∀ (n : Nat) (l4 : Int32) (l5 : Int32) (z1 z6 z7 z8 : Option Value) (A V : xM) (cu : Value), fX6_says_L44 tx j l3 ex n l4 l5 A V cu = some (r, A', V', c') → xw (xk_ro LL xs) d xk_63 44 [some (.ref 81), z1, some (.ref (tref j + 1)), some (.int l3), some (.int l4), some (.int l5), z6, z7, z8] [] (xh A V tx cu) (qI r (xh A' V' tx c')) := by
  have hd0 : 60 ≤ d := by omega
  intro n
  induction n with
  | zero =>
    intro l4 l5 z1 z6 z7 z8 A V cu e
    rw [fX6_says_L44] at e
    cases e
  | succ n ih =>
    intro l4 l5 z1 z6 z7 z8 A V cu e
    rw [fX6_says_L44] at e
    rcases ite_ok e with ⟨h1, e⟩ | ⟨h1, e⟩
    · refine xw_y hd0 3 [1] rfl ⟨decide_eq_true h1, trivial⟩ ?_
      exact hex _ _ _ _ _ _ _ _ _ _ _ e
    · refine xw_y hd0 5 [0] rfl ⟨nt h1, trivial⟩ ?_
      obtain ⟨h2, e⟩ := bC_ok e
      refine st_ld_steps hj h2 rfl ?_
      rcases ite_ok e with ⟨h3, e⟩ | ⟨h3, e⟩
      · rcases ite_ok e with ⟨h4, e⟩ | ⟨h4, e⟩
        · rcases ite_ok e with ⟨h5, e⟩ | ⟨h5, e⟩
          · obtain ⟨h6, e⟩ := bC_ok e
            refine xw_y hd0 35 [1, 1, 1, 0, 1, 1, 0] rfl ⟨decide_eq_true h3, decide_eq_true h4, rfl, rfl, decide_eq_true h5, rfl, rfl, h6, trivial⟩ ?_
            obtain ⟨x7, e8, e⟩ := bI_ok e
            refine xw_call (k := 65) (j := 2) rfl (fun F => xm_c_ok (y_c_ok rfl) F) rfl rfl rfl (sX6_unary (by omega) e8) ?_
            rintro _ _ ⟨rfl, rfl⟩
            refine xw_y hd0 4 [] rfl ⟨h6, trivial⟩ ?_
            exact ih _ _ _ _ _ _ _ _ _ e
          · cases e
            exact xw_yr hd0 23 [1, 1, 1, 0, 0] rfl ⟨decide_eq_true h3, decide_eq_true h4, rfl, rfl, nt h5, rfl, trivial⟩ ⟨rfl, rfl⟩
        · rcases ite_ok e with ⟨h9, e⟩ | ⟨h9, e⟩
          · rcases ite_ok e with ⟨h10, e⟩ | ⟨h10, e⟩
            · obtain ⟨h11, e⟩ := bC_ok e
              refine xw_y hd0 38 [1, 0, 0, 1, 0, 1, 1, 0] rfl ⟨decide_eq_true h3, nt h4, nnt h9, rfl, rfl, decide_eq_true h10, rfl, rfl, h11, trivial⟩ ?_
              obtain ⟨x12, e13, e⟩ := bI_ok e
              refine xw_call (k := 65) (j := 2) rfl (fun F => xm_c_ok (y_c_ok rfl) F) rfl rfl rfl (sX6_unary (by omega) e13) ?_
              rintro _ _ ⟨rfl, rfl⟩
              refine xw_y hd0 4 [] rfl ⟨h11, trivial⟩ ?_
              exact ih _ _ _ _ _ _ _ _ _ e
            · cases e
              exact xw_yr hd0 26 [1, 0, 0, 1, 0, 0] rfl ⟨decide_eq_true h3, nt h4, nnt h9, rfl, rfl, nt h10, rfl, trivial⟩ ⟨rfl, rfl⟩
          · rcases ite_ok e with ⟨h14, e⟩ | ⟨h14, e⟩
            · obtain ⟨h15, e⟩ := bC_ok e
              obtain ⟨h16, e⟩ := bC_ok e
              refine xw_y hd0 43 [1, 0, 1, 1, 1, 1, 1, 1] rfl ⟨decide_eq_true h3, nt h4, nt h9, rfl, rfl, decide_eq_true h14, rfl, rfl, h15, h16, trivial⟩ ?_
              obtain ⟨x17, e18, e⟩ := bI_ok e
              refine xw_call (k := 66) (j := 3) rfl (fun F => xm_c_ok (y_c_ok rfl) F) rfl rfl rfl (sX6_binary (by omega) e18) ?_
              rintro _ _ ⟨rfl, rfl⟩
              refine xw_y hd0 3 [] rfl ⟨h15, trivial⟩ ?_
              exact ih _ _ _ _ _ _ _ _ _ e
            · cases e
              exact xw_yr hd0 24 [1, 0, 1, 1, 1, 0] rfl ⟨decide_eq_true h3, nt h4, nt h9, rfl, rfl, nt h14, rfl, trivial⟩ ⟨rfl, rfl⟩
      · rcases ite_ok e with ⟨h19, e⟩ | ⟨h19, e⟩
        · rcases ite_ok e with ⟨h20, e⟩ | ⟨h20, e⟩
          · refine xw_y hd0 25 [0, 1, 0, 1, 0] rfl ⟨nt h3, decide_eq_true h19, rfl, decide_eq_true h20, rfl, trivial⟩ ?_
            obtain ⟨x21, e22, e⟩ := bI_ok e
            refine xw_call (k := 64) (j := 2) rfl (fun F => xm_c_ok (y_c_ok rfl) F) rfl rfl rfl (sX6_valueOf (by omega) e22) ?_
            rintro _ _ ⟨rfl, rfl⟩
            obtain ⟨h23, e⟩ := bC_ok e
            refine xw_y hd0 5 [] rfl ⟨h23, trivial⟩ ?_
            exact ih _ _ _ _ _ _ _ _ _ e
          · cases e
            exact xw_yr hd0 22 [0, 1, 0, 0] rfl ⟨nt h3, decide_eq_true h19, rfl, nt h20, rfl, trivial⟩ ⟨rfl, rfl⟩
        · rcases ite_ok e with ⟨h24, e⟩ | ⟨h24, e⟩
          · rcases ite_ok e with ⟨h25, e⟩ | ⟨h25, e⟩
            · refine xw_y hd0 28 [0, 0, 0, 0, 1, 0] rfl ⟨nt h3, nt h19, nnt h24, rfl, decide_eq_true h25, rfl, trivial⟩ ?_
              obtain ⟨x26, e27, e⟩ := bI_ok e
              refine xw_call (k := 64) (j := 2) rfl (fun F => xm_c_ok (y_c_ok rfl) F) rfl rfl rfl (sX6_valueOf (by omega) e27) ?_
              rintro _ _ ⟨rfl, rfl⟩
              obtain ⟨h28, e⟩ := bC_ok e
              refine xw_y hd0 5 [] rfl ⟨h28, trivial⟩ ?_
              exact ih _ _ _ _ _ _ _ _ _ e
            · cases e
              exact xw_yr hd0 25 [0, 0, 0, 0, 0] rfl ⟨nt h3, nt h19, nnt h24, rfl, nt h25, rfl, trivial⟩ ⟨rfl, rfl⟩
          · rcases ite_ok e with ⟨h29, e⟩ | ⟨h29, e⟩
            · refine xw_y hd0 27 [0, 0, 1, 0, 1, 0] rfl ⟨nt h3, nt h19, nt h24, rfl, decide_eq_true h29, rfl, trivial⟩ ?_
              obtain ⟨x30, e31, e⟩ := bI_ok e
              refine xw_call (k := 64) (j := 2) rfl (fun F => xm_c_ok (y_c_ok rfl) F) rfl rfl rfl (sX6_valueOf (by omega) e31) ?_
              rintro _ _ ⟨rfl, rfl⟩
              obtain ⟨h32, e⟩ := bC_ok e
              refine xw_y hd0 5 [] rfl ⟨h32, trivial⟩ ?_
              exact ih _ _ _ _ _ _ _ _ _ e
            · cases e
              exact xw_yr hd0 24 [0, 0, 1, 0, 0] rfl ⟨nt h3, nt h19, nt h24, rfl, nt h29, rfl, trivial⟩ ⟨rfl, rfl⟩
set_option maxRecDepth 20000 in
set_option maxHeartbeats 4000000 in
theorem sX6_saysj {LL : Nat} {xs : Nat → Int32} {tx : List xh_T} {d : Nat} {A V : xM} {cu : Value} {A' V' : xM} {c' : Value} {r : Int32} {j : Nat} {l1 : Int32} (hj : j ≤ tx.length) (hcu : cu = .ref (tref j)) (hd : 64 ≤ d) (e : fX6_saysj tx j l1 A V cu = some (r, A', V', c')) : xe (xk_ro LL xs) d 63 [.ref 81, .int l1] (xh A V tx cu) (qI r (xh A' V' tx c')) := by
  obtain ⟨d, rfl⟩ : ∃ d1, d = d1 + 1 := ⟨d - 1, by omega⟩
  replace hd : 63 ≤ d := by omega
  have hd0 : 60 ≤ d := by omega
  refine xe_of (co := xk_63) (nl := 9) rfl rfl rfl ?_
  unfold fX6_saysj at e
  subst hcu
  refine xw_y hd0 5 [] rfl trivial ?_
  refine st_get_text_0 hj rfl ?_
  refine xw_y hd0 4 [] rfl trivial ?_
  obtain ⟨x33, e34, e⟩ := bI_ok e
  refine xw_call (k := 69) (j := 2) rfl (fun F => st_recv_text hj rfl F) rfl rfl rfl (sX7_to hj (by omega) e34) ?_
  rintro _ _ ⟨rfl, rfl⟩
  refine xw_y hd0 1 [] rfl trivial ?_
  refine st_len_steps hj rfl ?_
  refine xw_y hd0 7 [] rfl trivial ?_
  obtain ⟨x35, e36, e⟩ := bI_ok e
  refine xw_call (k := 68) (j := 2) rfl (fun F => st_recv_text hj rfl F) rfl rfl rfl (sX7_from hj (by omega) e36) ?_
  rintro _ _ ⟨rfl, rfl⟩
  refine xw_y hd0 1 [] rfl trivial ?_
  refine slX6_says_L44 hj hd ?_ FU _ _ _ _ _ _ _ _ _ e
  · intro l4_37 z38 z39 z40 z41 z42 z43 z44 A45 V46 c47 e
    rcases ite_ok e with ⟨h48, e⟩ | ⟨h48, e⟩
    · cases e
      exact xw_yr hd0 5 [1] rfl ⟨decide_eq_true h48, rfl, trivial⟩ ⟨rfl, rfl⟩
    · obtain ⟨h49, e⟩ := bC_ok e
      rcases ite_ok e with ⟨h50, e⟩ | ⟨h50, e⟩
      · cases e
        exact xw_yr hd0 12 [0, 1] rfl ⟨nt h48, h49, decide_eq_true h50, rfl, trivial⟩ ⟨rfl, rfl⟩
      · cases e
        exact xw_yr hd0 13 [0, 0] rfl ⟨nt h48, h49, nt h50, rfl, trivial⟩ ⟨rfl, rfl⟩
def fX6_says (tx : List xh_T) (l1 : Int32) (A V : xM) (cu : Value) : Option (Int32 × xS) := match cu with
  | .ref q => bC (Nat.beq (tref (tidx q)) q && Nat.ble (tidx q) tx.length) (fX6_saysj tx (tidx q) l1 A V (.ref q))
  | _ => none
theorem sX6_says {LL : Nat} {xs : Nat → Int32} {tx : List xh_T} {d : Nat} {A V : xM} {cu : Value} {A' V' : xM} {c' : Value} {r : Int32} {l1 : Int32} (hd : 64 ≤ d) (e : fX6_says tx l1 A V cu = some (r, A', V', c')) : xe (xk_ro LL xs) d 63 [.ref 81, .int l1] (xh A V tx cu) (qI r (xh A' V' tx c')) := by
  unfold fX6_says at e
  cases cu with
  | ref q =>
    dsimp only at e
    obtain ⟨h, e⟩ := bC_ok e
    rw [Bool.and_eq_true] at h
    exact sX6_saysj (Nat.ble_eq.mp h.2) (by rw [Nat.eq_of_beq_eq_true h.1]) (by omega) e
  | _ => cases e
