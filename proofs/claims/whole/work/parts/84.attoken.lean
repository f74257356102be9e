/-! TEXT: the class at a token. -/
def cC (t : Nat → Int32) (n k : Nat) : Int32 := ctk (tK t n k) (tV t n k)
/-- at the token k, with these steps -/
def cAt (n : Nat) (A V : xM) (k : Nat) (out : List Int32) : Prop := V 95 1 = nI n ∧ V 95 7 = nI (ps (A 96) n (k + 1)) ∧ V 95 5 = cC (A 96) n k ∧ V 95 6 = nI (tS (A 96) n k) ∧ (tK (A 96) n k = 1 → V 95 8 = tV (A 96) n k) ∧ V 95 2 = (if tK (A 96) n k = 6 then nI (tS (A 96) n k) else -1) ∧ V 95 4 = nI out.length ∧ ∀ i, i < out.length → A 97 i = out.getD i 0
/-- it went wrong at f -/
def cFl (n : Nat) (V : xM) (f : Nat) : Prop := V 95 1 = nI n ∧ V 95 5 = 0 ∧ V 95 2 = nI f ∧ ∃ m, m ≤ 160 ∧ V 95 4 = nI m
section CA
variable {A V : xM} {cu : Value} {n k : Nat} {out : List Int32}
theorem at_next (hn : n ≤ 160) (h : cAt n A V k out) (hk : tK (A 96) n k ≠ 6) : ∃ V2, fX4_next A V cu = some (A, V2, cu) ∧ cAt n A V2 (k + 1) out ∧ ∀ a j, a ≠ 95 → V2 a j = V a j := by
  obtain ⟨h1, h7, h5, h6, h8, h2, h4, ho⟩ := h
  rw [if_neg hk] at h2
  obtain ⟨V2, x1, x2, x3, x4, x5, x6, x7⟩ := c_next (A := A) (cu := cu) hn (ps_le (t := A 96) (k + 1)) h1 h7
  refine ⟨V2, x1, ⟨by rw [x7 _ _ (by omega)]; exact h1, x4, x2, x3, x5, ?_, by rw [x7 _ _ (by omega)]; exact h4, ho⟩, fun a j h => x7 a j (by omega)⟩
  rw [x6, h2]
  by_cases q : tK (A 96) n (k + 1) = 6
  · have q' : tkK (A 96) n (ps (A 96) n (k + 1)) = 6 := q
    rw [if_pos ⟨q', rfl⟩, if_pos q]
    rfl
  · have q' : ¬ tkK (A 96) n (ps (A 96) n (k + 1)) = 6 := q
    rw [if_neg (fun z => q' z.1), if_neg q]
/-- a token that is none is a fault already -/
theorem at_bad (h : cAt n A V k out) (hl : out.length ≤ 160) (hk : tK (A 96) n k = 6) : cFl n V (tS (A 96) n k) := by
  obtain ⟨h1, h7, h5, h6, h8, h2, h4, ho⟩ := h
  rw [if_pos hk] at h2
  refine ⟨h1, ?_, h2, out.length, hl, h4⟩
  rw [h5]
  unfold cC
  rw [hk]
  rfl
theorem at_fail (hn : n ≤ 160) (h : cAt n A V k out) (hl : out.length ≤ 160) : ∃ V2, fX4_fail A V cu = some (A, V2, cu) ∧ cFl n V2 (tS (A 96) n k) ∧ ∀ a j, a ≠ 95 → V2 a j = V a j := by
  obtain ⟨h1, h7, h5, h6, h8, h2, h4, ho⟩ := h
  obtain ⟨V2, x1, x2, x3, x4⟩ := c_fail (A := A) (cu := cu) h6
  refine ⟨V2, x1, ⟨by rw [x4 _ _ (by omega)]; exact h1, x2, ?_, out.length, hl, by rw [x4 _ _ (by omega)]; exact h4⟩, fun a j h => x4 a j (by omega)⟩
  rw [x3, h2]
  have hs := (tkS_b (t := A 96) (n := n) (b := ps (A 96) n k) (ps_le k)).2
  have hs : tS (A 96) n k ≤ n := hs
  by_cases q : tK (A 96) n k = 6
  · rw [if_pos q, if_neg (by simp (disch := omega) only [ltI, leI, eqI, tI, tI1, ti_0, ti_1, ti_2, ti_3, ti_4, ti_5, ti_6, ti_7, ti_8, ti_9, ti_10, ti_11, ti_12, ti_14, ti_18, ti_30, ti_39, ti_40, ti_41, ti_45, ti_50, ti_59, ti_97, ti_99, ti_100, ti_122, ti_160, ti_243, ti_255, ti_399, ti_999, ti_1000, ti_1024, ti_99999, tm_1, tm_2, tm_3, tm_4, tm_5, tm_7, tm_11, tm_12, tm_13, tm_14, tm_100, if_pos, if_neg, if_true, if_false, bC_in, bI_s, bS_s, bX_s, bY_s, sO, tC]; omega)]
  · rw [if_neg q, if_pos rfl]
theorem fl_fail {f : Nat} (hf : f ≤ 160) (h : cFl n V f) : ∃ V2, fX4_fail A V cu = some (A, V2, cu) ∧ cFl n V2 f ∧ ∀ a j, a ≠ 95 → V2 a j = V a j := by
  obtain ⟨h1, h5, h2, m, hm, h4⟩ := h
  obtain ⟨V2, x1, x2, x3, x4⟩ := c_fail (A := A) (V := V) (cu := cu) rfl
  refine ⟨V2, x1, ⟨by rw [x4 _ _ (by omega)]; exact h1, x2, ?_, m, hm, by rw [x4 _ _ (by omega)]; exact h4⟩, fun a j h => x4 a j (by omega)⟩
  rw [x3, h2, if_neg (by simp (disch := omega) only [ltI, leI, eqI, tI, tI1, ti_0, ti_1, ti_2, ti_3, ti_4, ti_5, ti_6, ti_7, ti_8, ti_9, ti_10, ti_11, ti_12, ti_14, ti_18, ti_30, ti_39, ti_40, ti_41, ti_45, ti_50, ti_59, ti_97, ti_99, ti_100, ti_122, ti_160, ti_243, ti_255, ti_399, ti_999, ti_1000, ti_1024, ti_99999, tm_1, tm_2, tm_3, tm_4, tm_5, tm_7, tm_11, tm_12, tm_13, tm_14, tm_100, if_pos, if_neg, if_true, if_false, bC_in, bI_s, bS_s, bX_s, bY_s, sO, tC]; omega)]
end CA
