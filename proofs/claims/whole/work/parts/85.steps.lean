/-! TEXT: steps and what is expected. -/
section CB
variable {A V : xM} {cu : Value} {n k : Nat} {out : List Int32}
theorem fl_step {f : Nat} (s : Int32) (h : cFl n V f) : ∃ A2 V2, fX4_step s A V cu = some (A2, V2, cu) ∧ cFl n V2 f ∧ (∀ b, b ≠ 97 → A2 b = A b) ∧ ∀ a j, a ≠ 95 → V2 a j = V a j := by
  obtain ⟨h1, h5, h2, m, hm, h4⟩ := h
  unfold fX4_step
  rw [h4]
  by_cases q : m = 160
  · rw [if_pos (by simp (disch := omega) only [ltI, leI, eqI, tI, tI1, ti_0, ti_1, ti_2, ti_3, ti_4, ti_5, ti_6, ti_7, ti_8, ti_9, ti_10, ti_11, ti_12, ti_14, ti_18, ti_30, ti_39, ti_40, ti_41, ti_45, ti_50, ti_59, ti_97, ti_99, ti_100, ti_122, ti_160, ti_243, ti_255, ti_399, ti_999, ti_1000, ti_1024, ti_99999, tm_1, tm_2, tm_3, tm_4, tm_5, tm_7, tm_11, tm_12, tm_13, tm_14, tm_100, if_pos, if_neg, if_true, if_false, bC_in, bI_s, bS_s, bX_s, bY_s, sO, tC]; omega)]
    exact ⟨A, V, rfl, ⟨h1, h5, h2, m, hm, h4⟩, fun _ _ => rfl, fun _ _ _ => rfl⟩
  · rw [if_neg (by simp (disch := omega) only [ltI, leI, eqI, tI, tI1, ti_0, ti_1, ti_2, ti_3, ti_4, ti_5, ti_6, ti_7, ti_8, ti_9, ti_10, ti_11, ti_12, ti_14, ti_18, ti_30, ti_39, ti_40, ti_41, ti_45, ti_50, ti_59, ti_97, ti_99, ti_100, ti_122, ti_160, ti_243, ti_255, ti_399, ti_999, ti_1000, ti_1024, ti_99999, tm_1, tm_2, tm_3, tm_4, tm_5, tm_7, tm_11, tm_12, tm_13, tm_14, tm_100, if_pos, if_neg, if_true, if_false, bC_in, bI_s, bS_s, bX_s, bY_s, sO, tC]; omega), bC_in ⟨by omega, by decide⟩, nI_1]
    exact ⟨_, _, rfl, ⟨by rw [up2_n (by omega)]; exact h1, by rw [up2_n (by omega)]; exact h5, by rw [up2_n (by omega)]; exact h2, m + 1, by omega, up2_s _ _ _ _⟩, fun b hb => aw_n hb, fun a j h => up2_n (by omega)⟩
theorem at_step (s : Int32) (hl : out.length < 160) (h : cAt n A V k out) : ∃ A2 V2, fX4_step s A V cu = some (A2, V2, cu) ∧ cAt n A2 V2 k (out ++ [s]) ∧ (∀ b, b ≠ 97 → A2 b = A b) ∧ ∀ a j, a ≠ 95 → V2 a j = V a j := by
  obtain ⟨h1, h7, h5, h6, h8, h2, h4, ho⟩ := h
  unfold fX4_step
  rw [h4, if_neg (by simp (disch := omega) only [ltI, leI, eqI, tI, tI1, ti_0, ti_1, ti_2, ti_3, ti_4, ti_5, ti_6, ti_7, ti_8, ti_9, ti_10, ti_11, ti_12, ti_14, ti_18, ti_30, ti_39, ti_40, ti_41, ti_45, ti_50, ti_59, ti_97, ti_99, ti_100, ti_122, ti_160, ti_243, ti_255, ti_399, ti_999, ti_1000, ti_1024, ti_99999, tm_1, tm_2, tm_3, tm_4, tm_5, tm_7, tm_11, tm_12, tm_13, tm_14, tm_100, if_pos, if_neg, if_true, if_false, bC_in, bI_s, bS_s, bX_s, bY_s, sO, tC]; omega), bC_in ⟨by omega, by decide⟩, nI_1]
  have e95 : (aw A 97 (nI out.length) s) 96 = A 96 := aw_n (by decide)
  refine ⟨_, _, rfl, ?_, fun b hb => aw_n hb, fun a j h => up2_n (by omega)⟩
  unfold cAt
  rw [e95]
  refine ⟨by rw [up2_n (by omega)]; exact h1, by rw [up2_n (by omega)]; exact h7, by rw [up2_n (by omega)]; exact h5, by rw [up2_n (by omega)]; exact h6, fun z => by rw [up2_n (by omega)]; exact h8 z, by rw [up2_n (by omega)]; exact h2, by rw [up2_s, List.length_append]; rfl, fun i hi => ?_⟩
  rw [List.length_append, List.length_singleton] at hi
  rw [aw_s, tC (by omega)]
  by_cases q : i = out.length
  · rw [q, pk_us]
    simp
  · rw [pk_un q, ho i (by omega)]
    simp [List.getElem?_append_left (show i < out.length by omega)]
end CB
