/-! TEXT: what is expected. -/
section CE
variable {A V : xM} {cu : Value} {n k : Nat} {out : List Int32}
theorem cC_6 {t : Nat → Int32} (h : tK t n k = 6) : cC t n k = 0 := by unfold cC; rw [h]; rfl
theorem at_expect (hn : n ≤ 160) {x : Int32} (hx : x ≠ 0) (h : cAt n A V k out) (hl : out.length ≤ 160) : ∃ V2, fX4_expect x A V cu = some (A, V2, cu) ∧ (cC (A 96) n k = x → cAt n A V2 (k + 1) out) ∧ (cC (A 96) n k ≠ x → cFl n V2 (tS (A 96) n k)) ∧ ∀ a j, a ≠ 95 → V2 a j = V a j := by
  unfold fX4_expect
  rw [h.2.2.1]
  by_cases q : cC (A 96) n k = x
  · rw [if_pos q]
    obtain ⟨V2, x1, x2, x3⟩ := at_next (cu := cu) hn h (fun z => hx (q.symm.trans (cC_6 z)))
    rw [x1, bS_s]
    exact ⟨V2, rfl, fun _ => x2, fun z => absurd q z, x3⟩
  · rw [if_neg q]
    obtain ⟨V2, x1, x2, x3⟩ := at_fail (cu := cu) hn h hl
    rw [x1, bS_s]
    exact ⟨V2, rfl, fun z => absurd z q, fun _ => x2, x3⟩
theorem fl_expect {f : Nat} (hf : f ≤ 160) {x : Int32} (hx : x ≠ 0) (h : cFl n V f) : ∃ V2, fX4_expect x A V cu = some (A, V2, cu) ∧ cFl n V2 f ∧ ∀ a j, a ≠ 95 → V2 a j = V a j := by
  unfold fX4_expect
  rw [h.2.1, if_neg (fun z => hx z.symm)]
  obtain ⟨V2, x1, x2, x3⟩ := fl_fail (A := A) (cu := cu) hf h
  rw [x1, bS_s]
  exact ⟨V2, rfl, x2, x3⟩
end CE
