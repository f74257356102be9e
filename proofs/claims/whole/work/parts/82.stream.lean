/-! TEXT: the stream of tokens. -/
/-- the place behind k tokens -/
def ps (t : Nat → Int32) (n : Nat) : Nat → Nat
  | 0 => 0
  | k + 1 => tkE t n (ps t n k)
section ST
variable {t : Nat → Int32} {n b : Nat}
theorem tkS_b (hb : b ≤ n) : b ≤ tkS t n b ∧ tkS t n b ≤ n := by
  obtain ⟨b1, b2, -⟩ := rn_p (q := isBl) (t := t) (n := n) (n - b) b (by omega)
  exact ⟨b1, b2⟩
theorem tkE_b (hb : b ≤ n) : tkS t n b ≤ tkE t n b ∧ tkE t n b ≤ n ∧ (tkK t n b ≠ 5 → tkS t n b < tkE t n b) := by
  obtain ⟨s1, s2⟩ := tkS_b (t := t) hb
  obtain ⟨sp, hsp⟩ : ∃ sp, sp = tkS t n b := ⟨_, rfl⟩
  unfold tkE tkK
  rw [← hsp] at s1 s2 ⊢
  by_cases hE : n ≤ sp
  · rw [if_pos hE, if_pos hE]
    exact ⟨Nat.le_refl _, s2, fun z => absurd rfl z⟩
  rw [if_neg hE]
  have up : ∀ q : Int32 → Bool, q (t sp) = true → sp < rn q t n sp ∧ rn q t n sp ≤ n := fun q hq => by
    rw [rn_s (by omega) hq]
    obtain ⟨g1, g2, -⟩ := rn_p (q := q) (t := t) (n := n) (n - (sp + 1)) (sp + 1) (by omega)
    exact ⟨by omega, g2⟩
  by_cases q1 : isLe (t sp) = true
  · rw [if_pos q1]
    have := up isLe q1
    exact ⟨by omega, by omega, fun _ => by omega⟩
  rw [if_neg q1]
  by_cases q2 : isDi (t sp) = true
  · rw [if_pos q2]
    have := up isDi q2
    exact ⟨by omega, by omega, fun _ => by omega⟩
  rw [if_neg q2]
  exact ⟨by omega, by omega, fun _ => by omega⟩
theorem ps_le : ∀ k, ps t n k ≤ n
  | 0 => Nat.zero_le _
  | k + 1 => (tkE_b (ps_le k)).2.1
theorem ps_up (k : Nat) : ps t n k ≤ ps t n (k + 1) := Nat.le_trans (tkS_b (ps_le k)).1 (tkE_b (ps_le k)).1
/-- kind, worth, place of the token k -/
def tK (t : Nat → Int32) (n k : Nat) : Nat := tkK t n (ps t n k)
def tV (t : Nat → Int32) (n k : Nat) : Int32 := tkV t n (ps t n k)
def tS (t : Nat → Int32) (n k : Nat) : Nat := tkS t n (ps t n k)
theorem ps_lt {k : Nat} (h : tK t n k ≠ 5) : ps t n k < ps t n (k + 1) := Nat.lt_of_le_of_lt (tkS_b (ps_le k)).1 ((tkE_b (ps_le k)).2.2 h)
/-- the end stays the end -/
theorem tK_end {k : Nat} (h : tK t n k = 5) : tK t n (k + 1) = 5 ∧ tS t n (k + 1) = tS t n k := by
  have hn : n ≤ tkS t n (ps t n k) := by
    unfold tK tkK at h
    by_cases q : n ≤ tkS t n (ps t n k)
    · exact q
    · rw [if_neg q] at h
      have wk5 : ∀ w, wk w ≠ 5 := fun w z => by unfold wk at z; by_cases y : w < 6 <;> simp [y] at z
      by_cases q1 : isLe (t (tkS t n (ps t n k))) = true
      · rw [if_pos q1] at h
        by_cases q2 : tkW t n (ps t n k) = 12
        · rw [if_pos q2] at h; omega
        · rw [if_neg q2] at h; exact absurd h (wk5 _)
      · rw [if_neg q1] at h
        by_cases q2 : isDi (t (tkS t n (ps t n k))) = true
        · rw [if_pos q2] at h
          by_cases q3 : tkE t n (ps t n k) - tkS t n (ps t n k) ≤ 4
          · rw [if_pos q3] at h; omega
          · rw [if_neg q3] at h; omega
        · rw [if_neg q2] at h
          by_cases q3 : isSg (t (tkS t n (ps t n k))) = true
          · rw [if_pos q3] at h; omega
          · rw [if_neg q3] at h; omega
  have e : ps t n (k + 1) = n := by
    have h1 := (tkE_b (t := t) (n := n) (b := ps t n k) (ps_le k)).1
    have h2 := (tkE_b (t := t) (n := n) (b := ps t n k) (ps_le k)).2.1
    show tkE t n (ps t n k) = n
    omega
  have hs := tkS_b (t := t) (n := n) (b := ps t n k) (ps_le k)
  have e2 : tkS t n n = n := by have := tkS_b (t := t) (n := n) (b := n) (Nat.le_refl _); omega
  refine ⟨?_, ?_⟩
  · unfold tK tkK
    rw [e, e2, if_pos (Nat.le_refl _)]
  · unfold tS
    rw [e, e2]
    omega
/-- a token that is no end is one of the first n -/
theorem tK_lt : ∀ k, tK t n k ≠ 5 → k ≤ ps t n k ∧ k < n
  | 0, h => by
    have := ps_lt h
    have h2 := ps_le (t := t) (n := n) (0 + 1)
    exact ⟨Nat.zero_le _, by omega⟩
  | k + 1, h => by
    have h0 : tK t n k ≠ 5 := fun z => h (tK_end z).1
    obtain ⟨h1, -⟩ := tK_lt k h0
    have h2 := ps_lt h0
    have h3 := ps_lt h
    have h4 := ps_le (t := t) (n := n) (k + 1 + 1)
    exact ⟨by omega, by omega⟩
end ST
