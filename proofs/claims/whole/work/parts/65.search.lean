/-! THE SEARCH: words of companies (the latest ahead), what both searches keep, what they come to. -/
def wrun (dl : Nat → Nat → Option Nat) (M a0 : Nat) : List Nat → Option Nat
  | [] => some a0
  | c :: w => match wrun dl M a0 w with
    | none => none
    | some n => if 1 ≤ c ∧ c < M then dl n c else none
def wfst : List Nat → Nat
  | [] => 0
  | [c] => c
  | _ :: c :: w => wfst (c :: w)
theorem wfst_c {c : Nat} {w : List Nat} (h : w ≠ []) : wfst (c :: w) = wfst w := by
  cases w with
  | nil => exact absurd rfl h
  | cons d w => rfl
/-- the label of a step from a node -/
def wlb (d e l : Nat) : Nat := if d = 0 then e else l
def BI (dl : Nat → Nat → Option Nat) (M a0 i c re : Nat) (ln : Nat → Nat) (fr : Nat → Option Nat) (lb : Nat → Nat) : Prop :=
  (1 ≤ re ∧ ln 0 = a0 ∧ fr a0 = some 0) ∧
  (∀ k, k < re → ∃ d, fr (ln k) = some d ∧ d ≤ k) ∧
  (∀ n d, fr n = some d → ∃ k, k < re ∧ ln k = n) ∧
  (∀ k l, k < re → l < re → ln k = ln l → k = l) ∧
  (∀ k l d e, k ≤ l → l < re → fr (ln k) = some d → fr (ln l) = some e → d ≤ e) ∧
  (∀ k d e, k < re → i < re → fr (ln k) = some d → fr (ln i) = some e → d ≤ e + 1) ∧
  (∀ n d, fr n = some d → ∃ w, wrun dl M a0 w = some n ∧ w.length = d ∧ (1 ≤ d → lb n = wfst w)) ∧
  (∀ k e m d, k < re → (k < i ∨ (k = i ∧ e < c)) → 1 ≤ e → e < M → fr (ln k) = some d → dl (ln k) e = some m → ∃ d', fr m = some d' ∧ d' ≤ d + 1 ∧ (d' = d + 1 → lb m ≤ wlb d e (lb (ln k))))
section BFS
variable {dl : Nat → Nat → Option Nat} {M a0 i c re : Nat} {ln : Nat → Nat} {fr : Nat → Option Nat} {lb : Nat → Nat}
theorem BI_0 (f0 : Nat → Nat) (h0 : f0 0 = a0) (lb : Nat → Nat) : BI dl M a0 0 1 1 f0 (fun n => if n = a0 then some 0 else none) lb := by
  have e1 : ∀ n d, (if n = a0 then some 0 else none) = some d → n = a0 ∧ d = 0 := by
    intro n d h
    by_cases q : n = a0
    · rw [if_pos q] at h; cases h; exact ⟨q, rfl⟩
    · rw [if_neg q] at h; cases h
  refine ⟨⟨Nat.le_refl _, h0, if_pos rfl⟩, fun k hk => ?_, fun n d h => ⟨0, by decide, h0.trans (e1 n d h).1.symm⟩, fun k l hk hl _ => by omega, fun k l d e _ _ h1 h2 => ?_, fun k d e _ _ h1 h2 => ?_, fun n d h => ?_, fun k e m d hk h1 h2 h3 h4 h5 => ?_⟩
  · have : k = 0 := by omega
    subst this
    exact ⟨0, by rw [h0]; exact if_pos rfl, Nat.le_refl _⟩
  · rw [(e1 _ _ h1).2]; exact Nat.zero_le _
  · rw [(e1 _ _ h1).2]; exact Nat.zero_le _
  · obtain ⟨rfl, rfl⟩ := e1 n d h
    exact ⟨[], rfl, rfl, fun z => by omega⟩
  · omega
theorem BI_none (h : BI dl M a0 i c re ln fr lb) (hd : dl (ln i) c = none) : BI dl M a0 i (c + 1) re ln fr lb := by
  obtain ⟨b1, b2, b3, b4, b5, b6, b7, b8⟩ := h
  refine ⟨b1, b2, b3, b4, b5, b6, b7, fun k e m d hk h1 h2 h3 h4 h5 => ?_⟩
  by_cases q : k = i ∧ e = c
  · rw [q.1, q.2, hd] at h5; cases h5
  · exact b8 k e m d hk (by omega) h2 h3 h4 h5
/-- the word behind a step -/
theorem wrun_s {n m e : Nat} {w : List Nat} (h : wrun dl M a0 w = some n) (h1 : 1 ≤ e) (h2 : e < M) (h3 : dl n e = some m) : wrun dl M a0 (e :: w) = some m := by
  rw [wrun, h]
  dsimp only
  rw [if_pos ⟨h1, h2⟩, h3]
theorem wlb_w {d e l : Nat} {w : List Nat} (hw : w.length = d) (hl : 1 ≤ d → l = wfst w) : wlb d e l = wfst (e :: w) := by
  unfold wlb
  by_cases q : d = 0
  · rw [if_pos q]
    have : w = [] := List.length_eq_zero_iff.mp (by omega)
    subst this
    rfl
  · rw [if_neg q, hl (by omega), wfst_c (fun z => by subst z; exact q hw.symm)]
theorem BI_new (h : BI dl M a0 i c re ln fr lb) (hi : i < re) (hc : 1 ≤ c) (hM : c < M) {d m : Nat} (hd : fr (ln i) = some d) (hm : dl (ln i) c = some m) (hf : fr m = none) : BI dl M a0 i (c + 1) (re + 1) (va_up ln re m) (va_up fr m (some (d + 1))) (va_up lb m (wlb d c (lb (ln i)))) := by
  obtain ⟨⟨b0, b0', b0''⟩, b2, b3, b4, b5, b6, b7, b8⟩ := h
  have ne : ∀ k, k < re → ln k ≠ m := fun k hk z => by
    obtain ⟨d, h1, -⟩ := b2 k hk
    rw [z, hf] at h1; cases h1
  have lnk : ∀ k, k < re → va_up ln re m k = ln k := fun k hk => va_up_ne _ _ (by omega)
  have lnr : va_up ln re m re = m := va_up_self _ _ _
  have frk : ∀ k, k < re → va_up fr m (some (d + 1)) (ln k) = fr (ln k) := fun k hk => va_up_ne _ _ (ne k hk)
  have frm : va_up fr m (some (d + 1)) m = some (d + 1) := va_up_self _ _ _
  have fro : ∀ n, n ≠ m → va_up fr m (some (d + 1)) n = fr n := fun n hn => va_up_ne _ _ hn
  have dle : ∀ k e, k < re → fr (ln k) = some e → e ≤ d + 1 := fun k e hk h => b6 k e d hk hi h hd
  refine ⟨⟨by omega, by rw [lnk 0 (by omega)]; exact b0', ?_⟩, fun k hk => ?_, fun n e h => ?_, fun k l hk hl hkl => ?_, fun k l e f hkl hl h1 h2 => ?_, fun k e f hk _ h1 h2 => ?_, fun n e h => ?_, fun k e m' e' hk h1 h2 h3 h4 h5 => ?_⟩
  · have := frk 0 (by omega)
    rw [b0'] at this
    rw [this]
    exact b0''
  · by_cases q : k = re
    · subst q
      rw [lnr, frm]
      obtain ⟨d', g1, g2⟩ := b2 i hi
      rw [hd] at g1
      cases g1
      exact ⟨_, rfl, by omega⟩
    · rw [lnk k (by omega), frk k (by omega)]
      exact b2 k (by omega)
  · by_cases q : n = m
    · subst q
      exact ⟨re, by omega, lnr⟩
    · rw [fro n q] at h
      obtain ⟨k, g1, g2⟩ := b3 n e h
      exact ⟨k, by omega, by rw [lnk k g1]; exact g2⟩
  · by_cases q : k = re
    · by_cases q2 : l = re
      · omega
      · rw [q, lnr, lnk l (by omega)] at hkl
        exact absurd hkl.symm (ne l (by omega))
    · by_cases q2 : l = re
      · rw [q2, lnr, lnk k (by omega)] at hkl
        exact absurd hkl (ne k (by omega))
      · rw [lnk k (by omega), lnk l (by omega)] at hkl
        exact b4 k l (by omega) (by omega) hkl
  · by_cases q2 : l = re
    · rw [q2, lnr, frm] at h2
      cases h2
      by_cases q : k = re
      · rw [q, lnr, frm] at h1
        cases h1
        exact Nat.le_refl _
      · rw [lnk k (by omega), frk k (by omega)] at h1
        exact dle k e (by omega) h1
    · rw [lnk l (by omega), frk l (by omega)] at h2
      rw [lnk k (by omega), frk k (by omega)] at h1
      exact b5 k l e f hkl (by omega) h1 h2
  · rw [lnk i hi, frk i hi, hd] at h2
    cases h2
    by_cases q : k = re
    · rw [q, lnr, frm] at h1
      cases h1
      exact Nat.le_refl _
    · rw [lnk k (by omega), frk k (by omega)] at h1
      exact dle k e (by omega) h1
  · by_cases q : n = m
    · subst q
      rw [frm] at h
      cases h
      obtain ⟨w, g1, g2, g3⟩ := b7 (ln i) d hd
      refine ⟨c :: w, wrun_s g1 hc hM hm, by rw [List.length_cons, g2], fun _ => ?_⟩
      rw [va_up_self]
      exact wlb_w g2 g3
    · rw [fro n q] at h
      obtain ⟨w, g1, g2, g3⟩ := b7 n e h
      exact ⟨w, g1, g2, fun z => by rw [va_up_ne _ _ q]; exact g3 z⟩
  · have hk2 : k < re := by omega
    rw [lnk k hk2] at h4 h5
    rw [frk k hk2] at h4
    rw [lnk k hk2, va_up_ne _ _ (ne k hk2)]
    by_cases q : k = i ∧ e = c
    · obtain ⟨rfl, rfl⟩ := q
      rw [hm] at h5
      cases h5
      rw [hd] at h4
      cases h4
      exact ⟨_, frm, Nat.le_refl _, fun _ => by rw [va_up_self]; exact Nat.le_refl _⟩
    · obtain ⟨d', g1, g2, g3⟩ := b8 k e m' e' hk2 (by omega) h2 h3 h4 h5
      have hne : m' ≠ m := fun z => by rw [z, hf] at g1; cases g1
      exact ⟨d', by rw [fro _ hne]; exact g1, g2, fun z => by rw [va_up_ne _ _ hne]; exact g3 z⟩
theorem BI_skip (h : BI dl M a0 i c re ln fr lb) (hi : i < re) {d d' m : Nat} (hd : fr (ln i) = some d) (hm : dl (ln i) c = some m) (hf : fr m = some d') (hne : d' ≠ d + 1) : BI dl M a0 i (c + 1) re ln fr lb := by
  obtain ⟨b1, b2, b3, b4, b5, b6, b7, b8⟩ := h
  refine ⟨b1, b2, b3, b4, b5, b6, b7, fun k e m' e' hk h1 h2 h3 h4 h5 => ?_⟩
  by_cases q : k = i ∧ e = c
  · obtain ⟨rfl, rfl⟩ := q
    rw [hm] at h5
    cases h5
    rw [hd] at h4
    cases h4
    obtain ⟨k', g1, g2⟩ := b3 m d' hf
    have := b6 k' d' d g1 hi (by rw [g2]; exact hf) hd
    exact ⟨d', hf, this, fun z => absurd z hne⟩
  · exact b8 k e m' e' hk (by omega) h2 h3 h4 h5
theorem BI_lab (h : BI dl M a0 i c re ln fr lb) (hi : i < re) (hc : 1 ≤ c) (hM : c < M) {d m x : Nat} (hd : fr (ln i) = some d) (hm : dl (ln i) c = some m) (hf : fr m = some (d + 1)) (hx : x = min (lb m) (wlb d c (lb (ln i)))) : BI dl M a0 i (c + 1) re ln fr (va_up lb m x) := by
  obtain ⟨b1, b2, b3, b4, b5, b6, b7, b8⟩ := h
  have ne : ∀ k, k ≤ i → ln k ≠ m := fun k hk z => by
    obtain ⟨d1, h1, -⟩ := b2 k (by omega)
    have := b5 k i d1 d hk hi h1 hd
    rw [z, hf] at h1
    cases h1
    omega
  refine ⟨b1, b2, b3, b4, b5, b6, fun n e h => ?_, fun k e m' e' hk h1 h2 h3 h4 h5 => ?_⟩
  · by_cases q : n = m
    · subst q
      rw [hf] at h
      cases h
      rw [va_up_self]
      obtain ⟨w, g1, g2, g3⟩ := b7 n (d + 1) hf
      obtain ⟨u, k1, k2, k3⟩ := b7 (ln i) d hd
      by_cases z : lb n ≤ wlb d c (lb (ln i))
      · exact ⟨w, g1, g2, fun _ => by rw [hx, Nat.min_eq_left z]; exact g3 (by omega)⟩
      · refine ⟨c :: u, wrun_s k1 hc hM hm, by rw [List.length_cons, k2], fun _ => ?_⟩
        rw [hx, Nat.min_eq_right (by omega)]
        exact wlb_w k2 k3
    · rw [va_up_ne _ _ q]
      exact b7 n e h
  · have hki : k ≤ i := by omega
    rw [va_up_ne _ _ (ne k hki)]
    by_cases q : k = i ∧ e = c
    · obtain ⟨rfl, rfl⟩ := q
      rw [hm] at h5
      cases h5
      rw [hd] at h4
      cases h4
      exact ⟨_, hf, Nat.le_refl _, fun _ => by rw [va_up_self, hx]; exact Nat.min_le_right _ _⟩
    · obtain ⟨d', g1, g2, g3⟩ := b8 k e m' e' hk (by omega) h2 h3 h4 h5
      refine ⟨d', g1, g2, fun z => ?_⟩
      by_cases y : m' = m
      · subst y
        rw [va_up_self, hx]
        exact Nat.le_trans (Nat.min_le_left _ _) (g3 z)
      · rw [va_up_ne _ _ y]
        exact g3 z
theorem BI_next (h : BI dl M a0 i M re ln fr lb) (hi : i < re) : BI dl M a0 (i + 1) 1 re ln fr lb := by
  obtain ⟨b1, b2, b3, b4, b5, b6, b7, b8⟩ := h
  refine ⟨b1, b2, b3, b4, b5, fun k d e hk hi2 h1 h2 => ?_, b7, fun k e m d hk h1 h2 h3 h4 h5 => b8 k e m d hk (by omega) h2 h3 h4 h5⟩
  obtain ⟨d0, g1, -⟩ := b2 i hi
  have := b6 k d d0 hk hi h1 g1
  have := b5 i (i + 1) d0 e (by omega) hi2 g1 h2
  omega
/-- what is found is complete as far as the line is done -/
theorem BI_all (h : BI dl M a0 i 1 re ln fr lb) (D : Nat) (hD : ∀ k d, k < re → fr (ln k) = some d → d < D → k < i) : ∀ (w : List Nat) (n : Nat), wrun dl M a0 w = some n → w.length ≤ D → ∃ d, fr n = some d ∧ d ≤ w.length ∧ (d = w.length → 1 ≤ d → lb n ≤ wfst w) := by
  obtain ⟨⟨b0, b0', b0''⟩, b2, b3, b4, b5, b6, b7, b8⟩ := h
  intro w
  induction w with
  | nil =>
    intro n hw _
    cases hw
    exact ⟨0, b0'', Nat.le_refl _, fun _ z => by omega⟩
  | cons c u ih =>
    intro n hw hl
    rw [List.length_cons] at hl
    rw [wrun] at hw
    cases hu : wrun dl M a0 u with
    | none => rw [hu] at hw; cases hw
    | some n0 =>
      rw [hu] at hw
      dsimp only at hw
      by_cases hc : 1 ≤ c ∧ c < M
      rotate_left
      · rw [if_neg hc] at hw; cases hw
      rw [if_pos hc] at hw
      obtain ⟨d0, g1, g2, g3⟩ := ih n0 hu (by omega)
      obtain ⟨k, k1, k2⟩ := b3 n0 d0 g1
      have ki : k < i := hD k d0 k1 (by rw [k2]; exact g1) (by omega)
      obtain ⟨d', e1, e2, e3⟩ := b8 k c n d0 k1 (Or.inl ki) hc.1 hc.2 (by rw [k2]; exact g1) (by rw [k2]; exact hw)
      rw [k2] at e3
      refine ⟨d', e1, by rw [List.length_cons]; omega, fun z _ => ?_⟩
      rw [List.length_cons] at z
      have hd0 : d0 = u.length := by omega
      have := e3 (by omega)
      unfold wlb at this
      by_cases q : d0 = 0
      · rw [if_pos q] at this
        have : u = [] := List.length_eq_zero_iff.mp (by omega)
        subst this
        assumption
      · rw [if_neg q] at this
        rw [wfst_c (fun z => by subst z; exact q hd0)]
        exact Nat.le_trans this (g3 hd0 (by omega))
end BFS
/-- what a search comes to -/
def isBest (dl : Nat → Nat → Option Nat) (M a0 : Nat) (dn : Nat → Prop) (D L : Nat) : Prop :=
  (∃ w n, wrun dl M a0 w = some n ∧ dn n ∧ w.length = D ∧ (1 ≤ D → wfst w = L)) ∧ ∀ w n, wrun dl M a0 w = some n → dn n → D ≤ w.length ∧ (w.length = D → 1 ≤ D → L ≤ wfst w)
def noBest (dl : Nat → Nat → Option Nat) (M a0 : Nat) (dn : Nat → Prop) : Prop := ∀ w n, wrun dl M a0 w = some n → ¬ dn n
/-- two searches that are done by the same words come to the same -/
theorem best_eq {dl dl' : Nat → Nat → Option Nat} {M a0 a0' : Nat} {dn dn' : Nat → Prop} (hw : ∀ w, (∃ n, wrun dl M a0 w = some n ∧ dn n) ↔ ∃ n, wrun dl' M a0' w = some n ∧ dn' n) {D L D' L' : Nat} (h : isBest dl M a0 dn D L) (h' : isBest dl' M a0' dn' D' L') : D = D' ∧ (1 ≤ D → L = L') := by
  obtain ⟨⟨w, n, a1, a2, a3, a4⟩, a5⟩ := h
  obtain ⟨⟨w', n', c1, c2, c3, c4⟩, c5⟩ := h'
  obtain ⟨m, e1, e2⟩ := (hw w).mp ⟨n, a1, a2⟩
  obtain ⟨m', f1, f2⟩ := (hw w').mpr ⟨n', c1, c2⟩
  have g1 := c5 w m e1 e2
  have g2 := a5 w' m' f1 f2
  have hD : D = D' := by omega
  refine ⟨hD, fun z => ?_⟩
  have k1 := g1.2 (by omega) (by omega)
  have k2 := g2.2 (by omega) (by omega)
  rw [a4 z] at k1
  rw [c4 (by omega)] at k2
  omega
theorem best_no {dl dl' : Nat → Nat → Option Nat} {M a0 a0' : Nat} {dn dn' : Nat → Prop} (hw : ∀ w, (∃ n, wrun dl M a0 w = some n ∧ dn n) ↔ ∃ n, wrun dl' M a0' w = some n ∧ dn' n) (h : noBest dl M a0 dn) {D' L' : Nat} (h' : isBest dl' M a0' dn' D' L') : False := by
  obtain ⟨⟨w', n', c1, c2, -, -⟩, -⟩ := h'
  obtain ⟨m', f1, f2⟩ := (hw w').mpr ⟨n', c1, c2⟩
  exact h w' m' f1 f2
/-- no more than n numbers below n -/
theorem pigeon : ∀ (n r : Nat) (f : Nat → Nat), (∀ k, k < r → f k < n) → (∀ k l, k < r → l < r → f k = f l → k = l) → r ≤ n
  | 0, r, f, h1, _ => by
    by_cases q : r = 0
    · omega
    · have := h1 0 (by omega); omega
  | n + 1, r, f, h1, h2 => by
    by_cases q : ∃ k, k < r ∧ f k = n
    · obtain ⟨k0, hk0, hn⟩ := q
      -- the last takes the place of k0
      have := pigeon n (r - 1) (fun k => if k = k0 then f (r - 1) else f k) (fun k hk => ?_) (fun k l hk hl hkl => ?_)
      · omega
      · show (if k = k0 then f (r - 1) else f k) < n
        by_cases z : k = k0
        · rw [if_pos z]
          have a1 := h1 (r - 1) (by omega)
          have a2 : f (r - 1) ≠ n := fun y => by
            have := h2 (r - 1) k0 (by omega) hk0 (y.trans hn.symm)
            omega
          omega
        · rw [if_neg z]
          have a1 := h1 k (by omega)
          have a2 : f k ≠ n := fun y => z (h2 k k0 (by omega) hk0 (y.trans hn.symm))
          omega
      · have hkl : (if k = k0 then f (r - 1) else f k) = (if l = k0 then f (r - 1) else f l) := hkl
        by_cases z : k = k0
        · by_cases y : l = k0
          · omega
          · rw [if_pos z, if_neg y] at hkl
            have := h2 (r - 1) l (by omega) (by omega) hkl
            omega
        · by_cases y : l = k0
          · rw [if_neg z, if_pos y] at hkl
            have := h2 k (r - 1) (by omega) (by omega) hkl
            omega
          · rw [if_neg z, if_neg y] at hkl
            exact h2 k l (by omega) (by omega) hkl
    · have := pigeon n r f (fun k hk => by
        have a1 := h1 k hk
        have a2 : f k ≠ n := fun y => q ⟨k, hk, y⟩
        omega) h2
      omega
/-- a place for a new one -/
theorem room_new {dl : Nat → Nat → Option Nat} {M a0 i c re : Nat} {ln : Nat → Nat} {fr : Nat → Option Nat} {lb : Nat → Nat} (h : BI dl M a0 i c re ln fr lb) {S m : Nat} (hS : ∀ k, k < re → ln k < S) (hm : m < S) (hf : fr m = none) : re < S := by
  obtain ⟨-, b2, -, b4, -⟩ := h
  have ne : ∀ k, k < re → ln k ≠ m := fun k hk z => by
    obtain ⟨d, h1, -⟩ := b2 k hk
    rw [z, hf] at h1; cases h1
  have := pigeon S (re + 1) (va_up ln re m) (fun k hk => ?_) (fun k l hk hl hkl => ?_)
  · omega
  · by_cases q : k = re
    · rw [q, va_up_self]; exact hm
    · rw [va_up_ne _ _ q]; exact hS k (by omega)
  · by_cases q : k = re
    · by_cases q2 : l = re
      · omega
      · rw [q, va_up_self, va_up_ne _ _ q2] at hkl
        exact absurd hkl.symm (ne l (by omega))
    · by_cases q2 : l = re
      · rw [q2, va_up_self, va_up_ne _ _ q] at hkl
        exact absurd hkl (ne k (by omega))
      · rw [va_up_ne _ _ q, va_up_ne _ _ q2] at hkl
        exact b4 k l (by omega) (by omega) hkl
