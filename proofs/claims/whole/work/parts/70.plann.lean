/-! PLANS, the class's search: what is wanted. -/
def pcd (i c k e : Nat) : Prop := k < i ∨ (k = i ∧ e < c)
def fI (V : xM) (dl : Nat → Nat → Option Nat) (M a0 : Nat) (dn : Nat → Prop) (i c : Nat) (ln : Nat → Nat) (Q : Nat → Prop) : Prop :=
  (V 84 0 = -1 ∧ V 84 1 = -1 ∧ ∀ k e m, pcd i c k e → 1 ≤ e → e < M → dl (ln k) e = some m → ¬ dn m) ∨
  ∃ D L, Q D ∧ 1 ≤ D ∧ D ≤ 1000 ∧ L < 32 ∧ V 84 0 = nI D ∧ V 84 1 = nI L ∧ (∃ w m, wrun dl M a0 w = some m ∧ dn m ∧ w.length = D ∧ wfst w = L) ∧ ∀ k e m w0, pcd i c k e → 1 ≤ e → e < M → dl (ln k) e = some m → dn m → wrun dl M a0 w0 = some (ln k) → D ≤ w0.length + 1 ∧ (w0.length + 1 = D → L ≤ wfst (e :: w0))
section FI
variable {dl : Nat → Nat → Option Nat} {M a0 i c re : Nat} {ln : Nat → Nat} {fr : Nat → Option Nat} {lb : Nat → Nat} {dn : Nat → Prop} {V V2 : xM} {Q : Nat → Prop}
theorem pcd_s {k e : Nat} (h : pcd i (c + 1) k e) : pcd i c k e ∨ (k = i ∧ e = c) := by
  unfold pcd at *
  omega
theorem fI_no (h : fI V dl M a0 dn i c ln Q) (hn : ∀ m, dl (ln i) c = some m → ¬ dn m) : fI V dl M a0 dn i (c + 1) ln Q := by
  rcases h with ⟨h1, h2, h3⟩ | ⟨D, L, h1, h2, h3, h4, h5, h6, h7, h8⟩
  · refine Or.inl ⟨h1, h2, fun k e m hp he hM hm => ?_⟩
    rcases pcd_s hp with z | ⟨rfl, rfl⟩
    · exact h3 k e m z he hM hm
    · exact hn m hm
  · refine Or.inr ⟨D, L, h1, h2, h3, h4, h5, h6, h7, fun k e m w0 hp he hM hm hd hw => ?_⟩
    rcases pcd_s hp with z | ⟨rfl, rfl⟩
    · exact h8 k e m w0 z he hM hm hd hw
    · exact absurd hd (hn m hm)
theorem fI_ln {ln' : Nat → Nat} (h : fI V dl M a0 dn i c ln Q) (hl : ∀ k, k ≤ i → ln' k = ln k) (h0 : V2 84 0 = V 84 0) (h1 : V2 84 1 = V 84 1) : fI V2 dl M a0 dn i c ln' Q := by
  have pk : ∀ k e, pcd i c k e → ln' k = ln k := fun k e hp => hl k (by unfold pcd at hp; omega)
  rcases h with ⟨g1, g2, g3⟩ | ⟨D, L, g1, g2, g3, g4, g5, g6, g7, g8⟩
  · exact Or.inl ⟨h0.trans g1, h1.trans g2, fun k e m hp he hM hm => by rw [pk k e hp] at hm; exact g3 k e m hp he hM hm⟩
  · exact Or.inr ⟨D, L, g1, g2, g3, g4, h0.trans g5, h1.trans g6, g7, fun k e m w0 hp he hM hm hd hw => by rw [pk k e hp] at hm hw; exact g8 k e m w0 hp he hM hm hd hw⟩
theorem BI_low (hB : BI dl M a0 i c re ln fr lb) (hi : i < re) {d : Nat} (hd : fr (ln i) = some d) (e : Nat) : ∀ w0, wrun dl M a0 w0 = some (ln i) → d ≤ w0.length ∧ (w0.length = d → wlb d e (lb (ln i)) ≤ wfst (e :: w0)) := by
  intro w0 hw
  have hB1 : BI dl M a0 i 1 re ln fr lb := by
    obtain ⟨b1, b2, b3, b4, b5, b6, b7, b8⟩ := hB
    exact ⟨b1, b2, b3, b4, b5, b6, b7, fun k e m d hk h1 h2 h3 h4 h5 => b8 k e m d hk (by omega) h2 h3 h4 h5⟩
  by_cases hl : w0.length ≤ d
  · obtain ⟨d', g1, g2, g3⟩ := BI_all hB1 d (fun k d' hk hk2 hlt => by
      by_cases y : k < i
      · exact y
      · have := hB.2.2.2.2.1 i k d d' (by omega) hk hd hk2
        omega) w0 (ln i) hw hl
    rw [hd] at g1
    cases g1
    refine ⟨g2, fun z => ?_⟩
    unfold wlb
    by_cases q : d = 0
    · rw [if_pos q]
      have : w0 = [] := List.length_eq_zero_iff.mp (by omega)
      subst this
      exact Nat.le_refl _
    · rw [if_neg q, wfst_c (fun z' => by subst z'; exact q z.symm)]
      exact g3 z.symm (by omega)
  · exact ⟨by omega, fun z => by omega⟩
theorem fI_yes {d m wl : Nat} (h : fI V dl M a0 dn i c ln (fun D => D = d + 1)) (hB : BI dl M a0 i c re ln fr lb) (hi : i < re) (hd5 : d < 1000) (hc1 : 1 ≤ c) (hcM : c < M) (hd : fr (ln i) = some d) (hm : dl (ln i) c = some m) (hdn : dn m) (hwl : wl = wlb d c (lb (ln i))) (hwl5 : wl < 32) (h0 : V2 84 0 = nI (d + 1)) (h1 : V 84 1 = -1 → V2 84 1 = nI wl) (h2 : ∀ L, L < 32 → V 84 1 = nI L → V2 84 1 = nI (min L wl)) : fI V2 dl M a0 dn i (c + 1) ln (fun D => D = d + 1) := by
  obtain ⟨w, w1, w2, w3⟩ := hB.2.2.2.2.2.2.1 (ln i) d hd
  have hword : wrun dl M a0 (c :: w) = some m := wrun_s w1 hc1 hcM hm
  have hlab : wfst (c :: w) = wl := by rw [hwl]; exact (wlb_w w2 w3).symm
  have hlow := BI_low hB hi hd c
  rcases h with ⟨g1, g2, g3⟩ | ⟨D, L, g1, g2, g3, g4, g5, g6, g7, g8⟩
  · refine Or.inr ⟨d + 1, wl, rfl, by omega, by omega, hwl5, h0, h1 g2, ⟨c :: w, m, hword, hdn, by rw [List.length_cons, w2], hlab⟩, fun k e m' w0 hp he hM' hm' hd' hw => ?_⟩
    rcases pcd_s hp with z | ⟨rfl, rfl⟩
    · exact absurd hd' (g3 k e m' z he hM' hm')
    · obtain ⟨q1, q2⟩ := hlow w0 hw
      exact ⟨by omega, fun z => by rw [hwl]; exact q2 (by omega)⟩
  · have g1 : D = d + 1 := g1
    subst g1
    refine Or.inr ⟨d + 1, min L wl, rfl, by omega, by omega, by omega, h0, h2 L g4 g6, ?_, fun k e m' w0 hp he hM' hm' hd' hw => ?_⟩
    · by_cases q : L ≤ wl
      · rw [Nat.min_eq_left q]; exact g7
      · rw [Nat.min_eq_right (by omega)]
        exact ⟨c :: w, m, hword, hdn, by rw [List.length_cons, w2], hlab⟩
    · rcases pcd_s hp with z | ⟨rfl, rfl⟩
      · obtain ⟨q1, q2⟩ := g8 k e m' w0 z he hM' hm' hd' hw
        exact ⟨q1, fun y => Nat.le_trans (Nat.min_le_left _ _) (q2 y)⟩
      · obtain ⟨q1, q2⟩ := hlow w0 hw
        exact ⟨by omega, fun z => Nat.le_trans (Nat.min_le_right _ _) (by rw [hwl]; exact q2 (by omega))⟩
def cres (V : xM) (dl : Nat → Nat → Option Nat) (M a0 : Nat) (dn : Nat → Prop) : Prop := (V 84 0 = -1 ∧ V 84 1 = -1 ∧ noBest dl M a0 dn) ∨ ∃ D L, D ≤ 1024 ∧ V 84 0 = nI D ∧ V 84 1 = olb D L ∧ isBest dl M a0 dn D L
theorem w_cases {w : List Nat} {n : Nat} (hw : wrun dl M a0 w = some n) : (w = [] ∧ n = a0) ∨ ∃ e w0 n0, w = e :: w0 ∧ wrun dl M a0 w0 = some n0 ∧ 1 ≤ e ∧ e < M ∧ dl n0 e = some n := by
  cases w with
  | nil => exact Or.inl ⟨rfl, (Option.some.inj hw).symm⟩
  | cons e w0 =>
    right
    rw [wrun] at hw
    cases hu : wrun dl M a0 w0 with
    | none => rw [hu] at hw; cases hw
    | some n0 =>
      rw [hu] at hw
      dsimp only at hw
      by_cases hc : 1 ≤ e ∧ e < M
      · rw [if_pos hc] at hw
        exact ⟨e, w0, n0, rfl, hu, hc.1, hc.2, hw⟩
      · rw [if_neg hc] at hw; cases hw
/-- the line is done, or what is ahead is too far -/
theorem fI_end (h : fI V dl M a0 dn i 1 ln Q) (hB : BI dl M a0 i 1 re ln fr lb) (h0 : ¬ dn a0) (hs : i = re ∨ ∃ D d, V 84 0 = nI D ∧ D ≤ 1000 ∧ i < re ∧ fr (ln i) = some d ∧ D ≤ d) : cres V dl M a0 dn := by
  rcases h with ⟨g1, g2, g3⟩ | ⟨D, L, g1, g2, g3, g4, g5, g6, ⟨w, m, y1, y2, y3, y4⟩, g8⟩
  · rcases hs with hs | ⟨D, d, z1, z2, -⟩
    · refine Or.inl ⟨g1, g2, fun w n hw hn => ?_⟩
      rcases w_cases hw with ⟨-, rfl⟩ | ⟨e, w0, n0, rfl, hw0, he, hM, hl⟩
      · exact h0 hn
      · obtain ⟨d, f1, -⟩ := BI_all hB w0.length (fun k d hk _ _ => by omega) w0 n0 hw0 (Nat.le_refl _)
        obtain ⟨k, k1, k2⟩ := hB.2.2.1 n0 d f1
        exact g3 k e n (Or.inl (by omega)) he hM (by rw [k2]; exact hl) hn
    · rw [g1] at z1
      exact absurd z1 (by simp (disch := omega) only [ltI, leI, eqI, tI, tI1, ti_0, ti_1, ti_2, ti_3, ti_4, ti_5, ti_6, ti_7, ti_8, ti_9, ti_10, ti_11, ti_12, ti_14, ti_18, ti_30, ti_39, ti_40, ti_41, ti_45, ti_50, ti_59, ti_97, ti_99, ti_100, ti_122, ti_160, ti_243, ti_255, ti_399, ti_999, ti_1000, ti_1024, ti_99999, tm_1, tm_2, tm_3, tm_4, tm_5, tm_7, tm_11, tm_12, tm_13, tm_14, tm_100, if_pos, if_neg, if_true, if_false, bC_in, bI_s, bS_s, bX_s, bY_s, sO, tC]; omega)
  · have hstop : ∀ k d', k < re → fr (ln k) = some d' → d' < D → k < i := by
      intro k d' hk hk2 hlt
      rcases hs with hs | ⟨D', d, z1, z2, z3, z4, z5⟩
      · omega
      · rw [g5] at z1
        have := (nI_eq (by omega) (by omega)).mp z1
        by_cases y : k < i
        · exact y
        · have := hB.2.2.2.2.1 i k d d' (by omega) hk z4 hk2
          omega
    refine Or.inr ⟨D, L, by omega, g5, by unfold olb; rw [if_neg (by omega)]; exact g6, ⟨w, m, y1, y2, y3, fun _ => y4⟩, fun u n hu hn => ?_⟩
    rcases w_cases hu with ⟨-, rfl⟩ | ⟨e, w0, n0, rfl, hw0, he, hM, hl⟩
    · exact absurd hn h0
    · rw [List.length_cons]
      by_cases q : D ≤ w0.length
      · exact ⟨by omega, fun z => by omega⟩
      · obtain ⟨d, f1, f2, -⟩ := BI_all hB w0.length (fun k d hk hk2 hlt => hstop k d hk hk2 (by omega)) w0 n0 hw0 (Nat.le_refl _)
        obtain ⟨k, k1, k2⟩ := hB.2.2.1 n0 d f1
        have ki := hstop k d k1 (by rw [k2]; exact f1) (by omega)
        obtain ⟨q1, q2⟩ := g8 k e n w0 (Or.inl ki) he hM (by rw [k2]; exact hl) hn (by rw [k2]; exact hw0)
        exact ⟨q1, fun z _ => q2 z⟩
end FI
theorem cd_dg {b c : Nat} (hb : 0 < b) : ∀ n, cd b (dg b c) n = c % b ^ n
  | 0 => by rw [cd, Nat.pow_zero, Nat.mod_one]
  | n + 1 => by rw [cd, cd_dg hb n, Nat.pow_succ, Nat.mod_mul]; unfold dg; rw [Nat.mul_comm (b ^ n)]
theorem cd_dg5 {c : Nat} (h : c < 243) : cd 3 (dg 3 c) 5 = c := by
  rw [cd_dg (by decide)]
  exact Nat.mod_eq_of_lt h
theorem dg3_le (c p : Nat) : dg 3 c p ≤ 2 := Nat.le_of_lt_succ (dg_lt (by decide))
def dlC (N : Nat → Nat) (B : Nat → Nat → Nat) (tx : List xh_T) (f0 : Nat → Int32) (nd : Int32) (s r aw' no : Nat) (n c : Nat) : Option Nat :=
  if mk5 (fun p => bt c p && bt aw' p) = 0 ∧ ct (bt c) ≤ B 1 r ∧ mvd N B tx f0 nd s r (dg 3 n) c no = true then some (cd 3 (nC N B tx f0 nd s r (dg 3 n) c) 5) else none
def wnt (wa n : Nat) : Prop := nI (mk5 (fun p => bt wa p && !Nat.ble 2 (dg 3 n p))) = 0
def carr (A V : xM) (re : Nat) (ln : Nat → Nat) (fr : Nat → Option Nat) (lb : Nat → Nat) : Prop := V 84 10 = nI re ∧ (∀ k, k < re → A 91 k = wC (dg 3 (ln k)) ∧ A 92 k = hC' (dg 3 (ln k)) ∧ ln k < 243) ∧ (∀ n, n < 243 → A 89 n = ofr (fr n)) ∧ ∀ n d, n < 243 → fr n = some d → A 90 n = nI (lb n)
theorem c_reach {dl : Nat → Nat → Option Nat} {M a0 i c re : Nat} {ln : Nat → Nat} {fr : Nat → Option Nat} {lb : Nat → Nat} {A1 V1 : xM} {K' : Nat → Nat} {d m : Nat} (hB : BI dl M a0 i c re ln fr lb) (hi : i < re) (hc1 : 1 ≤ c) (hM : c < M) (hM5 : M ≤ 32) (hca : carr A1 V1 re ln fr lb) (hd : fr (ln i) = some d) (hdl : dl (ln i) c = some m) (hm : m = cd 3 K' 5) (hK : ∀ p, p < 5 → K' p ≤ 2) {x : Int32} (hx : x = nI (wlb d c (lb (ln i)))) (c1 : Value) : ∃ A2 V2 re' ln' fr' lb', fX3_reach (wC K') (hC' K') (nI (d + 1)) x A1 V1 c1 = some (A2, V2, c1) ∧ BI dl M a0 i (c + 1) re' ln' fr' lb' ∧ carr A2 V2 re' ln' fr' lb' ∧ re ≤ re' ∧ (∀ k, k < re → ln' k = ln k) ∧ fr' (ln i) = some d ∧ lb' (ln i) = lb (ln i) ∧ (∀ b, b ≠ 89 → b ≠ 90 → b ≠ 91 → b ≠ 92 → A2 b = A1 b) ∧ (∀ a k, ¬ (a = 84 ∧ k = 10) → V2 a k = V1 a k) := by
  obtain ⟨q1, q2, q3, q4⟩ := hca
  have hm3 : m < 243 := by rw [hm]; exact cd3 hK
  have hre : re ≤ 243 := re_le hB (fun k hk => (q2 k hk).2.2)
  have hdr := fr_lt hB hd
  have hwl : wlb d c (lb (ln i)) < 32 := by
    unfold wlb
    by_cases z : d = 0
    · rw [if_pos z]; omega
    · rw [if_neg z]; have := lb_lt hB hd (by omega); omega
  have edg : ∀ p, p < 5 → dg 3 m p = K' p := fun p hp => by rw [hm]; exact dg_cd (by decide) 5 (fun p hp => by have := hK p hp; omega) p hp
  obtain ⟨ew, eh⟩ := wC_c edg
  unfold fX3_reach
  rw [c_stand hK, bI_s, ← hm, if_neg (by simp (disch := omega) only [ltI, leI, eqI, tI, tI1, ti_0, ti_1, ti_2, ti_3, ti_4, ti_5, ti_6, ti_7, ti_8, ti_9, ti_10, ti_11, ti_12, ti_14, ti_18, ti_30, ti_39, ti_40, ti_41, ti_45, ti_50, ti_59, ti_97, ti_99, ti_100, ti_122, ti_160, ti_243, ti_255, ti_399, ti_999, ti_1000, ti_1024, ti_99999, tm_1, tm_2, tm_3, tm_4, tm_5, tm_7, tm_11, tm_12, tm_13, tm_14, tm_100, if_pos, if_neg, if_true, if_false, bC_in, bI_s, bS_s, bX_s, bY_s, sO, tC]; omega), if_pos (by simp (disch := omega) only [ltI, leI, eqI, tI, tI1, ti_0, ti_1, ti_2, ti_3, ti_4, ti_5, ti_6, ti_7, ti_8, ti_9, ti_10, ti_11, ti_12, ti_14, ti_18, ti_30, ti_39, ti_40, ti_41, ti_45, ti_50, ti_59, ti_97, ti_99, ti_100, ti_122, ti_160, ti_243, ti_255, ti_399, ti_999, ti_1000, ti_1024, ti_99999, tm_1, tm_2, tm_3, tm_4, tm_5, tm_7, tm_11, tm_12, tm_13, tm_14, tm_100, if_pos, if_neg, if_true, if_false, bC_in, bI_s, bS_s, bX_s, bY_s, sO, tC]; omega), bC_in ⟨hm3, by decide⟩, tC (by omega), q3 m hm3, q1]
  cases hfm : fr m with
  | none =>
    have hre2 : re < 243 := room_new hB (fun k hk => (q2 k hk).2.2) hm3 hfm
    rw [show ofr none = -1 from rfl, if_pos rfl, if_neg (by simp (disch := omega) only [ltI, leI, eqI, tI, tI1, ti_0, ti_1, ti_2, ti_3, ti_4, ti_5, ti_6, ti_7, ti_8, ti_9, ti_10, ti_11, ti_12, ti_14, ti_18, ti_30, ti_39, ti_40, ti_41, ti_45, ti_50, ti_59, ti_97, ti_99, ti_100, ti_122, ti_160, ti_243, ti_255, ti_399, ti_999, ti_1000, ti_1024, ti_99999, tm_1, tm_2, tm_3, tm_4, tm_5, tm_7, tm_11, tm_12, tm_13, tm_14, tm_100, if_pos, if_neg, if_true, if_false, bC_in, bI_s, bS_s, bX_s, bY_s, sO, tC]; omega), bC_in ⟨hre2, by decide⟩, nI_1]
    have hne : ln i ≠ m := fun z => by rw [z, hfm] at hd; cases hd
    refine ⟨_, _, re + 1, va_up ln re m, va_up fr m (some (d + 1)), va_up lb m (wlb d c (lb (ln i))), rfl, BI_new hB hi hc1 hM hd hdl hfm, ⟨up2_s _ _ _ _, fun k hk => ?_, fun n hn => ?_, fun n e hn he => ?_⟩, by omega, fun k hk => va_up_ne _ _ (by omega), by rw [va_up_ne _ _ hne]; exact hd, va_up_ne _ _ hne, fun b b1 b2 b3 b4 => by rw [aw_n b4, aw_n b3, aw_n b2, aw_n b1], fun a k h => up2_n h⟩
    · rw [aw_n (show 91 ≠ 92 by decide), aw_s, aw_s, aw_n (show 91 ≠ 90 by decide), aw_n (show 91 ≠ 89 by decide), aw_n (show 92 ≠ 91 by decide), aw_n (show 92 ≠ 90 by decide), aw_n (show 92 ≠ 89 by decide), tC (by omega)]
      by_cases z : k = re
      · rw [z, pk_us, pk_us, va_up_self, ew, eh]
        exact ⟨rfl, rfl, hm3⟩
      · rw [pk_un z, pk_un z, va_up_ne _ _ z]
        exact q2 k (by omega)
    · rw [aw_n (by decide), aw_n (by decide), aw_n (by decide), aw_s, tC (by omega)]
      by_cases z : n = m
      · rw [z, pk_us, va_up_self]; rfl
      · rw [pk_un z, va_up_ne _ _ z]; exact q3 n hn
    · rw [aw_n (by decide), aw_n (by decide), aw_s, aw_n (by decide), tC (by omega)]
      by_cases z : n = m
      · rw [z, pk_us, va_up_self, hx]
      · rw [va_up_ne _ _ z] at he
        rw [pk_un z, va_up_ne _ _ z]
        exact q4 n e hn he
  | some d' =>
    have hd're := fr_lt hB hfm
    rw [show ofr (some d') = nI d' from rfl, if_neg (by simp (disch := omega) only [ltI, leI, eqI, tI, tI1, ti_0, ti_1, ti_2, ti_3, ti_4, ti_5, ti_6, ti_7, ti_8, ti_9, ti_10, ti_11, ti_12, ti_14, ti_18, ti_30, ti_39, ti_40, ti_41, ti_45, ti_50, ti_59, ti_97, ti_99, ti_100, ti_122, ti_160, ti_243, ti_255, ti_399, ti_999, ti_1000, ti_1024, ti_99999, tm_1, tm_2, tm_3, tm_4, tm_5, tm_7, tm_11, tm_12, tm_13, tm_14, tm_100, if_pos, if_neg, if_true, if_false, bC_in, bI_s, bS_s, bX_s, bY_s, sO, tC]; omega)]
    by_cases z : d' = d + 1
    · subst z
      have hlm := lb_lt hB hfm (by omega)
      rw [if_pos rfl, q4 m (d + 1) hm3 hfm, hx]
      have hne : ln i ≠ m := fun z => by rw [z, hfm] at hd; cases hd
      have emin : (bif decide (nI (wlb d c (lb (ln i))) < nI (lb m)) then nI (wlb d c (lb (ln i))) else nI (lb m)) = nI (min (lb m) (wlb d c (lb (ln i)))) := by
        by_cases y : wlb d c (lb (ln i)) < lb m
        · rw [decide_eq_true (by simp (disch := omega) only [ltI, leI, eqI, tI, tI1, ti_0, ti_1, ti_2, ti_3, ti_4, ti_5, ti_6, ti_7, ti_8, ti_9, ti_10, ti_11, ti_12, ti_14, ti_18, ti_30, ti_39, ti_40, ti_41, ti_45, ti_50, ti_59, ti_97, ti_99, ti_100, ti_122, ti_160, ti_243, ti_255, ti_399, ti_999, ti_1000, ti_1024, ti_99999, tm_1, tm_2, tm_3, tm_4, tm_5, tm_7, tm_11, tm_12, tm_13, tm_14, tm_100, if_pos, if_neg, if_true, if_false, bC_in, bI_s, bS_s, bX_s, bY_s, sO, tC]; omega), Nat.min_eq_right (by omega)]; rfl
        · rw [decide_eq_false (by simp (disch := omega) only [ltI, leI, eqI, tI, tI1, ti_0, ti_1, ti_2, ti_3, ti_4, ti_5, ti_6, ti_7, ti_8, ti_9, ti_10, ti_11, ti_12, ti_14, ti_18, ti_30, ti_39, ti_40, ti_41, ti_45, ti_50, ti_59, ti_97, ti_99, ti_100, ti_122, ti_160, ti_243, ti_255, ti_399, ti_999, ti_1000, ti_1024, ti_99999, tm_1, tm_2, tm_3, tm_4, tm_5, tm_7, tm_11, tm_12, tm_13, tm_14, tm_100, if_pos, if_neg, if_true, if_false, bC_in, bI_s, bS_s, bX_s, bY_s, sO, tC]; omega), Nat.min_eq_left (by omega)]; rfl
      rw [emin]
      refine ⟨_, _, re, ln, fr, va_up lb m (min (lb m) (wlb d c (lb (ln i)))), rfl, BI_lab hB hi hc1 hM hd hdl hfm rfl, ⟨q1, fun k hk => ?_, fun n hn => ?_, fun n e hn he => ?_⟩, Nat.le_refl _, fun _ _ => rfl, hd, va_up_ne _ _ hne, fun b b1 b2 b3 b4 => aw_n b2, fun _ _ _ => rfl⟩
      · rw [aw_n (by decide), aw_n (by decide)]; exact q2 k hk
      · rw [aw_n (by decide)]; exact q3 n hn
      · rw [aw_s, tC (by omega)]
        by_cases y : n = m
        · rw [y, pk_us, va_up_self]
        · rw [pk_un y, va_up_ne _ _ y]; exact q4 n e hn he
    · rw [if_neg (fun y => z ((nI_eq (by omega) (by omega)).mp y))]
      exact ⟨A1, V1, re, ln, fr, lb, rfl, BI_skip hB hi hd hdl hfm z, ⟨q1, q2, q3, q4⟩, Nat.le_refl _, fun _ _ => rfl, hd, rfl, fun _ _ _ _ _ => rfl, fun _ _ _ => rfl⟩
