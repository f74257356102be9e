/-! PLANS, the class's search: what is wanted. -/
def pcd (i c k e : Nat) : Prop := k < i ∨ (k = i ∧ e < c)
def gI (V : xM) (dl : Nat → Nat → Option Nat) (M : Nat) (dn : Nat → Prop) (i c : Nat) (ln : Nat → Nat) : Prop :=
  V 84 0 = -1 ∧ V 84 1 = -1 ∧ ∀ k e m, pcd i c k e → 1 ≤ e → e < M → dl (ln k) e = some m → ¬ dn m
/-- the order of the line: by the evenings, then by the first company -/
def OI (i c re : Nat) (ln : Nat → Nat) (fr : Nat → Option Nat) (lb : Nat → Nat) : Prop :=
  (∀ k l d, k ≤ l → l < re → 1 ≤ d → fr (ln k) = some d → fr (ln l) = some d → lb (ln k) ≤ lb (ln l)) ∧
  ∀ k d, k < re → i < re → fr (ln i) = some d → fr (ln k) = some (d + 1) → lb (ln k) ≤ wlb d c (lb (ln i))
theorem wlb_up (d c l : Nat) : wlb d c l ≤ wlb d (c + 1) l := by
  unfold wlb
  by_cases q : d = 0
  · rw [if_pos q, if_pos q]; omega
  · rw [if_neg q, if_neg q]; omega
section FI
variable {dl : Nat → Nat → Option Nat} {M a0 i c re : Nat} {ln : Nat → Nat} {fr : Nat → Option Nat} {lb : Nat → Nat} {dn : Nat → Prop} {V V2 : xM}
theorem pcd_s {k e : Nat} (h : pcd i (c + 1) k e) : pcd i c k e ∨ (k = i ∧ e = c) := by
  unfold pcd at *
  omega
theorem gI_no (h : gI V dl M dn i c ln) (hn : ∀ m, dl (ln i) c = some m → ¬ dn m) : gI V dl M dn i (c + 1) ln := by
  obtain ⟨h1, h2, h3⟩ := h
  refine ⟨h1, h2, fun k e m hp he hM hm => ?_⟩
  rcases pcd_s hp with z | ⟨rfl, rfl⟩
  · exact h3 k e m z he hM hm
  · exact hn m hm
theorem gI_ln {ln' : Nat → Nat} (h : gI V dl M dn i c ln) (hc : 1 ≤ c) (hl : ∀ k, k ≤ i → ln' k = ln k) (h0 : V2 84 0 = V 84 0) (h1 : V2 84 1 = V 84 1) : gI V2 dl M dn i c ln' := by
  obtain ⟨g1, g2, g3⟩ := h
  refine ⟨h0.trans g1, h1.trans g2, fun k e m hp he hM hm => ?_⟩
  have pk : ln' k = ln k := hl k (by unfold pcd at hp; omega)
  rw [pk] at hm
  exact g3 k e m hp he hM hm
theorem gI_next (h : gI V dl M dn i M ln) : gI V dl M dn (i + 1) 1 ln := by
  obtain ⟨g1, g2, g3⟩ := h
  exact ⟨g1, g2, fun k e m hp he hM hm => g3 k e m (by unfold pcd at *; omega) he hM hm⟩
theorem BI_z (hB : BI dl M a0 i c re ln fr lb) {n : Nat} (h : fr n = some 0) : n = a0 := by
  obtain ⟨w, w1, w2, -⟩ := hB.2.2.2.2.2.2.1 n 0 h
  have : w = [] := List.length_eq_zero_iff.mp w2
  subst this
  exact (Option.some.inj w1).symm
theorem OI_c (h : OI i c re ln fr lb) : OI i (c + 1) re ln fr lb := by
  refine ⟨h.1, fun k d hk hi h1 h2 => ?_⟩
  have := h.2 k d hk hi h1 h2
  have := wlb_up d c (lb (ln i))
  omega
theorem OI_next (h : OI i M re ln fr lb) (hB : BI dl M a0 i M re ln fr lb) (hi : i < re) : OI (i + 1) 1 re ln fr lb := by
  refine ⟨h.1, fun k d hk hi2 h1 h2 => ?_⟩
  obtain ⟨b1, b2, b3, b4, b5, b6, b7, b8⟩ := id hB
  obtain ⟨d0, g1, -⟩ := b2 i hi
  have e1 := b6 k (d + 1) d0 hk hi h2 g1
  have e2 := b5 i (i + 1) d0 d (by omega) hi2 g1 h1
  have e3 : d = d0 := by omega
  subst e3
  have e4 := h.2 k d hk hi g1 h2
  by_cases q : d = 0
  · subst q
    have z1 := BI_z hB g1
    have z2 := BI_z hB h1
    have := b4 i (i + 1) hi hi2 (z1.trans z2.symm)
    omega
  · have e5 := h.1 i (i + 1) d (by omega) hi2 (by omega) g1 h1
    unfold wlb at e4 ⊢
    rw [if_neg q] at e4 ⊢
    omega
theorem OI_new (h : OI i c re ln fr lb) (hB : BI dl M a0 i c re ln fr lb) (hi : i < re) {d m : Nat} (hd : fr (ln i) = some d) (hf : fr m = none) : OI i (c + 1) (re + 1) (va_up ln re m) (va_up fr m (some (d + 1))) (va_up lb m (wlb d c (lb (ln i)))) := by
  have ne : ∀ k, k < re → ln k ≠ m := fun k hk z => by
    obtain ⟨d, h1, -⟩ := hB.2.1 k hk
    rw [z, hf] at h1; cases h1
  have lnk : ∀ k, k < re → va_up ln re m k = ln k := fun k hk => va_up_ne _ _ (by omega)
  have lnr : va_up ln re m re = m := va_up_self _ _ _
  have frk : ∀ k, k < re → va_up fr m (some (d + 1)) (ln k) = fr (ln k) := fun k hk => va_up_ne _ _ (ne k hk)
  have frm : va_up fr m (some (d + 1)) m = some (d + 1) := va_up_self _ _ _
  have lbk : ∀ k, k < re → va_up lb m (wlb d c (lb (ln i))) (ln k) = lb (ln k) := fun k hk => va_up_ne _ _ (ne k hk)
  have lbm : va_up lb m (wlb d c (lb (ln i))) m = wlb d c (lb (ln i)) := va_up_self _ _ _
  refine ⟨fun k l e hkl hl he h1 h2 => ?_, fun k e hk _ h1 h2 => ?_⟩
  · by_cases q2 : l = re
    · subst q2
      by_cases q : k = l
      · subst q; exact Nat.le_refl _
      · rw [lnr, frm] at h2
        have h2 : d + 1 = e := Option.some.inj h2
        subst h2
        rw [lnk k (by omega), frk k (by omega)] at h1
        rw [lnk k (by omega), lnr, lbk k (by omega), lbm]
        exact h.2 k d (by omega) hi hd h1
    · rw [lnk k (by omega), frk k (by omega)] at h1
      rw [lnk l (by omega), frk l (by omega)] at h2
      rw [lnk k (by omega), lnk l (by omega), lbk k (by omega), lbk l (by omega)]
      exact h.1 k l e hkl (by omega) he h1 h2
  · rw [lnk i hi, frk i hi, hd] at h1
    have h1 : d = e := Option.some.inj h1
    subst h1
    have up := wlb_up d c (lb (ln i))
    rw [lnk i hi, lbk i hi]
    by_cases q : k = re
    · subst q
      rw [lnr, lbm]
      exact up
    · rw [lnk k (by omega), frk k (by omega)] at h2
      rw [lnk k (by omega), lbk k (by omega)]
      have := h.2 k d (by omega) hi hd h2
      omega
theorem BI_same (h : BI dl M a0 i c re ln fr lb) (hO : OI i c re ln fr lb) (hi : i < re) (hc : 1 ≤ c) (hM : c < M) {d m : Nat} (hd : fr (ln i) = some d) (hm : dl (ln i) c = some m) (hf : fr m = some (d + 1)) : BI dl M a0 i (c + 1) re ln fr lb := by
  obtain ⟨k, k1, k2⟩ := h.2.2.1 m (d + 1) hf
  have hle : lb m ≤ wlb d c (lb (ln i)) := by
    have := hO.2 k d k1 hi hd (by rw [k2]; exact hf)
    rw [k2] at this
    exact this
  have e : va_up lb m (lb m) = lb := by
    funext n
    by_cases q : n = m
    · rw [q, va_up_self]
    · rw [va_up_ne _ _ q]
  have g := BI_lab h hi hc hM hd hm hf (x := lb m) (Nat.min_eq_left hle).symm
  rw [e] at g
  exact g
theorem BI_one (hB : BI dl M a0 i c re ln fr lb) : BI dl M a0 i 1 re ln fr lb := by
  obtain ⟨b1, b2, b3, b4, b5, b6, b7, b8⟩ := hB
  exact ⟨b1, b2, b3, b4, b5, b6, b7, fun k e m d hk h1 h2 h3 h4 h5 => b8 k e m d hk (by omega) h2 h3 h4 h5⟩
def cres (V : xM) (dl : Nat → Nat → Option Nat) (M a0 : Nat) (dn : Nat → Prop) : Prop := (V 84 0 = -1 ∧ V 84 1 = -1 ∧ noBest dl M a0 dn) ∨ ∃ D L, D ≤ 1024 ∧ V 84 0 = nI D ∧ V 84 1 = olb D L ∧ isBest dl M a0 dn D L
theorem w_cases {w : List Nat} {n : Nat} (hw : wrun dl M a0 w = some n) : (w = [] ∧ n = a0) ∨ ∃ e w0 n0, w = e :: w0 ∧ wrun dl M a0 w0 = some n0 ∧ 1 ≤ e ∧ e < M ∧ dl n0 e = some n := by
  cases w with
  | nil => exact Or.inl ⟨rfl, (Option.some.inj hw).symm⟩
  | cons e w0 =>
    right
    rw [wrun] at hw
    cases hu : wrun dl M a0 w0 with
    | none => rw [hu] at hw; cases hw
    | some n0 =>
      rw [hu] at hw
      dsimp only at hw
      by_cases hc : 1 ≤ e ∧ e < M
      · rw [if_pos hc] at hw
        exact ⟨e, w0, n0, rfl, hu, hc.1, hc.2, hw⟩
      · rw [if_neg hc] at hw; cases hw
/-- the first that is wanted is the best -/
theorem g_found (hF : gI V dl M dn i c ln) (hB : BI dl M a0 i c re ln fr lb) (hO : OI i c re ln fr lb) (hi : i < re) (h0 : ¬ dn a0) (hc1 : 1 ≤ c) (hcM : c < M) {d m : Nat} (hd : fr (ln i) = some d) (hm : dl (ln i) c = some m) (hdn : dn m) : isBest dl M a0 dn (d + 1) (wlb d c (lb (ln i))) := by
  obtain ⟨b1, b2, b3, b4, b5, b6, b7, b8⟩ := id hB
  obtain ⟨w, w1, w2, w3⟩ := b7 (ln i) d hd
  refine ⟨⟨c :: w, m, wrun_s w1 hc1 hcM hm, hdn, by rw [List.length_cons, w2], fun _ => (wlb_w w2 w3).symm⟩, fun u n hu hn => ?_⟩
  rcases w_cases hu with ⟨-, rfl⟩ | ⟨e, w0, n0, rfl, hw0, he, hM, hl⟩
  · exact absurd hn h0
  rw [List.length_cons]
  by_cases q : w0.length ≤ d
  rotate_left
  · exact ⟨by omega, fun z => by omega⟩
  obtain ⟨d0, f1, f2, f3⟩ := BI_all (BI_one hB) d (fun k d' hk hk2 hlt => by
    by_cases y : k < i
    · exact y
    · have := b5 i k d d' (by omega) hk hd hk2
      omega) w0 n0 hw0 q
  obtain ⟨k, k1, k2⟩ := b3 n0 d0 f1
  have fk : fr (ln k) = some d0 := by rw [k2]; exact f1
  by_cases p : pcd i c k e
  · exact absurd hn (hF.2.2 k e n p he hM (by rw [k2]; exact hl))
  have hik : i ≤ k := by unfold pcd at p; omega
  have e1 := b5 i k d d0 hik k1 hd fk
  have e2 : d0 = d := by omega
  subst e2
  refine ⟨by omega, fun _ _ => ?_⟩
  by_cases z0 : d0 = 0
  · subst z0
    have hki : k = i := b4 k i k1 hi ((BI_z hB fk).trans (BI_z hB hd).symm)
    have : w0 = [] := List.length_eq_zero_iff.mp (by omega)
    subst this
    show wlb 0 c _ ≤ e
    unfold wlb
    rw [if_pos rfl]
    unfold pcd at p
    omega
  · have g1 := hO.1 i k d0 hik k1 (by omega) hd fk
    have g2 := f3 (by omega) (by omega)
    unfold wlb
    rw [if_neg z0, wfst_c (fun z => by subst z; exact z0 (by have : d0 ≤ 0 := f2; omega))]
    rw [k2] at g1
    omega
/-- the line is done -/
theorem g_end (h : gI V dl M dn re 1 ln) (hB : BI dl M a0 re 1 re ln fr lb) (h0 : ¬ dn a0) : cres V dl M a0 dn := by
  obtain ⟨g1, g2, g3⟩ := h
  refine Or.inl ⟨g1, g2, fun w n hw hn => ?_⟩
  rcases w_cases hw with ⟨-, rfl⟩ | ⟨e, w0, n0, rfl, hw0, he, hM, hl⟩
  · exact h0 hn
  · obtain ⟨d, f1, -⟩ := BI_all hB w0.length (fun k d hk _ _ => by omega) w0 n0 hw0 (Nat.le_refl _)
    obtain ⟨k, k1, k2⟩ := hB.2.2.1 n0 d f1
    exact g3 k e n (Or.inl (by omega)) he hM (by rw [k2]; exact hl) hn
end FI
theorem cd_dg {b c : Nat} (hb : 0 < b) : ∀ n, cd b (dg b c) n = c % b ^ n
  | 0 => by rw [cd, Nat.pow_zero, Nat.mod_one]
  | n + 1 => by rw [cd, cd_dg hb n, Nat.pow_succ, Nat.mod_mul]; unfold dg; rw [Nat.mul_comm (b ^ n)]
theorem cd_dg5 {c : Nat} (h : c < 243) : cd 3 (dg 3 c) 5 = c := by
  rw [cd_dg (by decide)]
  exact Nat.mod_eq_of_lt h
theorem dg3_le (c p : Nat) : dg 3 c p ≤ 2 := Nat.le_of_lt_succ (dg_lt (by decide))
def dlC (N : Nat → Nat) (B : Nat → Nat → Nat) (tx : List xh_T) (f0 : Nat → Int32) (nd : Int32) (s r aw' no : Nat) (n c : Nat) : Option Nat :=
  if mk5 (fun p => bt c p && bt aw' p) = 0 ∧ ct (bt c) ≤ B 1 r ∧ mvd N B tx f0 nd s r (dg 3 n) c no = true then some (cd 3 (nC N B tx f0 nd s r (dg 3 n) c) 5) else none
def wnt (wa n : Nat) : Prop := nI (mk5 (fun p => bt wa p && !Nat.ble 2 (dg 3 n p))) = 0
/-- the mark of a standing -/
def om : Option Nat → Int32
  | none => 0
  | some _ => 1
def carr (A V : xM) (re : Nat) (ln : Nat → Nat) (fr : Nat → Option Nat) (lb : Nat → Nat) : Prop := V 84 11 = nI re ∧ (∀ k, k < re → A 90 k = wC (dg 3 (ln k)) ∧ A 91 k = hC' (dg 3 (ln k)) ∧ ln k < 243) ∧ (∀ n, n < 243 → A 89 n = om (fr n)) ∧ ∀ k d, k < re → fr (ln k) = some d → A 92 k = nI d ∧ A 93 k = nI (lb (ln k))
theorem c_reach {dl : Nat → Nat → Option Nat} {M a0 i c re : Nat} {ln : Nat → Nat} {fr : Nat → Option Nat} {lb : Nat → Nat} {A1 V1 : xM} {K' : Nat → Nat} {d m : Nat} (hB : BI dl M a0 i c re ln fr lb) (hO : OI i c re ln fr lb) (hi : i < re) (hc1 : 1 ≤ c) (hM : c < M) (hca : carr A1 V1 re ln fr lb) (hd : fr (ln i) = some d) (hdl : dl (ln i) c = some m) (hm : m = cd 3 K' 5) (hK : ∀ p, p < 5 → K' p ≤ 2) {x : Int32} (hx : x = nI (wlb d c (lb (ln i)))) (c1 : Value) : ∃ A2 V2 re' ln' fr' lb', fX3_reach (wC K') (hC' K') (nI (d + 1)) x A1 V1 c1 = some (A2, V2, c1) ∧ BI dl M a0 i (c + 1) re' ln' fr' lb' ∧ OI i (c + 1) re' ln' fr' lb' ∧ carr A2 V2 re' ln' fr' lb' ∧ re ≤ re' ∧ (∀ k, k < re → ln' k = ln k) ∧ fr' (ln i) = some d ∧ (∀ b, b ≠ 89 → b ≠ 90 → b ≠ 91 → b ≠ 92 → b ≠ 93 → A2 b = A1 b) ∧ (∀ a k, ¬ (a = 84 ∧ k = 11) → V2 a k = V1 a k) := by
  obtain ⟨q1, q2, q3, q4⟩ := hca
  have hm3 : m < 243 := by rw [hm]; exact cd3 hK
  have edg : ∀ p, p < 5 → dg 3 m p = K' p := fun p hp => by rw [hm]; exact dg_cd (by decide) 5 (fun p hp => by have := hK p hp; omega) p hp
  obtain ⟨ew, eh⟩ := wC_c edg
  unfold fX3_reach
  rw [c_stand hK, bI_s, ← hm, if_neg (by simp (disch := omega) only [ltI, leI, eqI, tI, tI1, ti_0, ti_1, ti_2, ti_3, ti_4, ti_5, ti_6, ti_7, ti_8, ti_9, ti_10, ti_11, ti_12, ti_14, ti_18, ti_30, ti_39, ti_40, ti_41, ti_45, ti_50, ti_59, ti_97, ti_99, ti_100, ti_122, ti_160, ti_243, ti_255, ti_399, ti_999, ti_1000, ti_1024, ti_99999, tm_1, tm_2, tm_3, tm_4, tm_5, tm_7, tm_11, tm_12, tm_13, tm_14, tm_100, if_pos, if_neg, if_true, if_false, bC_in, bI_s, bS_s, bX_s, bY_s, sO, tC]; omega), if_neg (by simp (disch := omega) only [ltI, leI, eqI, tI, tI1, ti_0, ti_1, ti_2, ti_3, ti_4, ti_5, ti_6, ti_7, ti_8, ti_9, ti_10, ti_11, ti_12, ti_14, ti_18, ti_30, ti_39, ti_40, ti_41, ti_45, ti_50, ti_59, ti_97, ti_99, ti_100, ti_122, ti_160, ti_243, ti_255, ti_399, ti_999, ti_1000, ti_1024, ti_99999, tm_1, tm_2, tm_3, tm_4, tm_5, tm_7, tm_11, tm_12, tm_13, tm_14, tm_100, if_pos, if_neg, if_true, if_false, bC_in, bI_s, bS_s, bX_s, bY_s, sO, tC]; omega), bC_in ⟨hm3, by decide⟩, tC (by omega), q3 m hm3]
  cases hfm : fr m with
  | none =>
    have hre2 : re < 243 := room_new hB (fun k hk => (q2 k hk).2.2) hm3 hfm
    have ne : ∀ k, k < re → ln k ≠ m := fun k hk z => by
      obtain ⟨d, h1, -⟩ := hB.2.1 k hk
      rw [z, hfm] at h1; cases h1
    rw [show om none = 0 from rfl, if_pos rfl, q1, if_pos (by simp (disch := omega) only [ltI, leI, eqI, tI, tI1, ti_0, ti_1, ti_2, ti_3, ti_4, ti_5, ti_6, ti_7, ti_8, ti_9, ti_10, ti_11, ti_12, ti_14, ti_18, ti_30, ti_39, ti_40, ti_41, ti_45, ti_50, ti_59, ti_97, ti_99, ti_100, ti_122, ti_160, ti_243, ti_255, ti_399, ti_999, ti_1000, ti_1024, ti_99999, tm_1, tm_2, tm_3, tm_4, tm_5, tm_7, tm_11, tm_12, tm_13, tm_14, tm_100, if_pos, if_neg, if_true, if_false, bC_in, bI_s, bS_s, bX_s, bY_s, sO, tC]; omega), bC_in ⟨hre2, by decide⟩, nI_1]
    have hne : ln i ≠ m := ne i hi
    refine ⟨_, _, re + 1, va_up ln re m, va_up fr m (some (d + 1)), va_up lb m (wlb d c (lb (ln i))), rfl, BI_new hB hi hc1 hM hd hdl hfm, OI_new hO hB hi hd hfm, ⟨up2_s _ _ _ _, fun k hk => ?_, fun n hn => ?_, fun k e hk he => ?_⟩, by omega, fun k hk => va_up_ne _ _ (by omega), by rw [va_up_ne _ _ hne]; exact hd, fun b b1 b2 b3 b4 b5 => by rw [aw_n b5, aw_n b4, aw_n b3, aw_n b2, aw_n b1], fun a k h => up2_n h⟩
    · rw [aw_n (show 90 ≠ 93 by decide), aw_n (show 90 ≠ 92 by decide), aw_n (show 90 ≠ 91 by decide), aw_s, aw_n (show 90 ≠ 89 by decide), aw_n (show 91 ≠ 93 by decide), aw_n (show 91 ≠ 92 by decide), aw_s, aw_n (show 91 ≠ 90 by decide), aw_n (show 91 ≠ 89 by decide), tC (by omega)]
      by_cases z : k = re
      · rw [z, pk_us, pk_us, va_up_self, ew, eh]
        exact ⟨rfl, rfl, hm3⟩
      · rw [pk_un z, pk_un z, va_up_ne _ _ z]
        exact q2 k (by omega)
    · rw [aw_n (show 89 ≠ 93 by decide), aw_n (show 89 ≠ 92 by decide), aw_n (show 89 ≠ 91 by decide), aw_n (show 89 ≠ 90 by decide), aw_s, tC (by omega)]
      by_cases z : n = m
      · rw [z, pk_us, va_up_self]; rfl
      · rw [pk_un z, va_up_ne _ _ z]; exact q3 n hn
    · rw [aw_n (show 92 ≠ 93 by decide), aw_s, aw_n (show 92 ≠ 91 by decide), aw_n (show 92 ≠ 90 by decide), aw_n (show 92 ≠ 89 by decide), aw_s, aw_n (show 93 ≠ 92 by decide), aw_n (show 93 ≠ 91 by decide), aw_n (show 93 ≠ 90 by decide), aw_n (show 93 ≠ 89 by decide), tC (by omega)]
      by_cases z : k = re
      · rw [z, va_up_self, va_up_self] at he
        have he : d + 1 = e := Option.some.inj he
        subst he
        rw [z, pk_us, pk_us, va_up_self, va_up_self, hx]
        exact ⟨rfl, rfl⟩
      · rw [va_up_ne _ _ z, va_up_ne _ _ (ne k (by omega))] at he
        rw [pk_un z, pk_un z, va_up_ne _ _ z, va_up_ne _ _ (ne k (by omega))]
        exact q4 k e (by omega) he
  | some d' =>
    rw [show om (some d') = 1 from rfl, if_neg (by decide)]
    refine ⟨A1, V1, re, ln, fr, lb, rfl, ?_, OI_c hO, ⟨q1, q2, q3, q4⟩, Nat.le_refl _, fun _ _ => rfl, hd, fun _ _ _ _ _ _ => rfl, fun _ _ _ => rfl⟩
    by_cases z : d' = d + 1
    · subst z
      exact BI_same hB hO hi hc1 hM hd hdl hfm
    · exact BI_skip hB hi hd hdl hfm z
