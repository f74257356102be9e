/-! EVENINGS THAT ARE TOLD. -/
def cmpE (A : xM) (e : Nat) : Nat → Bool := fun p => decide (A 142 (5 * e + p) = A 141 e)
def bhdE (B : Nat → Nat → Nat) (A : xM) (e : Nat) : Nat → Bool := fun p => !decide (A 142 (5 * e + p) = -1) && (B 0 (A 141 e).toNatClampNeg / 2 ^ (A 142 (5 * e + p)).toNatClampNeg % 2 == 1)
def stp (F : Nat → Nat) (s : Nat) (K : Nat → Nat) : Nat → Nat := fun j => if j % 6 = s then K (j / 6) else F j
theorem stp_s {F : Nat → Nat} {s : Nat} {K : Nat → Nat} (hs : s < 6) (p : Nat) : stp F s K (6 * p + s) = K p := by
  unfold stp
  rw [if_pos (by omega), show (6 * p + s) / 6 = p by omega]
theorem stp_n {F : Nat → Nat} {s t : Nat} {K : Nat → Nat} (ht : t < 6) (h : t ≠ s) (p : Nat) : stp F s K (6 * p + t) = F (6 * p + t) := by
  unfold stp
  rw [if_neg (by omega)]
def evK (N : Nat → Nat) (B : Nat → Nat → Nat) (A : xM) (tx : List xh_T) (t e : Nat) (F : Nat → Nat) : Nat → Nat := nxt N B tx (A 131) t (A 140 e).toNatClampNeg (A 141 e).toNatClampNeg e (fun p => F (6 * p + (A 140 e).toNatClampNeg)) (cmpE A e) (bhdE B A e) (hsf F (A 135 (A 140 e).toNatClampNeg))
def evF (N : Nat → Nat) (B : Nat → Nat → Nat) (A : xM) (tx : List xh_T) (t : Nat) : Nat → Nat → Nat
  | 0 => B 5
  | e + 1 => stp (evF N B A tx t e) (A 140 e).toNatClampNeg (evK N B A tx t e (evF N B A tx t e))
def evM (N : Nat → Nat) (B : Nat → Nat → Nat) (A : xM) (tx : List xh_T) (t e : Nat) : Bool := myp B tx (A 131) t (A 140 e).toNatClampNeg (A 141 e).toNatClampNeg e (fun p => evF N B A tx t e (6 * p + (A 140 e).toNatClampNeg)) (cmpE A e)
def evR (N : Nat → Nat) (B : Nat → Nat → Nat) (A : xM) (tx : List xh_T) (t : Nat) : Nat → Int32
  | 0 => -1
  | e + 1 => if evR N B A tx t e = -1 ∧ evM N B A tx t e = false then nI e else evR N B A tx t e
theorem rm_sh : ∀ r, r < 4 → ∀ w, w < 4 → (((1 : Int32) <<< (nI r &&& 31)) >>> (nI w &&& 31)) &&& 1 = nI (decide (w = r)).toNat := by decide +kernel
theorem wl_sh : ∀ m, m < 16 → ∀ w, w < 4 → (nI m >>> (nI w &&& 31)) &&& 1 = nI (m / 2 ^ w % 2 == 1).toNat := by decide +kernel
theorem kA_told : ∀ e, e < 12 → kA (102 + e) = true := by decide
section RE
variable {N : Nat → Nat} {B : Nat → Nat → Nat} {A V A1 V1 : xM} {tx : List xh_T} {cu : Value}
theorem ev_row (hv : iv N B A V tx cu) {e : Nat} (he : e < 12) : iv_e1 (A (102 + e)) (A 140 e) (A 141 e) (fun p => A 142 (5 * e + p)) := by
  obtain ⟨v1, v2, v3, v4, v5, v6, v7, v8, v9, v10, v11, v12, v13⟩ := hv
  obtain ⟨q0, q1, q2, q3, q4, q5, q6, q7, q8, q9, q10, q11⟩ := v8.1
  match e, he with
  | 0, _ => exact q0
  | 1, _ => exact q1
  | 2, _ => exact q2
  | 3, _ => exact q3
  | 4, _ => exact q4
  | 5, _ => exact q5
  | 6, _ => exact q6
  | 7, _ => exact q7
  | 8, _ => exact q8
  | 9, _ => exact q9
  | 10, _ => exact q10
  | 11, _ => exact q11
/-- of an evening: song, room, where each is; company and those behind thin walls -/
theorem ev_ok (hv : iv N B A V tx cu) {e : Nat} (he : e < N 2) : ∃ s r : Nat, s < N 0 ∧ r < 4 ∧ A 140 e = nI s ∧ A 141 e = nI r ∧ (∀ p, p < 5 → (A 142 (5 * e + p) = -1 ∧ cmpE A e p = false ∧ bhdE B A e p = false) ∨ (p < N 1 ∧ ∃ w : Nat, w < 4 ∧ A 142 (5 * e + p) = nI w ∧ cmpE A e p = decide (w = r) ∧ bhdE B A e p = (B 0 r / 2 ^ w % 2 == 1))) ∧ inP (N 1) (cmpE A e) ∧ inP (N 1) (bhdE B A e) ∧ ∀ p, p < 5 → (cmpE A e p && bhdE B A e p) = false := by
  obtain ⟨v1, v2, v3, v4, v5, v6, v7, v8, v9, v10, v11, v12, v13⟩ := hv
  obtain ⟨⟨s, hs, h1⟩, ⟨r, hr, h2⟩, h3⟩ := v8.2 e he
  have key : ∀ p, p < 5 → (A 142 (5 * e + p) = -1 ∧ cmpE A e p = false ∧ bhdE B A e p = false) ∨ (p < N 1 ∧ ∃ w : Nat, w < 4 ∧ A 142 (5 * e + p) = nI w ∧ cmpE A e p = decide (w = r) ∧ bhdE B A e p = (B 0 r / 2 ^ w % 2 == 1)) := by
    intro p hp
    unfold cmpE bhdE
    rcases h3 p hp with q | ⟨q0, w, hw, q⟩
    · left
      rw [q, h2]
      refine ⟨rfl, ?_, rfl⟩
      rw [decide_eq_false]
      intro z
      have := congrArg Int32.toInt z
      rw [tI (by omega), tm_1] at this
      omega
    · right
      refine ⟨q0, w, hw, q, ?_, ?_⟩
      · rw [q, h2]
        by_cases z : w = r
        · rw [z, decide_eq_true rfl, decide_eq_true rfl]
        · rw [decide_eq_false (fun y => z ((nI_eq (by omega) (by omega)).mp y)), decide_eq_false z]
      · have : ¬ nI w = -1 := by
          intro z
          have := congrArg Int32.toInt z
          rw [tI (by omega), tm_1] at this
          omega
        rw [q, h2, decide_eq_false this, tC (by omega), tC (by omega)]
        rfl
  refine ⟨s, r, hs, hr, h1, h2, key, fun p hp q => ?_, fun p hp q => ?_, fun p hp => ?_⟩
  · rcases key p hp with ⟨-, z, -⟩ | z
    · rw [z] at q; cases q
    · exact z.1
  · rcases key p hp with ⟨-, -, z⟩ | z
    · rw [z] at q; cases q
    · exact z.1
  · rcases key p hp with ⟨-, z, -⟩ | ⟨-, w, hw, -, z1, z2⟩
    · rw [z]; rfl
    · rw [z1, z2]
      by_cases y : w = r
      · subst y
        rw [(v2.1.1 w hw).2]
        simp
      · rw [decide_eq_false y]; rfl
theorem c_people {l0 : Nat} {m : Int32} {f : Nat → Bool} (h : ∀ p, p < 5 → (A1 l0 (2 + p) = -1 ∧ f p = false) ∨ ∃ w : Nat, w < 4 ∧ A1 l0 (2 + p) = nI w ∧ (m >>> (nI w &&& 31)) &&& 1 = nI (f p).toNat) : fX8_peopleIn l0 m A1 V1 = some (nI (mk5 f)) := by
  have L : ∀ k i n, i + k = 5 → k < n → fX8_peopleIn_L4 l0 m A1 V1 some n (nI (mk5 (fun p => Nat.blt p i && f p))) (nI i) = some (nI (mk5 (fun p => Nat.blt p 5 && f p))) := by
    intro k
    induction k with
    | zero =>
      intro i n hi hn
      obtain ⟨n, rfl⟩ : ∃ m, n = m + 1 := ⟨n - 1, by omega⟩
      have : i = 5 := by omega
      subst this
      rw [fX8_peopleIn_L4, if_pos (by decide)]
    | succ k ih =>
      intro i n hi hn
      obtain ⟨n, rfl⟩ : ∃ m, n = m + 1 := ⟨n - 1, by omega⟩
      have t := ih (i + 1) n (by omega) (by omega)
      have e2 : (2 : Int32) + nI i = nI (2 + i) := nI_add 2 i
      rw [fX8_peopleIn_L4, if_neg (by simp (disch := omega) only [ltI, leI, eqI, tI, tI1, ti_0, ti_1, ti_2, ti_3, ti_4, ti_5, ti_6, ti_7, ti_8, ti_9, ti_10, ti_11, ti_12, ti_14, ti_18, ti_30, ti_39, ti_40, ti_41, ti_45, ti_50, ti_59, ti_97, ti_99, ti_100, ti_122, ti_160, ti_243, ti_255, ti_399, ti_999, ti_1000, ti_1024, ti_99999, tm_1, tm_2, tm_3, tm_4, tm_5, tm_7, tm_11, tm_12, tm_13, tm_14, tm_100, if_pos, if_neg, if_true, if_false, bC_in, bI_s, bS_s, bX_s, bY_s, sO, tC]; omega), e2, bC_in ⟨by omega, by decide⟩, tC (by omega), sO]
      rcases h i (by omega) with ⟨q1, q2⟩ | ⟨w, hw, q1, q2⟩
      · rw [q1, if_pos rfl, row_f q2]
        exact t
      · have : ¬ nI w = -1 := by
          intro z
          have := congrArg Int32.toInt z
          rw [tI (by omega), tm_1] at this
          omega
        rw [q1, if_neg this, q2]
        cases hf : f i with
        | false => rw [nbf, if_pos rfl, row_f hf]; exact t
        | true => rw [nbt, if_neg (by decide), row_t (by omega) hf]; exact t
  have := L 5 0 FU (by omega) (fu_gt (by omega))
  rw [row_e (P := 5) (f := f) (fun p h1 h2 => by omega)] at this
  exact this
/-- what F keeps -/
def fok (N : Nat → Nat) (F : Nat → Nat) : Prop := ∀ p t, p < 5 → t < 6 → F (6 * p + t) ≤ 3 ∧ (N 1 ≤ p → F (6 * p + t) = 0)
theorem evF_ok (hv : iv N B A V tx cu) (t : Nat) : ∀ e, e ≤ N 2 → fok N (evF N B A tx t e) := by
  intro e
  induction e with
  | zero =>
    intro _ p t hp ht
    have := hv.2.2.2.2.2.2.1.1 p t hp ht
    exact ⟨this.1, fun q => this.2 (Or.inl q)⟩
  | succ e ih =>
    intro he p u hp hu
    have ih := ih (by omega)
    obtain ⟨s, r, hs, hr, h1, h2, h3, h4, h5, h6⟩ := ev_ok hv (e := e) (by omega)
    have s3 : N 0 ≤ 6 := hv.1.1.2.2
    have hse : (A 140 e).toNatClampNeg = s := by rw [h1, tC (by omega)]
    show stp (evF N B A tx t e) (A 140 e).toNatClampNeg (evK N B A tx t e (evF N B A tx t e)) (6 * p + u) ≤ 3 ∧ (N 1 ≤ p → stp (evF N B A tx t e) (A 140 e).toNatClampNeg (evK N B A tx t e (evF N B A tx t e)) (6 * p + u) = 0)
    rw [hse]
    by_cases q : u = s
    · subst q
      rw [stp_s hu]
      unfold evK
      rw [hse]
      refine ⟨nxt_le (fun z => (hv.2.2.2.2.1 p z).1.2.2) h4 h5 hp (ih p u hp hu).1, fun z => ?_⟩
      rw [nxt_0 h4 h5 hp z]
      exact (ih p u hp hu).2 z
    · rw [stp_n hu q]
      exact ih p u hp hu
theorem c_live_L (hv : iv N B A V tx cu) {t nn : Nat} (ht : t ≤ tx.length) (hnn : nn ≤ N 2) (ex : Int32 → xM → xM → Value → Option (Int32 × xS)) : ∀ k e n (A1 V1 : xM) (c1 : Value), agr A V A1 V1 → e + k = nn → k < n → (∀ u, u < 6 → r3 A1 77 u (fun p => evF N B A tx t e (6 * p + u))) → ∃ A2 V2 c2, fX8_live_L16 tx (tref t) (nI nn) ex n (evR N B A tx t e) (nI e) A1 V1 c1 = ex (evR N B A tx t nn) A2 V2 c2 ∧ agr A V A2 V2 ∧ ∀ u, u < 6 → r3 A2 77 u (fun p => evF N B A tx t nn (6 * p + u)) := by
  have e12 : N 2 ≤ 12 := hv.1.2.2.1.2.2
  have s3 : N 0 ≤ 6 := hv.1.1.2.2
  intro k
  induction k with
  | zero =>
    intro e n A1 V1 c1 ha hi hn hr
    obtain ⟨n, rfl⟩ : ∃ m, n = m + 1 := ⟨n - 1, by omega⟩
    have : e = nn := by omega
    subst this
    refine ⟨A1, V1, c1, ?_, ha, hr⟩
    rw [fX8_live_L16, if_pos (by simp (disch := omega) only [ltI, leI, eqI, tI, tI1, ti_0, ti_1, ti_2, ti_3, ti_4, ti_5, ti_6, ti_7, ti_8, ti_9, ti_10, ti_11, ti_12, ti_14, ti_18, ti_30, ti_39, ti_40, ti_41, ti_45, ti_50, ti_59, ti_97, ti_99, ti_100, ti_122, ti_160, ti_243, ti_255, ti_399, ti_999, ti_1000, ti_1024, ti_99999, tm_1, tm_2, tm_3, tm_4, tm_5, tm_7, tm_11, tm_12, tm_13, tm_14, tm_100, if_pos, if_neg, if_true, if_false, bC_in, bI_s, bS_s, bX_s, bY_s, sO, tC]; omega)]
  | succ k ih =>
    intro e n A1 V1 c1 ha hi hn hrw
    obtain ⟨n, rfl⟩ : ∃ m, n = m + 1 := ⟨n - 1, by omega⟩
    obtain ⟨s, r, hs, hr, h1, h2, h3, h4, h5, h6⟩ := ev_ok hv (e := e) (by omega)
    have hse : (A 140 e).toNatClampNeg = s := by rw [h1, tC (by omega)]
    have hre : (A 141 e).toNatClampNeg = r := by rw [h2, tC (by omega)]
    obtain ⟨g0, g1, g2⟩ := ev_row hv (e := e) (by omega)
    have eT : A1 (102 + e) = A (102 + e) := ha.1 _ (kA_told e (by omega))
    have e13 : V1 64 13 = nI (N 0) := (ha.2 64 13 rfl).trans hv.1.1.1
    rw [fX8_live_L16, if_neg (by simp (disch := omega) only [ltI, leI, eqI, tI, tI1, ti_0, ti_1, ti_2, ti_3, ti_4, ti_5, ti_6, ti_7, ti_8, ti_9, ti_10, ti_11, ti_12, ti_14, ti_18, ti_30, ti_39, ti_40, ti_41, ti_45, ti_50, ti_59, ti_97, ti_99, ti_100, ti_122, ti_160, ti_243, ti_255, ti_399, ti_999, ti_1000, ti_1024, ti_99999, tm_1, tm_2, tm_3, tm_4, tm_5, tm_7, tm_11, tm_12, tm_13, tm_14, tm_100, if_pos, if_neg, if_true, if_false, bC_in, bI_s, bS_s, bX_s, bY_s, sO, tC]; omega), if_neg (by simp (disch := omega) only [ltI, leI, eqI, tI, tI1, ti_0, ti_1, ti_2, ti_3, ti_4, ti_5, ti_6, ti_7, ti_8, ti_9, ti_10, ti_11, ti_12, ti_14, ti_18, ti_30, ti_39, ti_40, ti_41, ti_45, ti_50, ti_59, ti_97, ti_99, ti_100, ti_122, ti_160, ti_243, ti_255, ti_399, ti_999, ti_1000, ti_1024, ti_99999, tm_1, tm_2, tm_3, tm_4, tm_5, tm_7, tm_11, tm_12, tm_13, tm_14, tm_100, if_pos, if_neg, if_true, if_false, bC_in, bI_s, bS_s, bX_s, bY_s, sO, tC]; omega), bC_in ⟨by omega, by decide⟩, bC_t (show xq_in (1 : Int32) 7 = true from rfl), bC_t (show xq_in (0 : Int32) 7 = true from rfl), tC (by omega), eT, show (0 : Int32).toNatClampNeg = 0 from rfl, show (1 : Int32).toNatClampNeg = 1 from rfl, g0, g1, h1, h2, tC (by omega), sO, e13, if_neg (by simp (disch := omega) only [ltI, leI, eqI, tI, tI1, ti_0, ti_1, ti_2, ti_3, ti_4, ti_5, ti_6, ti_7, ti_8, ti_9, ti_10, ti_11, ti_12, ti_14, ti_18, ti_30, ti_39, ti_40, ti_41, ti_45, ti_50, ti_59, ti_97, ti_99, ti_100, ti_122, ti_160, ti_243, ti_255, ti_399, ti_999, ti_1000, ti_1024, ti_99999, tm_1, tm_2, tm_3, tm_4, tm_5, tm_7, tm_11, tm_12, tm_13, tm_14, tm_100, if_pos, if_neg, if_true, if_false, bC_in, bI_s, bS_s, bX_s, bY_s, sO, tC]; omega), if_neg (by simp (disch := omega) only [ltI, leI, eqI, tI, tI1, ti_0, ti_1, ti_2, ti_3, ti_4, ti_5, ti_6, ti_7, ti_8, ti_9, ti_10, ti_11, ti_12, ti_14, ti_18, ti_30, ti_39, ti_40, ti_41, ti_45, ti_50, ti_59, ti_97, ti_99, ti_100, ti_122, ti_160, ti_243, ti_255, ti_399, ti_999, ti_1000, ti_1024, ti_99999, tm_1, tm_2, tm_3, tm_4, tm_5, tm_7, tm_11, tm_12, tm_13, tm_14, tm_100, if_pos, if_neg, if_true, if_false, bC_in, bI_s, bS_s, bX_s, bY_s, sO, tC]; omega), if_neg (by simp (disch := omega) only [ltI, leI, eqI, tI, tI1, ti_0, ti_1, ti_2, ti_3, ti_4, ti_5, ti_6, ti_7, ti_8, ti_9, ti_10, ti_11, ti_12, ti_14, ti_18, ti_30, ti_39, ti_40, ti_41, ti_45, ti_50, ti_59, ti_97, ti_99, ti_100, ti_122, ti_160, ti_243, ti_255, ti_399, ti_999, ti_1000, ti_1024, ti_99999, tm_1, tm_2, tm_3, tm_4, tm_5, tm_7, tm_11, tm_12, tm_13, tm_14, tm_100, if_pos, if_neg, if_true, if_false, bC_in, bI_s, bS_s, bX_s, bY_s, sO, tC]; omega), if_neg (by simp (disch := omega) only [ltI, leI, eqI, tI, tI1, ti_0, ti_1, ti_2, ti_3, ti_4, ti_5, ti_6, ti_7, ti_8, ti_9, ti_10, ti_11, ti_12, ti_14, ti_18, ti_30, ti_39, ti_40, ti_41, ti_45, ti_50, ti_59, ti_97, ti_99, ti_100, ti_122, ti_160, ti_243, ti_255, ti_399, ti_999, ti_1000, ti_1024, ti_99999, tm_1, tm_2, tm_3, tm_4, tm_5, tm_7, tm_11, tm_12, tm_13, tm_14, tm_100, if_pos, if_neg, if_true, if_false, bC_in, bI_s, bS_s, bX_s, bY_s, sO, tC]; omega), if_neg (by simp (disch := omega) only [ltI, leI, eqI, tI, tI1, ti_0, ti_1, ti_2, ti_3, ti_4, ti_5, ti_6, ti_7, ti_8, ti_9, ti_10, ti_11, ti_12, ti_14, ti_18, ti_30, ti_39, ti_40, ti_41, ti_45, ti_50, ti_59, ti_97, ti_99, ti_100, ti_122, ti_160, ti_243, ti_255, ti_399, ti_999, ti_1000, ti_1024, ti_99999, tm_1, tm_2, tm_3, tm_4, tm_5, tm_7, tm_11, tm_12, tm_13, tm_14, tm_100, if_pos, if_neg, if_true, if_false, bC_in, bI_s, bS_s, bX_s, bY_s, sO, tC]; omega)]
    unfold fX6_begin
    rw [bS_s]
    have ha2 : agr A V (aw (aw (aw A1 83 (3 : Int32) (nI s)) 83 (4 : Int32) (nI r)) 83 (5 : Int32) (nI e)) (up2 V1 81 5 (nI s)) := agr_v (agr_w (agr_w (agr_w ha rfl) rfl) rfl) rfl
    have mv : ∀ l, l ≠ 83 → (aw (aw (aw A1 83 (3 : Int32) (nI s)) 83 (4 : Int32) (nI r)) 83 (5 : Int32) (nI e)) l = A1 l := fun l hl => by rw [aw_n hl, aw_n hl, aw_n hl]
    have rr : ∀ u Ku, r3 A1 77 u Ku → r3 (aw (aw (aw A1 83 (3 : Int32) (nI s)) 83 (4 : Int32) (nI r)) 83 (5 : Int32) (nI e)) 77 u Ku := fun u Ku h => by
      unfold r3 at h ⊢
      rw [mv (77 + 1) (by decide), mv (77 + 2) (by decide), mv (77 + 3) (by decide)]
      exact h
    have pc := c_people (A1 := aw (aw (aw A1 83 (3 : Int32) (nI s)) 83 (4 : Int32) (nI r)) 83 (5 : Int32) (nI e)) (V1 := up2 V1 81 5 (nI s)) (l0 := 102 + e) (m := (1 : Int32) <<< (nI r &&& 31)) (f := cmpE A e) (fun p hp => by
      rw [mv (102 + e) (by omega), eT, g2 p hp]
      rcases h3 p hp with ⟨z1, z2, -⟩ | ⟨-, w, hw, z1, z2, -⟩
      · exact Or.inl ⟨z1, z2⟩
      · exact Or.inr ⟨w, hw, z1, by rw [z2]; exact rm_sh r hr w hw⟩)
    rw [pc, bI_s]
    have hK : ∀ p, p < 5 → evF N B A tx t e (6 * p + s) ≤ 3 := fun p hp => (evF_ok hv t e (by omega) p s hp (by omega)).1
    obtain ⟨A3, x1, x2, x3⟩ := c_may (K := fun p => evF N B A tx t e (6 * p + s)) (l := 77) (r := r) (e := e) hv ha2 h4 ht (show s < 6 by omega) (up2_s _ _ _ _) (rr s _ (hrw s (by omega))).1 rfl rfl rfl
    have hM : evM N B A tx t e = myp B tx (A 131) t s r e (fun p => evF N B A tx t e (6 * p + s)) (cmpE A e) := by unfold evM; rw [hse, hre]
    have hEK : evK N B A tx t e (evF N B A tx t e) = nxt N B tx (A 131) t s r e (fun p => evF N B A tx t e (6 * p + s)) (cmpE A e) (bhdE B A e) (hsf (evF N B A tx t e) (A 135 s)) := by unfold evK; rw [hse, hre]
    have hF1 : ∀ j, evF N B A tx t (e + 1) j = stp (evF N B A tx t e) s (evK N B A tx t e (evF N B A tx t e)) j := fun j => by rw [evF, hse]
    rw [← hM] at x1
    rw [x1, bX_s]
    have ha3 : agr A V A3 (up2 V1 81 5 (nI s)) := ⟨fun a q => by
      rw [x2 a (fun z => by subst z; cases q) (fun z => by subst z; cases q)]
      exact ha2.1 a q, ha2.2⟩
    have rr3 : ∀ u Ku, r3 A1 77 u Ku → r3 A3 77 u Ku := fun u Ku h => by
      have h := rr u Ku h
      unfold r3 at h ⊢
      rw [x2 (77 + 1) (by decide) (by decide), x2 (77 + 2) (by decide) (by decide), x2 (77 + 3) (by decide) (by decide)]
      exact h
    have go : ∀ (A' V' : xM) (c' : Value) (x : Int32), agr A V A' V' → x = evR N B A tx t (e + 1) → r3 A' 77 s (evK N B A tx t e (evF N B A tx t e)) → (∀ u, u < 6 → u ≠ s → r3 A' 77 u (fun p => evF N B A tx t e (6 * p + u))) → ∃ A2 V2 c2, fX8_live_L16 tx (tref t) (nI nn) ex n x (nI (e + 1)) A' V' c' = ex (evR N B A tx t nn) A2 V2 c2 ∧ agr A V A2 V2 ∧ ∀ u, u < 6 → r3 A2 77 u (fun p => evF N B A tx t nn (6 * p + u)) := by
      intro A' V' c' x q1 q2 q3 q4
      subst q2
      refine ih (e + 1) n A' V' c' q1 (by omega) (by omega) (fun u hu => ?_)
      by_cases z : u = s
      · subst z
        exact r3_c (fun p _ => by rw [hF1, stp_s hu]) q3
      · exact r3_c (fun p _ => by rw [hF1, stp_n hu z]) (q4 u hu z)
    cases hm : evM N B A tx t e with
    | false =>
      rw [nbf, if_pos rfl]
      have hst : ∀ p, evK N B A tx t e (evF N B A tx t e) p = evF N B A tx t e (6 * p + s) := fun p => by
        rw [hEK]
        unfold nxt
        rw [← hM, hm, if_neg (by decide)]
      have q3 := r3_c (fun p _ => (hst p).symm) (rr3 s _ (hrw s (by omega)))
      by_cases z : evR N B A tx t e = -1
      · rw [if_pos z]
        exact go A3 _ _ _ ha3 (by rw [evR, if_pos ⟨z, hm⟩]) q3 (fun u hu _ => rr3 u _ (hrw u hu))
      · rw [if_neg z]
        exact go A3 _ _ _ ha3 (by rw [evR, if_neg (fun y => z y.1)]) q3 (fun u hu _ => rr3 u _ (hrw u hu))
    | true =>
      rw [nbt, if_neg (by decide), bC_in ⟨hr, by decide⟩]
      have e98 : A3 99 r = nI (B 0 r) := by
        rw [x2 99 (by decide) (by decide), mv 99 (by decide), ha.1 99 rfl]
        exact hv.2.1.2.1 r hr
      have pb := c_people (A1 := A3) (V1 := up2 V1 81 5 (nI s)) (l0 := 102 + e) (m := A3 99 r) (f := bhdE B A e) (fun p hp => by
        rw [x2 (102 + e) (by omega) (by omega), mv (102 + e) (by omega), eT, g2 p hp, e98]
        rcases h3 p hp with ⟨z1, -, z2⟩ | ⟨-, w, hw, z1, -, z2⟩
        · exact Or.inl ⟨z1, z2⟩
        · exact Or.inr ⟨w, hw, z1, by rw [z2]; exact wl_sh _ (hv.2.1.1.1 r hr).1 w hw⟩)
      rw [pb, bI_s]
      obtain ⟨A4, y1, y2, y3, y4⟩ := c_spread (l := 77) (D := bhdE B A e) (r := r) (e := e) hv ha3 h4 h5 h6 ht (show s < 6 by omega) (up2_s _ _ _ _) (rr3 s _ (hrw s (by omega))) hK (hasC_ok hv ha3 hs (fun j hj => (rr3 j _ (hrw j hj)).1)) (Or.inl rfl) x3
      rw [y1, bS_s]
      have ha4 : agr A V A4 (up2 V1 81 5 (nI s)) := ⟨fun a q => by
        rw [y3 a (fun z => by subst z; cases q) (fun z => by subst z; cases q) (fun z => by subst z; cases q) (fun z => by subst z; cases q)]
        exact ha3.1 a q, ha3.2⟩
      have en : evK N B A tx t e (evF N B A tx t e) = spr N B tx (A 131) t s r e (fun p => evF N B A tx t e (6 * p + s)) (cmpE A e) (bhdE B A e) (hsf (evF N B A tx t e) (A 135 s)) := by
        rw [hEK]
        unfold nxt
        rw [← hM, hm, if_pos rfl]
      refine go A4 _ _ _ ha4 (by rw [evR, hm, if_neg (by simp)]) (by rw [en]; exact y2) (fun u hu hne => ?_)
      have h := rr3 u _ (hrw u hu)
      unfold r3 at h ⊢
      rw [y4 (77 + 1) u (by decide) hne, y4 (77 + 2) u (by decide) hne, y4 (77 + 3) u (by decide) hne]
      exact h
theorem c_live (hv : iv N B A V tx cu) (ha : agr A V A1 V1) (c1 : Value) {t nn : Nat} (ht : t ≤ tx.length) (hnn : nn ≤ N 2) : ∃ A2 V2 c2, fX8_live tx (tref t) (nI nn) A1 V1 c1 = some (evR N B A tx t nn, A2, V2, c2) ∧ agr A V A2 V2 ∧ ∀ u, u < 6 → r3 A2 77 u (fun p => evF N B A tx t nn (6 * p + u)) := by
  obtain ⟨v1, v2, v3, v4, v5, v6, v7, v8, v9, v10, v11, v12, v13⟩ := id hv
  have e12 : N 2 ≤ 12 := v1.2.2.1.2.2
  obtain ⟨A3, x1, x2, x3⟩ := c_take (l0 := 77) (l2 := 73) (by omega) A1 V1 c1
  have ha3 : agr A V A3 V1 := ⟨fun a q => by
    rw [x3 a (fun z => by subst z; cases q) (fun z => by subst z; cases q) (fun z => by subst z; cases q)]
    exact ha.1 a q, ha.2⟩
  have rows : ∀ u, u < 6 → r3 A3 77 u (fun p => evF N B A tx t 0 (6 * p + u)) := by
    intro u hu
    have e74 : A1 74 = A 74 := ha.1 74 rfl
    have e75 : A1 75 = A 75 := ha.1 75 rfl
    have e76 : A1 76 = A 76 := ha.1 76 rfl
    refine ⟨?_, ?_, ?_⟩
    · rw [x2 u 1 (Or.inl rfl) hu]; show A1 74 u = _; rw [e74]; exact (v7.2.1 u hu).1
    · rw [x2 u 2 (Or.inr (Or.inl rfl)) hu]; show A1 75 u = _; rw [e75]; exact (v7.2.1 u hu).2.1
    · rw [x2 u 3 (Or.inr (Or.inr rfl)) hu]; show A1 76 u = _; rw [e76]; exact (v7.2.1 u hu).2.2
  obtain ⟨A4, V4, c4, y1, y2, y3⟩ := c_live_L hv ht hnn (fun (l3_33 : Int32) (A41 V42 : xM) (c43 : Value) => some (l3_33, A41, V42, c43)) nn 0 FU A3 V1 c1 ha3 (by omega) (fu_gt (by omega)) rows
  refine ⟨A4, V4, c4, ?_, y2, y3⟩
  unfold fX8_live
  rw [x1, bS_s]
  exact y1
/-! the reference's -/
theorem r_cp30 (l1 l2 l3 : Int32) (V1 : xM) (c1 : Value) (ex : xM → xM → Value → Option (Int32 × xS)) : ∀ k i n (A1 : xM), i + k = 30 → k < n → ∃ A2, fX9_replay_L5 l1 l2 l3 ex n (nI i) A1 V1 c1 = ex A2 V1 c1 ∧ (∀ j, i ≤ j → j < 30 → A2 153 j = A1 139 j) ∧ (∀ j, j < i → A2 153 j = A1 153 j) ∧ ∀ b, b ≠ 153 → A2 b = A1 b := by
  intro k
  induction k with
  | zero =>
    intro i n A1 hi hn
    obtain ⟨n, rfl⟩ : ∃ m, n = m + 1 := ⟨n - 1, by omega⟩
    refine ⟨A1, ?_, fun j h1 h2 => by omega, fun _ _ => rfl, fun _ _ => rfl⟩
    rw [fX9_replay_L5, if_pos (by simp (disch := omega) only [ltI, leI, eqI, tI, tI1, ti_0, ti_1, ti_2, ti_3, ti_4, ti_5, ti_6, ti_7, ti_8, ti_9, ti_10, ti_11, ti_12, ti_14, ti_18, ti_30, ti_39, ti_40, ti_41, ti_45, ti_50, ti_59, ti_97, ti_99, ti_100, ti_122, ti_160, ti_243, ti_255, ti_399, ti_999, ti_1000, ti_1024, ti_99999, tm_1, tm_2, tm_3, tm_4, tm_5, tm_7, tm_11, tm_12, tm_13, tm_14, tm_100, if_pos, if_neg, if_true, if_false, bC_in, bI_s, bS_s, bX_s, bY_s, sO, tC]; omega)]
  | succ k ih =>
    intro i n A1 hi hn
    obtain ⟨n, rfl⟩ : ∃ m, n = m + 1 := ⟨n - 1, by omega⟩
    obtain ⟨A2, w1, w2, w3, w4⟩ := ih (i + 1) n (aw A1 153 (nI i) (A1 139 i)) (by omega) (by omega)
    refine ⟨A2, ?_, fun j h1 h2 => ?_, fun j h1 => ?_, fun b hb => (w4 b hb).trans (aw_n hb)⟩
    · rw [fX9_replay_L5, if_neg (by simp (disch := omega) only [ltI, leI, eqI, tI, tI1, ti_0, ti_1, ti_2, ti_3, ti_4, ti_5, ti_6, ti_7, ti_8, ti_9, ti_10, ti_11, ti_12, ti_14, ti_18, ti_30, ti_39, ti_40, ti_41, ti_45, ti_50, ti_59, ti_97, ti_99, ti_100, ti_122, ti_160, ti_243, ti_255, ti_399, ti_999, ti_1000, ti_1024, ti_99999, tm_1, tm_2, tm_3, tm_4, tm_5, tm_7, tm_11, tm_12, tm_13, tm_14, tm_100, if_pos, if_neg, if_true, if_false, bC_in, bI_s, bS_s, bX_s, bY_s, sO, tC]; omega), bC_in ⟨by omega, by decide⟩, tC (by omega), sO]
      exact w1
    · by_cases q : j = i
      · subst q
        rw [w3 j (by omega), aw_s, tC (by omega), pk_us]
      · rw [w2 j (by omega) h2, aw_n (by decide)]
    · rw [w3 j (by omega), aw_s, tC (by omega), pk_un (by omega)]
theorem r_wb {s : Nat} (hs : s < 6) (h5 : N 1 ≤ 5) (h4 : V1 132 4 = nI (N 1)) (l1 l2 l3 l4 : Int32) (c1 : Value) (ex : xM → xM → Value → Option (Int32 × xS)) : ∀ k i n (A1 : xM), i + k = N 1 → k < n → ∃ A2, fX9_replay_L214 l1 l2 l3 l4 (nI s) ex n (nI i) A1 V1 c1 = ex A2 V1 c1 ∧ (∀ p, i ≤ p → p < N 1 → A2 153 (6 * p + s) = A1 152 p) ∧ (∀ j, ¬ (j % 6 = s ∧ i ≤ j / 6 ∧ j / 6 < N 1) → A2 153 j = A1 153 j) ∧ ∀ b, b ≠ 153 → A2 b = A1 b := by
  intro k
  induction k with
  | zero =>
    intro i n A1 hi hn
    obtain ⟨n, rfl⟩ : ∃ m, n = m + 1 := ⟨n - 1, by omega⟩
    refine ⟨A1, ?_, fun j h1 h2 => by omega, fun _ _ => rfl, fun _ _ => rfl⟩
    rw [fX9_replay_L214, if_pos (by simp (disch := omega) only [ltI, leI, eqI, tI, tI1, ti_0, ti_1, ti_2, ti_3, ti_4, ti_5, ti_6, ti_7, ti_8, ti_9, ti_10, ti_11, ti_12, ti_14, ti_18, ti_30, ti_39, ti_40, ti_41, ti_45, ti_50, ti_59, ti_97, ti_99, ti_100, ti_122, ti_160, ti_243, ti_255, ti_399, ti_999, ti_1000, ti_1024, ti_99999, tm_1, tm_2, tm_3, tm_4, tm_5, tm_7, tm_11, tm_12, tm_13, tm_14, tm_100, if_pos, if_neg, if_true, if_false, bC_in, bI_s, bS_s, bX_s, bY_s, sO, tC, h4]; omega)]
  | succ k ih =>
    intro i n A1 hi hn
    obtain ⟨n, rfl⟩ : ∃ m, n = m + 1 := ⟨n - 1, by omega⟩
    have i6 : (6 : Int32) * nI i + nI s = nI (6 * i + s) := by rw [show (6 : Int32) = nI 6 from rfl, pk_mul, nI_add]
    obtain ⟨A2, w1, w2, w3, w4⟩ := ih (i + 1) n (aw A1 153 (nI (6 * i + s)) (A1 152 i)) (by omega) (by omega)
    refine ⟨A2, ?_, fun p h1 h2 => ?_, fun j h1 => ?_, fun b hb => (w4 b hb).trans (aw_n hb)⟩
    · rw [fX9_replay_L214, if_neg (by simp (disch := omega) only [ltI, leI, eqI, tI, tI1, ti_0, ti_1, ti_2, ti_3, ti_4, ti_5, ti_6, ti_7, ti_8, ti_9, ti_10, ti_11, ti_12, ti_14, ti_18, ti_30, ti_39, ti_40, ti_41, ti_45, ti_50, ti_59, ti_97, ti_99, ti_100, ti_122, ti_160, ti_243, ti_255, ti_399, ti_999, ti_1000, ti_1024, ti_99999, tm_1, tm_2, tm_3, tm_4, tm_5, tm_7, tm_11, tm_12, tm_13, tm_14, tm_100, if_pos, if_neg, if_true, if_false, bC_in, bI_s, bS_s, bX_s, bY_s, sO, tC, h4]; omega), bC_in ⟨by omega, by decide⟩, i6, bC_in ⟨by omega, by decide⟩, tC (by omega), sO]
      exact w1
    · by_cases q : p = i
      · subst q
        rw [w3 _ (by omega), aw_s, tC (by omega), pk_us]
      · rw [w2 p (by omega) h2, aw_n (by decide)]
    · rw [w3 j (by omega), aw_s, tC (by omega), pk_un (by omega)]
theorem r_cb (hv : iv N B A V tx cu) (ha : agr A V A1 V1) {e : Nat} (he : e < N 2) (l1 l2 l3 l5 : Int32) (c1 : Value) (ex : Int32 → Int32 → Option (Int32 × xS)) : ∀ k i n, i + k = N 1 → k < n → fX9_replay_L59 l1 l2 l3 (nI e) l5 A1 V1 c1 ex n (nI (mk5 (fun p => Nat.blt p i && cmpE A e p))) (nI (mk5 (fun p => Nat.blt p i && bhdE B A e p))) (nI i) = ex (nI (mk5 (fun p => Nat.blt p (N 1) && cmpE A e p))) (nI (mk5 (fun p => Nat.blt p (N 1) && bhdE B A e p))) := by
  obtain ⟨v1, v2, v3, v4, v5, v6, v7, v8, v9, v10, v11, v12, v13⟩ := id hv
  obtain ⟨-, ⟨p1, p2, p3⟩, ⟨-, -, e12⟩, -⟩ := v1
  have h4 : V1 132 4 = nI (N 1) := (ha.2 132 4 rfl).trans p2
  have e141 : A1 142 = A 142 := ha.1 142 rfl
  have e140 : A1 141 = A 141 := ha.1 141 rfl
  have e132 : A1 133 = A 133 := ha.1 133 rfl
  obtain ⟨s, r, hs, hr, h1, h2, h3, -⟩ := ev_ok hv he
  intro k
  induction k with
  | zero =>
    intro i n hi hn
    obtain ⟨n, rfl⟩ : ∃ m, n = m + 1 := ⟨n - 1, by omega⟩
    have : i = N 1 := by omega
    rw [fX9_replay_L59, this, if_pos (by simp (disch := omega) only [ltI, leI, eqI, tI, tI1, ti_0, ti_1, ti_2, ti_3, ti_4, ti_5, ti_6, ti_7, ti_8, ti_9, ti_10, ti_11, ti_12, ti_14, ti_18, ti_30, ti_39, ti_40, ti_41, ti_45, ti_50, ti_59, ti_97, ti_99, ti_100, ti_122, ti_160, ti_243, ti_255, ti_399, ti_999, ti_1000, ti_1024, ti_99999, tm_1, tm_2, tm_3, tm_4, tm_5, tm_7, tm_11, tm_12, tm_13, tm_14, tm_100, if_pos, if_neg, if_true, if_false, bC_in, bI_s, bS_s, bX_s, bY_s, sO, tC, h4]; omega)]
  | succ k ih =>
    intro i n hi hn
    obtain ⟨n, rfl⟩ : ∃ m, n = m + 1 := ⟨n - 1, by omega⟩
    have t := ih (i + 1) n (by omega) (by omega)
    have i5 : (5 : Int32) * nI e + nI i = nI (5 * e + i) := by rw [show (5 : Int32) = nI 5 from rfl, pk_mul, nI_add]
    rw [fX9_replay_L59, if_neg (by simp (disch := omega) only [ltI, leI, eqI, tI, tI1, ti_0, ti_1, ti_2, ti_3, ti_4, ti_5, ti_6, ti_7, ti_8, ti_9, ti_10, ti_11, ti_12, ti_14, ti_18, ti_30, ti_39, ti_40, ti_41, ti_45, ti_50, ti_59, ti_97, ti_99, ti_100, ti_122, ti_160, ti_243, ti_255, ti_399, ti_999, ti_1000, ti_1024, ti_99999, tm_1, tm_2, tm_3, tm_4, tm_5, tm_7, tm_11, tm_12, tm_13, tm_14, tm_100, if_pos, if_neg, if_true, if_false, bC_in, bI_s, bS_s, bX_s, bY_s, sO, tC, h4]; omega), i5, bC_in ⟨by omega, by decide⟩, bC_in ⟨by omega, by decide⟩, tC (by omega), tC (by omega), e141, e140, e132, h2, sO, or0, or0]
    rcases h3 i (by omega) with ⟨z1, z2, z3⟩ | ⟨z0, w, hw, z1, z2, z3⟩
    · have : ¬ (-1 : Int32) = nI r := by
        intro z
        have := congrArg Int32.toInt z
        rw [tI (by omega), tm_1] at this
        omega
      rw [z1, if_neg this, if_pos (by decide), row_f z2, row_f z3]
      exact t
    · have c0 : ¬ nI w < 0 := by simp (disch := omega) only [ltI, leI, eqI, tI, tI1, ti_0, ti_1, ti_2, ti_3, ti_4, ti_5, ti_6, ti_7, ti_8, ti_9, ti_10, ti_11, ti_12, ti_14, ti_18, ti_30, ti_39, ti_40, ti_41, ti_45, ti_50, ti_59, ti_97, ti_99, ti_100, ti_122, ti_160, ti_243, ti_255, ti_399, ti_999, ti_1000, ti_1024, ti_99999, tm_1, tm_2, tm_3, tm_4, tm_5, tm_7, tm_11, tm_12, tm_13, tm_14, tm_100, if_pos, if_neg, if_true, if_false, bC_in, bI_s, bS_s, bX_s, bY_s, sO, tC]; omega
      have i4 : (4 : Int32) * nI w + nI r = nI (4 * w + r) := i4 w r
      have hth : A 133 (4 * w + r) = nI (B 0 r / 2 ^ w % 2) := by
        rw [v2.2.2 w r hw hr, v2.1.2 w r hw hr]
      rw [z1, if_neg c0, i4, bC_in ⟨by omega, by decide⟩, tC (by omega), hth]
      have hm2 : B 0 r / 2 ^ w % 2 < 2 := Nat.mod_lt _ (by decide)
      by_cases q1 : w = r
      · have zc : cmpE A e i = true := by rw [z2, decide_eq_true q1]
        rw [if_pos (by rw [q1]), row_t (by omega) zc]
        by_cases q2 : B 0 r / 2 ^ w % 2 = 1
        · have zb : bhdE B A e i = true := by rw [z3, q2]; rfl
          rw [if_pos (by rw [q2]; rfl), row_t (by omega) zb]
          exact t
        · have zb : bhdE B A e i = false := by rw [z3]; exact beq_eq_false_iff_ne.mpr q2
          rw [if_neg (by simp (disch := omega) only [ltI, leI, eqI, tI, tI1, ti_0, ti_1, ti_2, ti_3, ti_4, ti_5, ti_6, ti_7, ti_8, ti_9, ti_10, ti_11, ti_12, ti_14, ti_18, ti_30, ti_39, ti_40, ti_41, ti_45, ti_50, ti_59, ti_97, ti_99, ti_100, ti_122, ti_160, ti_243, ti_255, ti_399, ti_999, ti_1000, ti_1024, ti_99999, tm_1, tm_2, tm_3, tm_4, tm_5, tm_7, tm_11, tm_12, tm_13, tm_14, tm_100, if_pos, if_neg, if_true, if_false, bC_in, bI_s, bS_s, bX_s, bY_s, sO, tC]; omega), row_f zb]
          exact t
      · have zc : cmpE A e i = false := by rw [z2, decide_eq_false q1]
        rw [if_neg (fun z => q1 ((nI_eq (by omega) (by omega)).mp z)), if_neg c0, row_f zc]
        by_cases q2 : B 0 r / 2 ^ w % 2 = 1
        · have zb : bhdE B A e i = true := by rw [z3, q2]; rfl
          rw [bC_in ⟨by omega, by decide⟩, if_pos (by rw [q2]; rfl), row_t (by omega) zb]
          exact t
        · have zb : bhdE B A e i = false := by rw [z3]; exact beq_eq_false_iff_ne.mpr q2
          rw [bC_in ⟨by omega, by decide⟩, if_neg (by simp (disch := omega) only [ltI, leI, eqI, tI, tI1, ti_0, ti_1, ti_2, ti_3, ti_4, ti_5, ti_6, ti_7, ti_8, ti_9, ti_10, ti_11, ti_12, ti_14, ti_18, ti_30, ti_39, ti_40, ti_41, ti_45, ti_50, ti_59, ti_97, ti_99, ti_100, ti_122, ti_160, ti_243, ti_255, ti_399, ti_999, ti_1000, ti_1024, ti_99999, tm_1, tm_2, tm_3, tm_4, tm_5, tm_7, tm_11, tm_12, tm_13, tm_14, tm_100, if_pos, if_neg, if_true, if_false, bC_in, bI_s, bS_s, bX_s, bY_s, sO, tC]; omega), row_f zb]
          exact t
theorem r_cb0 (hv : iv N B A V tx cu) (ha : agr A V A1 V1) {e : Nat} (he : e < N 2) (l1 l2 l3 l5 : Int32) (c1 : Value) (ex : Int32 → Int32 → Option (Int32 × xS)) : fX9_replay_L59 l1 l2 l3 (nI e) l5 A1 V1 c1 ex FU 0 0 0 = ex (nI (mk5 (cmpE A e))) (nI (mk5 (bhdE B A e))) := by
  obtain ⟨s, r, hs, hr, h1, h2, h3, h4, h5, h6⟩ := ev_ok hv he
  have p3 : N 1 ≤ 5 := hv.1.2.1.2.2
  have t := r_cb hv ha he l1 l2 l3 l5 c1 ex (N 1) 0 FU (by omega) (fu_gt (by omega))
  rw [row_e (P := N 1) (f := cmpE A e) (fun p q1 q2 => inP_f h4 q2 q1), row_e (P := N 1) (f := bhdE B A e) (fun p q1 q2 => inP_f h5 q2 q1)] at t
  exact t
theorem r_replay_L (hv : iv N B A V tx cu) {t nn : Nat} (ht : t ≤ tx.length) (hnn : nn ≤ N 2) (ex : Int32 → xM → xM → Value → Option (Int32 × xS)) : ∀ k e n (A1 V1 : xM) (c1 : Value), agr A V A1 V1 → e + k = nn → k < n → (∀ j, j < 30 → A1 153 j = nI (evF N B A tx t e j)) → ∃ A2 V2 c2, fX9_replay_L35 (nI nn) (nI t) ex n (evR N B A tx t e) (nI e) A1 V1 c1 = ex (evR N B A tx t nn) A2 V2 c2 ∧ agr A V A2 V2 ∧ ∀ j, j < 30 → A2 153 j = nI (evF N B A tx t nn j) := by
  obtain ⟨v1, v2, v3, v4, v5, v6, v7, v8, v9, v10, v11, v12, v13⟩ := id hv
  obtain ⟨⟨s1, s2, s3⟩, ⟨p1, p2, p3⟩, ⟨e1, e2, e12⟩, -⟩ := v1
  intro k
  induction k with
  | zero =>
    intro e n A1 V1 c1 ha hi hn hr
    obtain ⟨n, rfl⟩ : ∃ m, n = m + 1 := ⟨n - 1, by omega⟩
    have : e = nn := by omega
    subst this
    refine ⟨A1, V1, c1, ?_, ha, hr⟩
    rw [fX9_replay_L35, if_pos (by simp (disch := omega) only [ltI, leI, eqI, tI, tI1, ti_0, ti_1, ti_2, ti_3, ti_4, ti_5, ti_6, ti_7, ti_8, ti_9, ti_10, ti_11, ti_12, ti_14, ti_18, ti_30, ti_39, ti_40, ti_41, ti_45, ti_50, ti_59, ti_97, ti_99, ti_100, ti_122, ti_160, ti_243, ti_255, ti_399, ti_999, ti_1000, ti_1024, ti_99999, tm_1, tm_2, tm_3, tm_4, tm_5, tm_7, tm_11, tm_12, tm_13, tm_14, tm_100, if_pos, if_neg, if_true, if_false, bC_in, bI_s, bS_s, bX_s, bY_s, sO, tC]; omega)]
  | succ k ih =>
    intro e n A1 V1 c1 ha hi hn hrw
    obtain ⟨n, rfl⟩ : ∃ m, n = m + 1 := ⟨n - 1, by omega⟩
    obtain ⟨s, r, hs, hr, h1, h2, h3, h4, h5, h6⟩ := ev_ok hv (e := e) (by omega)
    have hse : (A 140 e).toNatClampNeg = s := by rw [h1, tC (by omega)]
    have hre : (A 141 e).toNatClampNeg = r := by rw [h2, tC (by omega)]
    have e139 : A1 140 e = nI s := by rw [ha.1 140 rfl]; exact h1
    have h4' : V1 132 4 = nI (N 1) := (ha.2 132 4 rfl).trans p2
    have fk := evF_ok hv t e (by omega)
    have fk30 : ∀ j, j < 30 → evF N B A tx t e j ≤ 3 := by
      intro j hj
      have := (fk (j / 6) (j % 6) (by omega) (by omega)).1
      rw [show 6 * (j / 6) + j % 6 = j by omega] at this
      exact this
    obtain ⟨A2, w1, w2, w3⟩ := r_take (A1 := A1) (l := 153) (s := s) (by decide) (by omega) p3 h4' c1
    have ha2 : agr A V A2 V1 := agr_1 ha (r := 152) rfl w3
    have e134 : A2 135 = A 135 := ha2.1 135 rfl
    have hwh := r_whoHas (N := N) (A1 := A2) (V1 := V1) (l := 153) (s := s) (F := evF N B A tx t e) (by omega) p3 h4' (by rw [e134]; exact (need_ok hv hs).2) (fun i hi => ⟨by rw [w3 153 (by decide)]; exact hrw i hi, fk30 i hi⟩)
    rw [e134] at hwh
    have e140 : A2 141 e = nI r := by rw [ha2.1 141 rfl]; exact h2
    obtain ⟨A3, V3, x1, x2, x3, x4⟩ := r_begin (K := fun p => evF N B A tx t e (6 * p + s)) (s := s) (r := r) (e := e) hv ha2 c1 h4 ht (fun p hp => ⟨by rw [w2 p hp]; exact hrw _ (by omega), fk30 _ (by omega)⟩) (bhdE B A e) (fun p => Nat.blt p (N 1) && hsf (evF N B A tx t e) (A 135 s) p)
    have hM : evM N B A tx t e = myp B tx (A 131) t s r e (fun p => evF N B A tx t e (6 * p + s)) (cmpE A e) := by unfold evM; rw [hse, hre]
    have hEK : evK N B A tx t e (evF N B A tx t e) = nxt N B tx (A 131) t s r e (fun p => evF N B A tx t e (6 * p + s)) (cmpE A e) (bhdE B A e) (hsf (evF N B A tx t e) (A 135 s)) := by unfold evK; rw [hse, hre]
    have hF1 : ∀ j, evF N B A tx t (e + 1) j = stp (evF N B A tx t e) s (evK N B A tx t e (evF N B A tx t e)) j := fun j => by rw [evF, hse]
    rw [← hM] at x1
    have ha3 : agr A V A3 V3 := by
      refine ⟨fun a q => ?_, fun a i q => ?_⟩
      · rw [x2 a (fun z => by subst z; cases q) (fun z => by subst z; cases q) (fun z => by subst z; cases q)]
        exact ha2.1 a q
      · rw [x4 a i (by rintro ⟨rfl, rfl | rfl⟩ <;> cases q)]
        exact ha2.2 a i q
    have eK : ∀ p, p < N 1 → nxt N B tx (A 131) t s r e (fun p => evF N B A tx t e (6 * p + s)) (cmpE A e) (bhdE B A e) (fun p => Nat.blt p (N 1) && hsf (evF N B A tx t e) (A 135 s) p) p = evK N B A tx t e (evF N B A tx t e) p := by
      intro p hp
      rw [hEK]
      unfold nxt
      by_cases q1 : myp B tx (A 131) t s r e (fun p => evF N B A tx t e (6 * p + s)) (cmpE A e) = true
      · rw [if_pos q1, if_pos q1]
        unfold spr
        by_cases q2 : anyp (sgs B (fun p => evF N B A tx t e (6 * p + s)) (cmpE A e)) = true
        · rw [if_pos q2, if_pos q2]
          exact lrn_c rfl rfl (fun _ => by rw [Nat.blt_eq.mpr hp, Bool.true_and])
        · rw [if_neg q2, if_neg q2]
      · rw [if_neg q1, if_neg q1]
    have h43 : V3 132 4 = nI (N 1) := (ha3.2 132 4 rfl).trans p2
    have fin : ∀ (x l3 : Int32), x = evR N B A tx t (e + 1) → ∃ A9 V9 c9, fX9_replay_L214 (nI nn) (nI t) l3 (nI e) (nI s) (fun (A41 V42 : xM) (c43 : Value) => fX9_replay_L35 (nI nn) (nI t) ex n x (nI (e + 1)) A41 V42 c43) FU 0 A3 V3 c1 = ex (evR N B A tx t nn) A9 V9 c9 ∧ agr A V A9 V9 ∧ ∀ j, j < 30 → A9 153 j = nI (evF N B A tx t nn j) := by
      intro x l3 hx
      subst hx
      obtain ⟨A5, y1, y2, y3, y4⟩ := r_wb (N := N) (V1 := V3) (s := s) (by omega) p3 h43 (nI nn) (nI t) l3 (nI e) c1 (fun (A41 V42 : xM) (c43 : Value) => fX9_replay_L35 (nI nn) (nI t) ex n (evR N B A tx t (e + 1)) (nI (e + 1)) A41 V42 c43) (N 1) 0 FU A3 (by omega) (fu_gt (by omega))
      obtain ⟨A9, V9, c9, z1, z2, z3⟩ := ih (e + 1) n A5 V3 c1 (agr_1 ha3 (r := 153) rfl y4) (by omega) (by omega) (fun j hj => by
        rw [hF1]
        by_cases q : j % 6 = s ∧ j / 6 < N 1
        · have ej : j = 6 * (j / 6) + s := by omega
          rw [ej, y2 (j / 6) (Nat.zero_le _) q.2, x3 (j / 6) q.2, eK (j / 6) q.2, stp_s (by omega)]
        · rw [y3 j (by omega), x2 153 (by decide) (by decide) (by decide), w3 153 (by decide), hrw j hj]
          by_cases q2 : j % 6 = s
          · have ej : j = 6 * (j / 6) + s := by omega
            rw [ej, stp_s (by omega), hEK, nxt_0 h4 h5 (by omega) (by omega)]
          · have ej : j = 6 * (j / 6) + j % 6 := by omega
            rw [ej, stp_n (by omega) q2])
      exact ⟨A9, V9, c9, Eq.trans y1 z1, z2, z3⟩
    rw [fX9_replay_L35, if_neg (by simp (disch := omega) only [ltI, leI, eqI, tI, tI1, ti_0, ti_1, ti_2, ti_3, ti_4, ti_5, ti_6, ti_7, ti_8, ti_9, ti_10, ti_11, ti_12, ti_14, ti_18, ti_30, ti_39, ti_40, ti_41, ti_45, ti_50, ti_59, ti_97, ti_99, ti_100, ti_122, ti_160, ti_243, ti_255, ti_399, ti_999, ti_1000, ti_1024, ti_99999, tm_1, tm_2, tm_3, tm_4, tm_5, tm_7, tm_11, tm_12, tm_13, tm_14, tm_100, if_pos, if_neg, if_true, if_false, bC_in, bI_s, bS_s, bX_s, bY_s, sO, tC]; omega), bC_in ⟨by omega, by decide⟩, tC (by omega), e139, r_cb0 hv ha (by omega), w1, bS_s, hwh, bI_s, e140, x1, bX_s, sO]
    by_cases z : evR N B A tx t e = -1
    · rw [if_pos z]
      cases hm : evM N B A tx t e with
      | false =>
        rw [nbf, if_pos rfl]
        exact fin (nI e) (nI e) (by rw [evR, if_pos ⟨z, hm⟩])
      | true =>
        rw [nbt, if_neg (by decide)]
        exact fin (evR N B A tx t e) _ (by rw [evR, hm, if_neg (by simp)])
    · rw [if_neg z]
      exact fin (evR N B A tx t e) _ (by rw [evR, if_neg (fun y => z y.1)])
theorem r_replay (hv : iv N B A V tx cu) (ha : agr A V A1 V1) (c1 : Value) {t nn : Nat} (ht : t ≤ tx.length) (hnn : nn ≤ N 2) : ∃ A2 V2 c2, fX9_replay (nI nn) (nI t) A1 V1 c1 = some (evR N B A tx t nn, A2, V2, c2) ∧ agr A V A2 V2 ∧ ∀ j, j < 30 → A2 153 j = nI (evF N B A tx t nn j) := by
  have e12 : N 2 ≤ 12 := hv.1.2.2.1.2.2
  obtain ⟨A3, x1, x2, x3, x4⟩ := r_cp30 (nI nn) (nI t) (-1) V1 c1 (fun (A66 V67 : xM) (c68 : Value) => fX9_replay_L35 (nI nn) (nI t) (fun (l3_69 : Int32) (A79 V80 : xM) (c81 : Value) => some (l3_69, A79, V80, c81)) FU (-1 : Int32) (0 : Int32) A66 V67 c68) 30 0 FU A1 (by omega) (fu_gt (by omega))
  have ha3 : agr A V A3 V1 := agr_1 ha (r := 153) rfl x4
  obtain ⟨A4, V4, c4, y1, y2, y3⟩ := r_replay_L hv ht hnn (fun (l3_69 : Int32) (A79 V80 : xM) (c81 : Value) => some (l3_69, A79, V80, c81)) nn 0 FU A3 V1 c1 ha3 (by omega) (fu_gt (by omega)) (fun j hj => by
    rw [x2 j (Nat.zero_le _) hj, ha.1 139 rfl]
    exact hv.2.2.2.2.2.2.1.2.2 j hj)
  exact ⟨A4, V4, c4, Eq.trans x1 y1, y2, y3⟩
end RE
