/-! PLANS: the words of both searches agree. -/
theorem kt_mono : ∀ k, k < 6 → ∀ w, w < 2 → ∀ x, x < 2 → x ≤ kt k w x := by decide
theorem dnb_t {f wa no c : Nat} : ∀ n, dnb f wa no c n = true ↔ ∀ p, p < n → (bt wa p = true → mu c p = 2) ∧ (bt no p = true → mu c p = mu f p)
  | 0 => ⟨fun _ p hp => by omega, fun _ => rfl⟩
  | n + 1 => by
    have h1 : (!bt wa n || mu c n == 2) = true ↔ (bt wa n = true → mu c n = 2) := by
      cases bt wa n <;> simp
    have h2 : (!bt no n || mu c n == mu f n) = true ↔ (bt no n = true → mu c n = mu f n) := by
      cases bt no n <;> simp
    rw [dnb, Bool.and_eq_true, Bool.and_eq_true, h1, h2, dnb_t n]
    constructor
    · rintro ⟨a, b⟩ p hp
      by_cases q : p = n
      · rw [q]; exact b
      · exact a p (by omega)
    · intro a
      exact ⟨fun p hp => a p (by omega), a n (by omega)⟩
theorem kmb_t {f c : Nat} : ∀ n, kmb f c n = true ↔ ∃ p, p < n ∧ mu f p < mu c p
  | 0 => ⟨fun h => by (cases h), fun ⟨p, hp, _⟩ => by omega⟩
  | n + 1 => by
    rw [kmb, Bool.or_eq_true, kmb_t n, Nat.blt_eq]
    constructor
    · rintro (⟨p, hp, h⟩ | h)
      · exact ⟨p, by omega, h⟩
      · exact ⟨n, by omega, h⟩
    · rintro ⟨p, hp, h⟩
      by_cases q : p = n
      · right; rw [← q]; exact h
      · exact Or.inl ⟨p, by omega, h⟩
theorem mif (x : Nat) (P : Prop) [Decidable P] : min (if x = 2 ∧ P then 3 else x) 2 = min x 2 := by
  by_cases q : x = 2 ∧ P
  · rw [if_pos q, q.1]; rfl
  · rw [if_neg q]
section WA
variable {N : Nat → Nat} {B : Nat → Nat → Nat} {A V : xM} {tx : List xh_T} {cu : Value} {K K' : Nat → Nat} {C has : Nat → Bool}
theorem lrn_m2 {cl th cl' th' has : Nat → Bool} {sp sp' : Bool} {p : Nat} (h : min (K p) 2 = min (K' p) 2) (h1 : cl p = cl' p) (h2 : th p = th' p) : min (lrn B K cl th has sp p) 2 = min (lrn B K' cl' th' has sp' p) 2 := by
  by_cases q : 2 ≤ K p
  · rw [lrn_0 (Or.inl q), lrn_0 (Or.inl (by omega))]; exact h
  have e : K' p = K p := by omega
  have q' : K' p < 2 := by omega
  cases hh : has p with
  | false => rw [lrn_0 (Or.inr (Or.inl hh)), lrn_0 (Or.inr (Or.inl hh))]; exact h
  | true =>
    cases hc : cl p with
    | true => rw [lrn_1 (by omega) hh hc, lrn_1 q' hh (by rw [← h1]; exact hc), mif, mif, e]
    | false =>
      cases ht : th p with
      | true => rw [lrn_2 (by omega) hh hc ht, lrn_2 q' hh (by rw [← h1]; exact hc) (by rw [← h2]; exact ht), mif, mif, e]
      | false => rw [lrn_0 (Or.inr (Or.inr ⟨hc, ht⟩)), lrn_0 (Or.inr (Or.inr ⟨by rw [← h1]; exact hc, by rw [← h2]; exact ht⟩))]; exact h
theorem lrn_mo {cl th has : Nat → Bool} {sp : Bool} {p : Nat} (hk : B 2 p ≤ 5) : min (K p) 2 ≤ min (lrn B K cl th has sp p) 2 := by
  by_cases q : 2 ≤ K p
  · rw [lrn_0 (Or.inl q)]; exact Nat.le_refl _
  have k0 := kt_mono (B 2 p) (by omega) 0 (by omega) (K p) (by omega)
  have k1 := kt_mono (B 2 p) (by omega) 1 (by omega) (K p) (by omega)
  cases hh : has p with
  | false => rw [lrn_0 (Or.inr (Or.inl hh))]; exact Nat.le_refl _
  | true =>
    cases hc : cl p with
    | true => rw [lrn_1 (by omega) hh hc, mif]; omega
    | false =>
      cases ht : th p with
      | true => rw [lrn_2 (by omega) hh hc ht, mif]; omega
      | false => rw [lrn_0 (Or.inr (Or.inr ⟨hc, ht⟩))]; exact Nat.le_refl _
theorem min_b {x y : Nat} (h : min x 2 = min y 2) : Nat.ble 2 x = Nat.ble 2 y := by rw [← min2b x, h, min2b]
theorem kn_2 (h : ∀ p, p < 5 → C p = true → min (K p) 2 = min (K' p) 2) : ∀ p, p < 5 → kn K C p = kn K' C p := by
  intro p hp
  unfold kn
  cases hc : C p with
  | false => rfl
  | true => rw [min_b (h p hp hc)]
theorem sgs_2 (h : ∀ p, p < 5 → C p = true → min (K p) 2 = min (K' p) 2) : ∀ p, p < 5 → sgs B K C p = sgs B K' C p := by
  intro p hp
  have := kn_2 h p hp
  unfold kn at this
  unfold sgs
  rw [this]
theorem myp_2 {f0 : Nat → Int32} {t s r e : Nat} (h : ∀ p, p < 5 → C p = true → min (K p) 2 = min (K' p) 2) : myp B tx f0 t s r e K C = myp B tx f0 t s r e K' C := by
  unfold myp
  rw [ct_c (kn_2 h), ct_c (sgs_2 (B := B) h)]
theorem lea_2 {f0 : Nat → Int32} {t s r e q : Nat} (h : ∀ p, p < 5 → C p = true → min (K p) 2 = min (K' p) 2) : lea B tx f0 t s r e q K C = lea B tx f0 t s r e q K' C := by
  unfold lea
  rw [ct_c (kn_2 h), ct_c (sgs_2 (B := B) h)]
theorem rK_2 {f0 : Nat → Int32} {nd : Int32} {s r c : Nat} (h : ∀ p, p < 5 → bt c p = true → min (K p) 2 = min (K' p) 2) {p : Nat} (hp : min (K p) 2 = min (K' p) 2) : min (rK N B tx f0 nd s r K c p) 2 = min (rK N B tx f0 nd s r K' c p) 2 := by
  unfold rK nxt
  rw [myp_2 h]
  by_cases q : myp B tx f0 (N 3) s r 0 K' (bt c) = true
  · rw [if_pos q, if_pos q]
    unfold spr
    have e : anyp (sgs B K (bt c)) = anyp (sgs B K' (bt c)) := by
      unfold anyp
      rw [mk5_c (sgs_2 h)]
    rw [e, lea_2 h, lea_2 h]
    by_cases q2 : anyp (sgs B K' (bt c)) = true
    · rw [if_pos q2, if_pos q2]
      exact lrn_m2 hp rfl rfl
    · rw [if_neg q2, if_neg q2]; exact hp
  · rw [if_neg q, if_neg q]; exact hp
theorem rK_mo {f0 : Nat → Int32} {nd : Int32} {s r c p : Nat} (hk : B 2 p ≤ 5) : min (K p) 2 ≤ min (rK N B tx f0 nd s r K c p) 2 := by
  unfold rK nxt
  by_cases q : myp B tx f0 (N 3) s r 0 K (bt c) = true
  · rw [if_pos q]
    unfold spr
    by_cases q2 : anyp (sgs B K (bt c)) = true
    · rw [if_pos q2]; exact lrn_mo hk
    · rw [if_neg q2]; exact Nat.le_refl _
  · rw [if_neg q]; exact Nat.le_refl _
theorem rK_o {f0 : Nat → Int32} {nd : Int32} {s r c p : Nat} (hc : bt c p = false) : rK N B tx f0 nd s r K c p = K p := by
  unfold rK nxt
  by_cases q : myp B tx f0 (N 3) s r 0 K (bt c) = true
  · rw [if_pos q]
    unfold spr
    by_cases q2 : anyp (sgs B K (bt c)) = true
    · rw [if_pos q2]; exact lrn_0 (Or.inr (Or.inr ⟨by rw [hc, Bool.and_false], Bool.and_false _⟩))
    · rw [if_neg q2]
  · rw [if_neg q]
/-- a node of the one is a node of the other -/
def rl (N : Nat → Nat) (n m : Nat) : Prop := (∀ p, p < N 1 → mu n p = dg 3 m p) ∧ ∀ p, N 1 ≤ p → p < 5 → dg 3 m p = 0
theorem chg_f {K K' : Nat → Nat} {p : Nat} (h1 : K p ≤ 2) (h2 : K' p ≤ 2) : chg K K' p = false ↔ K p = K' p := by
  unfold chg
  rcases (show K p = 0 ∨ K p = 1 ∨ K p = 2 by omega) with q | q | q <;> rcases (show K' p = 0 ∨ K' p = 1 ∨ K' p = 2 by omega) with q' | q' | q' <;> rw [q, q'] <;> decide
theorem anyp_t {f : Nat → Bool} : anyp f = true ↔ ∃ p, p < 5 ∧ f p = true := by
  constructor
  · intro h
    apply Classical.byContradiction
    intro h2
    have : anyp f = false := anyp_0 (fun p hp => by
      cases z : f p with
      | false => rfl
      | true => exact absurd ⟨p, hp, z⟩ h2)
    rw [this] at h; cases h
  · rintro ⟨p, hp, h⟩
    cases z : anyp f with
    | true => rfl
    | false => rw [anyp_f z p hp] at h; cases h
theorem rl_step (hv : iv N B A V tx cu) {s r aw' no n m c : Nat} (hc : c < 2 ^ N 1) (hno : no < 2 ^ N 1) (h : rl N n m) :
    (∀ n', dlR N B tx (A 131) (A 135 s) s r aw' n c = some n' → (∀ p, p < N 1 → mu n p ≤ mu n' p) ∧ ((∀ p, p < N 1 → bt no p = true → mu n' p = mu n p) → ∃ m', dlC N B tx (A 131) (A 135 s) s r aw' no m c = some m' ∧ rl N n' m')) ∧
    (∀ m', dlC N B tx (A 131) (A 135 s) s r aw' no m c = some m' → ∃ n', dlR N B tx (A 131) (A 135 s) s r aw' n c = some n' ∧ rl N n' m' ∧ ∀ p, p < N 1 → bt no p = true → mu n' p = mu n p) := by
  obtain ⟨v1, v2, v3, v4, v5, v6, v7, v8, v9, v10, v11, v12, v13⟩ := id hv
  obtain ⟨⟨s1, s2, s3⟩, ⟨p1, p2, p3⟩, -, ⟨t1, t2, t3⟩, ⟨l1, l2, l3'⟩, -⟩ := v1
  have hC := bt_p p3 hc
  have hNo := bt_p p3 hno
  have hk : ∀ p, p < N 1 → B 2 p ≤ 5 := fun p hp => (v5 p hp).1.2.2
  have hKm : ∀ p, p < N 1 → min (dg 4 n p) 2 = min (dg 3 m p) 2 := fun p hp => by
    have e := h.1 p hp
    unfold mu at e
    have := dg3_le m p
    omega
  have hKc : ∀ p, p < 5 → bt c p = true → min (dg 4 n p) 2 = min (dg 3 m p) 2 := fun p hp q => hKm p (hC p hp q)
  have hle : ∀ p, p < N 1 → rK N B tx (A 131) (A 135 s) s r (dg 4 n) c p ≤ 3 := fun p hp => nxt_le (fun q => hk p q) hC nof (by omega) (Nat.le_of_lt_succ (dg_lt (by decide)))
  obtain ⟨n1, hn1⟩ : ∃ n1, n1 = cd 4 (rK N B tx (A 131) (A 135 s) s r (dg 4 n) c) (N 1) := ⟨_, rfl⟩
  obtain ⟨m1, hm1⟩ : ∃ m1, m1 = cd 3 (nC N B tx (A 131) (A 135 s) s r (dg 3 m) c) 5 := ⟨_, rfl⟩
  have mun : ∀ p, p < N 1 → mu n1 p = min (rK N B tx (A 131) (A 135 s) s r (dg 4 n) c p) 2 := fun p hp => by
    unfold mu
    rw [hn1, dg_cd (by decide) (N 1) (fun p hp => by have := hle p hp; omega) p hp]
  have hK2 : ∀ p, p < 5 → nC N B tx (A 131) (A 135 s) s r (dg 3 m) c p ≤ 2 := fun p _ => Nat.min_le_right _ _
  have dgm : ∀ p, p < 5 → dg 3 m1 p = nC N B tx (A 131) (A 135 s) s r (dg 3 m) c p := fun p hp => by
    rw [hm1]
    exact dg_cd (by decide) 5 (fun p hp => by have := hK2 p hp; omega) p hp
  have hout : ∀ p, N 1 ≤ p → p < 5 → nC N B tx (A 131) (A 135 s) s r (dg 3 m) c p = dg 3 m p := fun p h1 h2 => by
    unfold nC
    rw [rK_o (inP_f hC h2 h1), h.2 p h1 h2]
    rfl
  have hrl : rl N n1 m1 := by
    refine ⟨fun p hp => ?_, fun p h1 h2 => ?_⟩
    · rw [mun p hp, dgm p (by omega)]
      exact rK_2 hKc (hKm p hp)
    · rw [dgm p h2, hout p h1 h2, h.2 p h1 h2]
  have hmono : ∀ p, p < N 1 → mu n p ≤ mu n1 p := fun p hp => by
    rw [mun p hp]
    exact rK_mo (hk p hp)
  have hmy : myp B tx (A 131) (N 3) s r 0 (dg 4 n) (bt c) = myp B tx (A 131) (N 3) s r 0 (dg 3 m) (bt c) := myp_2 hKc
  have hch : ∀ p, p < N 1 → (chg (dg 3 m) (nC N B tx (A 131) (A 135 s) s r (dg 3 m) c) p = false ↔ mu n p = mu n1 p) := fun p hp => by
    rw [chg_f (dg3_le _ _) (hK2 p (by omega)), h.1 p hp, hrl.1 p hp, dgm p (by omega)]
  have hcho : ∀ p, N 1 ≤ p → p < 5 → chg (dg 3 m) (nC N B tx (A 131) (A 135 s) s r (dg 3 m) c) p = false := fun p h1 h2 => by
    rw [chg_f (dg3_le _ _) (hK2 p h2), hout p h1 h2]
  have hkm : kmb n n1 (N 1) = true ↔ anyp (chg (dg 3 m) (nC N B tx (A 131) (A 135 s) s r (dg 3 m) c)) = true := by
    rw [kmb_t, anyp_t]
    constructor
    · rintro ⟨p, hp, hlt⟩
      refine ⟨p, by omega, ?_⟩
      cases z : chg (dg 3 m) (nC N B tx (A 131) (A 135 s) s r (dg 3 m) c) p with
      | true => rfl
      | false => have := (hch p hp).mp z; omega
    · rintro ⟨p, hp, hlt⟩
      by_cases q : p < N 1
      · refine ⟨p, q, ?_⟩
        have := hmono p q
        have hne : mu n p ≠ mu n1 p := fun z => by rw [(hch p q).mpr z] at hlt; cases hlt
        omega
      · rw [hcho p (by omega) hp] at hlt; cases hlt
  constructor
  · intro n' hn'
    unfold dlR at hn'
    by_cases q : mk5 (fun p => bt c p && bt aw' p) = 0 ∧ ct (bt c) ≤ B 1 r ∧ myp B tx (A 131) (N 3) s r 0 (dg 4 n) (bt c) = true ∧ kmb n (cd 4 (rK N B tx (A 131) (A 135 s) s r (dg 4 n) c) (N 1)) (N 1) = true
    · rw [if_pos q, ← hn1] at hn'
      cases hn'
      refine ⟨hmono, fun hsame => ⟨m1, ?_, hrl⟩⟩
      rw [← hn1] at q
      have h0 : anyp (fun p => chg (dg 3 m) (nC N B tx (A 131) (A 135 s) s r (dg 3 m) c) p && bt no p) = false := anyp_0 (fun p hp => by
        cases z : bt no p with
        | false => rw [Bool.and_false]
        | true => rw [(hch p (hNo p hp z)).mpr (hsame p (hNo p hp z) z).symm, Bool.false_and])
      have hmv : mvd N B tx (A 131) (A 135 s) s r (dg 3 m) c no = true := by
        unfold mvd
        rw [← hmy, q.2.2.1, hkm.mp q.2.2.2, h0]
        rfl
      unfold dlC
      rw [if_pos ⟨q.1, q.2.1, hmv⟩, hm1]
    · rw [if_neg q] at hn'; cases hn'
  · intro m' hm'
    unfold dlC at hm'
    by_cases q : mk5 (fun p => bt c p && bt aw' p) = 0 ∧ ct (bt c) ≤ B 1 r ∧ mvd N B tx (A 131) (A 135 s) s r (dg 3 m) c no = true
    · rw [if_pos q, ← hm1] at hm'
      cases hm'
      obtain ⟨q1, q2, q3⟩ := q
      unfold mvd at q3
      rw [Bool.and_eq_true, Bool.and_eq_true] at q3
      obtain ⟨g1, g2, g3⟩ := q3
      refine ⟨n1, ?_, hrl, fun p hp z => ?_⟩
      · unfold dlR
        rw [← hn1, if_pos ⟨q1, q2, by rw [hmy]; exact g1, hkm.mpr g2⟩]
      · have g3 : anyp (fun p => chg (dg 3 m) (nC N B tx (A 131) (A 135 s) s r (dg 3 m) c) p && bt no p) = false := by simpa using g3
        have := anyp_f g3 p (by omega)
        have this : (chg (dg 3 m) (nC N B tx (A 131) (A 135 s) s r (dg 3 m) c) p && bt no p) = false := this
        rw [z, Bool.and_true] at this
        exact ((hch p hp).mp this).symm
    · rw [if_neg q] at hm'; cases hm'
theorem rl_0 (hv : iv N B A V tx cu) {s : Nat} (hs : s < N 0) : rl N (cd 4 (K0 B s) (N 1)) (sC B s) := by
  obtain ⟨v1, v2, v3, v4, v5, v6, v7, v8, v9, v10, v11, v12, v13⟩ := id hv
  obtain ⟨⟨s1, s2, s3⟩, ⟨p1, p2, p3⟩, -⟩ := v1
  have hd : ∀ p, p < 5 → dg 3 (sC B s) p = min (K0 B s p) 2 := fun p hp => dg_cd (K := fun p => min (K0 B s p) 2) (by decide) 5 (fun p hp => by have : min (K0 B s p) 2 ≤ 2 := Nat.min_le_right _ _; show min (K0 B s p) 2 < 3; omega) p hp
  have hK0 : ∀ p, p < 5 → K0 B s p ≤ 3 := fun p hp => (v7.1 p s hp (by omega)).1
  refine ⟨fun p hp => ?_, fun p h1 h2 => ?_⟩
  · unfold mu
    rw [hd p (by omega), dg_cd (by decide) (N 1) (fun p hp => by have := hK0 p (by omega); omega) p hp]
  · rw [hd p h2]
    have : K0 B s p = 0 := (v7.1 p s h2 (by omega)).2 (Or.inl h1)
    rw [this]
    rfl
theorem w_RC (hv : iv N B A V tx cu) {s r aw' no : Nat} (hs : s < N 0) (hno : no < 2 ^ N 1) : ∀ (w : List Nat) (n : Nat), wrun (dlR N B tx (A 131) (A 135 s) s r aw') (2 ^ N 1) (cd 4 (K0 B s) (N 1)) w = some n → (∀ p, p < N 1 → mu (cd 4 (K0 B s) (N 1)) p ≤ mu n p) ∧ ((∀ p, p < N 1 → bt no p = true → mu n p = mu (cd 4 (K0 B s) (N 1)) p) → ∃ m, wrun (dlC N B tx (A 131) (A 135 s) s r aw' no) (2 ^ N 1) (sC B s) w = some m ∧ rl N n m) := by
  intro w
  induction w with
  | nil =>
    intro n hw
    cases hw
    exact ⟨fun _ _ => Nat.le_refl _, fun _ => ⟨_, rfl, rl_0 hv hs⟩⟩
  | cons c u ih =>
    intro n hw
    rcases w_cases hw with ⟨z, -⟩ | ⟨e, w0, n0, z, hw0, he, hM, hl⟩
    · cases z
    · cases z
      obtain ⟨i1, i2⟩ := ih n0 hw0
      have mono : ∀ p, p < N 1 → mu n0 p ≤ mu n p := by
        -- any node of the class will do for it
        have hx : ∀ m, rl N n0 m → ∀ p, p < N 1 → mu n0 p ≤ mu n p := fun m hm => ((rl_step (aw' := aw') (no := no) hv hM hno hm).1 n hl).1
        refine hx (cd 3 (fun p => if p < N 1 then mu n0 p else 0) 5) ⟨fun p hp => ?_, fun p h1 h2 => ?_⟩
        · have := hv.1.2.1.2.2
          rw [dg_cd (by decide) 5 (fun p hp => by show (if p < N 1 then mu n0 p else 0) < 3; have := mu_le n0 p; by_cases q : p < N 1 <;> simp only [q, if_true, if_false] <;> omega) p (by omega), if_pos hp]
        · rw [dg_cd (by decide) 5 (fun p hp => by show (if p < N 1 then mu n0 p else 0) < 3; have := mu_le n0 p; by_cases q : p < N 1 <;> simp only [q, if_true, if_false] <;> omega) p h2, if_neg (by omega)]
      refine ⟨fun p hp => Nat.le_trans (i1 p hp) (mono p hp), fun hsame => ?_⟩
      have eq0 : ∀ p, p < N 1 → bt no p = true → mu n0 p = mu (cd 4 (K0 B s) (N 1)) p := fun p hp z => by
        have h1 := i1 p hp
        have h2 := mono p hp
        have h3 := hsame p hp z
        omega
      obtain ⟨m0, g1, g2⟩ := i2 eq0
      obtain ⟨m, k1, k2⟩ := ((rl_step (aw' := aw') (no := no) hv hM hno g2).1 n hl).2 (fun p hp z => (hsame p hp z).trans (eq0 p hp z).symm)
      exact ⟨m, wrun_s g1 he hM k1, k2⟩
theorem w_CR (hv : iv N B A V tx cu) {s r aw' no : Nat} (hs : s < N 0) (hno : no < 2 ^ N 1) : ∀ (w : List Nat) (m : Nat), wrun (dlC N B tx (A 131) (A 135 s) s r aw' no) (2 ^ N 1) (sC B s) w = some m → ∃ n, wrun (dlR N B tx (A 131) (A 135 s) s r aw') (2 ^ N 1) (cd 4 (K0 B s) (N 1)) w = some n ∧ rl N n m ∧ ∀ p, p < N 1 → bt no p = true → mu n p = mu (cd 4 (K0 B s) (N 1)) p := by
  intro w
  induction w with
  | nil =>
    intro m hw
    cases hw
    exact ⟨_, rfl, rl_0 hv hs, fun _ _ _ => rfl⟩
  | cons c u ih =>
    intro m hw
    rcases w_cases hw with ⟨z, -⟩ | ⟨e, w0, m0, z, hw0, he, hM, hl⟩
    · cases z
    · cases z
      obtain ⟨n0, i1, i2, i3⟩ := ih m0 hw0
      obtain ⟨n, k1, k2, k3⟩ := (rl_step (aw' := aw') (no := no) hv hM hno i2).2 m hl
      exact ⟨n, wrun_s i1 he hM k1, k2, fun p hp z => (k3 p hp z).trans (i3 p hp z)⟩
theorem wnt_t (hv : iv N B A V tx cu) {wa n m : Nat} (hwa : wa < 2 ^ N 1) (h : rl N n m) : wnt wa m ↔ ∀ p, p < N 1 → bt wa p = true → mu n p = 2 := by
  have p3 := hv.1.2.1.2.2
  have hW := bt_p p3 hwa
  unfold wnt
  rw [m_0]
  constructor
  · intro q p hp z
    have := q p (by omega)
    rw [z, Bool.true_and] at this
    have : Nat.ble 2 (dg 3 m p) = true := by simpa using this
    have h1 := Nat.ble_eq.mp this
    have h2 := dg3_le m p
    rw [h.1 p hp]
    omega
  · intro q p hp
    cases z : bt wa p with
    | false => rfl
    | true =>
      have hp1 := hW p hp z
      have := q p hp1 z
      rw [h.1 p hp1] at this
      rw [this]
      rfl
theorem w_eq (hv : iv N B A V tx cu) {s r aw' wa no : Nat} (hs : s < N 0) (hwa : wa < 2 ^ N 1) (hno : no < 2 ^ N 1) (w : List Nat) : (∃ n, wrun (dlR N B tx (A 131) (A 135 s) s r aw') (2 ^ N 1) (cd 4 (K0 B s) (N 1)) w = some n ∧ dnb (cd 4 (K0 B s) (N 1)) wa no n (N 1) = true) ↔ ∃ m, wrun (dlC N B tx (A 131) (A 135 s) s r aw' no) (2 ^ N 1) (sC B s) w = some m ∧ wnt wa m := by
  constructor
  · rintro ⟨n, h1, h2⟩
    rw [dnb_t] at h2
    obtain ⟨m, g1, g2⟩ := (w_RC hv hs hno w n h1).2 (fun p hp z => (h2 p hp).2 z)
    exact ⟨m, g1, (wnt_t hv hwa g2).mpr (fun p hp z => (h2 p hp).1 z)⟩
  · rintro ⟨m, h1, h2⟩
    obtain ⟨n, g1, g2, g3⟩ := w_CR hv hs hno w m h1
    exact ⟨n, g1, (dnb_t _).mpr (fun p hp => ⟨fun z => (wnt_t hv hwa g2).mp h2 p hp z, fun z => g3 p hp z⟩)⟩
end WA
