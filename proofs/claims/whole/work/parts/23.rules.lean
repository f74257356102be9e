/-! RULES for runs of the small machine: a run that comes to an end with Q, whatever the fuel, if there is enough. -/
abbrev xt_F (ro : Nat → Option xq_C) (d n : Nat) : xq_F := xq_ex ro xq_df xk_P xk_pr d n
def xw (ro : Nat → Option xq_C) (d : Nat) (co : Nat → Option xq_I) (pc : Nat) (L : List (Option Value)) (st : List Value) (h : xq_H) (Q : Option Value → xq_H → Prop) : Prop :=
  ∃ (r : Option Value) (h' : xq_H), Q r h' ∧ ∃ N : Nat, ∀ n m : Nat, N ≤ n → N ≤ m → xq_run ro xq_df (xt_F ro d n) co m pc L st h = some (r, h')
def xe (ro : Nat → Option xq_C) (d k : Nat) (as : List Value) (h : xq_H) (Q : Option Value → xq_H → Prop) : Prop :=
  ∃ (r : Option Value) (h' : xq_H), Q r h' ∧ ∃ N : Nat, ∀ n : Nat, N ≤ n → xt_F ro d n k as h = some (r, h')
theorem xw_mono {ro : Nat → Option xq_C} {d : Nat} {co : Nat → Option xq_I} {pc : Nat} {L : List (Option Value)} {st : List Value} {h : xq_H} {Q Q' : Option Value → xq_H → Prop} (hq : ∀ r h', Q r h' → Q' r h') (k : xw ro d co pc L st h Q) : xw ro d co pc L st h Q' := by
  obtain ⟨r, h', q, N, e⟩ := k
  exact ⟨r, h', hq r h' q, N, e⟩
theorem xe_mono {ro : Nat → Option xq_C} {d k : Nat} {as : List Value} {h : xq_H} {Q Q' : Option Value → xq_H → Prop} (hq : ∀ r h', Q r h' → Q' r h') (q : xe ro d k as h Q) : xe ro d k as h Q' := by
  obtain ⟨r, h', q, N, e⟩ := q
  exact ⟨r, h', hq r h' q, N, e⟩
theorem xw_step {ro : Nat → Option xq_C} {d : Nat} {co : Nat → Option xq_I} {pc pc' : Nat} {L L' : List (Option Value)} {st st' : List Value} {h h1 : xq_H} {Q : Option Value → xq_H → Prop} {I : xq_I} (hI : co pc = some I) (hs : ∀ F : xq_F, xq_step ro xq_df F pc L st h I = some (.inl (pc', L', st', h1))) (k : xw ro d co pc' L' st' h1 Q) : xw ro d co pc L st h Q := by
  obtain ⟨r, h', q, N, e⟩ := k
  refine ⟨r, h', q, N + 1, fun n m hn hm => ?_⟩
  obtain ⟨m', rfl⟩ : ∃ m', m = m' + 1 := ⟨m - 1, by omega⟩
  rw [xq_run, hI]
  dsimp only
  rw [hs]
  exact e n m' (by omega) (by omega)
theorem xw_ret {ro : Nat → Option xq_C} {d : Nat} {co : Nat → Option xq_I} {pc : Nat} {L : List (Option Value)} {st : List Value} {h h1 : xq_H} {Q : Option Value → xq_H → Prop} {I : xq_I} {r : Option Value} (hI : co pc = some I) (hs : ∀ F : xq_F, xq_step ro xq_df F pc L st h I = some (.inr (r, h1))) (hq : Q r h1) : xw ro d co pc L st h Q := by
  refine ⟨r, h1, hq, 1, fun n m hn hm => ?_⟩
  obtain ⟨m', rfl⟩ : ∃ m', m = m' + 1 := ⟨m - 1, by omega⟩
  rw [xq_run, hI]
  dsimp only
  rw [hs]
/-- a call -/
theorem xw_call {ro : Nat → Option xq_C} {d : Nat} {co : Nat → Option xq_I} {pc j k : Nat} {L : List (Option Value)} {st rest : List Value} {as : List Value} {h : xq_H} {Q Q1 : Option Value → xq_H → Prop} {I : xq_I} (hI : co pc = some I) (hs : ∀ F : xq_F, xq_step ro xq_df F pc L st h I = xq_call F k j pc L st h) (hj : (Nat.ble j st.length && Nat.ble (xq_sum (st.drop j)) 8) = true) (has : (st.take j).reverse = as) (hre : st.drop j = rest) (hc : xe ro d k as h Q1) (kk : ∀ r h1, Q1 r h1 → xw ro d co (pc + 3) L (r.toList ++ rest) h1 Q) : xw ro d co pc L st h Q := by
  obtain ⟨r, h1, q1, N1, e1⟩ := hc
  obtain ⟨r2, h2, q2, N2, e2⟩ := kk r h1 q1
  refine ⟨r2, h2, q2, N1 + N2 + 1, fun n m hn hm => ?_⟩
  obtain ⟨m', rfl⟩ : ∃ m', m = m' + 1 := ⟨m - 1, by omega⟩
  rw [xq_run, hI]
  dsimp only
  rw [hs]
  unfold xq_call
  rw [hj, cond_true, has, hre, e1 n (by omega)]
  exact e2 n m' (by omega) (by omega)
theorem xe_of {ro : Nat → Option xq_C} {d k nl : Nat} {co : Nat → Option xq_I} {as : List Value} {L : List (Option Value)} {h : xq_H} {Q : Option Value → xq_H → Prop} (hP : xk_P k = some (co, nl)) (ha : (as.all (fun v => Nat.beq v.category 1) && Nat.ble as.length nl) = true) (hL : xq_lo as nl = L) (kk : xw ro d co 0 L [] h Q) : xe ro (d + 1) k as h Q := by
  obtain ⟨r, h', q, N, e⟩ := kk
  refine ⟨r, h', q, N, fun n hn => ?_⟩
  show xq_ex ro xq_df xk_P xk_pr (d + 1) n k as h = _
  rw [xq_ex]
  dsimp only
  rw [hP]
  dsimp only
  rw [ha, cond_true, hL]
  exact e n n hn hn
theorem xe_pr {ro : Nat → Option xq_C} {d k : Nat} {as : List Value} {h h' : xq_H} {r : Option Value} {Q : Option Value → xq_H → Prop} (hd : 8 ≤ d) (hP : xk_P k = none) (hp : xk_pr k as h = some (r, h')) (hq : Q r h') : xe ro (d + 1) k as h Q := by
  refine ⟨r, h', hq, 0, fun n _ => ?_⟩
  show xq_ex ro xq_df xk_P xk_pr (d + 1) n k as h = _
  rw [xq_ex]
  dsimp only
  rw [hP]
  dsimp only
  rw [show Nat.ble 8 d = true from Nat.ble_eq.mpr hd, cond_true]
  exact hp
/-! SYMBOLIC STEPS: a step as a state and what must hold for it; b: which way a branch goes (1: taken), which target of a table. -/
abbrev xq_Y : Type := Option ((xq_S ⊕ xq_R) × Bool)
def xy_go (pc : Nat) (L : List (Option Value)) (st : List Value) (h : xq_H) (c : Bool) : xq_Y := some (.inl (pc, L, st, h), c)
def xq_sy (ro : Nat → Option xq_C) (b : Nat) (pc : Nat) (L : List (Option Value)) (st : List Value) (h : xq_H) (I : xq_I) : xq_Y := match I.1 with
  | .iaload => (match st with
    | .int i :: .ref r :: t => (match xq_at ro h r with
      | some (.inl (k', n, .inl f)) => xy_go (pc + 1) L (.int (f i.toNatClampNeg) :: t) h (Nat.beq 0 k' && xq_in i n)
      | _ => none)
    | _ => none)
  | .baload => (match st with
    | .int i :: .ref r :: t => (match xq_at ro h r with
      | some (.inl (k', n, .inl f)) => xy_go (pc + 1) L (.int (f i.toNatClampNeg) :: t) h (Nat.beq 1 k' && xq_in i n)
      | _ => none)
    | _ => none)
  | .caload => (match st with
    | .int i :: .ref r :: t => (match xq_at ro h r with
      | some (.inl (k', n, .inl f)) => xy_go (pc + 1) L (.int (f i.toNatClampNeg) :: t) h (Nat.beq 2 k' && xq_in i n)
      | _ => none)
    | _ => none)
  | .iastore => (match st with
    | .int x :: .int i :: .ref r :: t => bif Nat.blt r 64 then none else (match h[r - 64]? with
      | some (.inl (k', n, .inl f)) => xy_go (pc + 1) L t (h.set (r - 64) (.inl (k', n, .inl (upd f i.toNatClampNeg x)))) (Nat.beq 0 k' && xq_in i n)
      | _ => none)
    | _ => none)
  | .bastore => (match st with
    | .int x :: .int i :: .ref r :: t => bif Nat.blt r 64 then none else (match h[r - 64]? with
      | some (.inl (k', n, .inl f)) => xy_go (pc + 1) L t (h.set (r - 64) (.inl (k', n, .inl (upd f i.toNatClampNeg (vp_nar .boolean x))))) (Nat.beq 1 k' && xq_in i n)
      | _ => none)
    | _ => none)
  | .castore => (match st with
    | .int x :: .int i :: .ref r :: t => bif Nat.blt r 64 then none else (match h[r - 64]? with
      | some (.inl (k', n, .inl f)) => xy_go (pc + 1) L t (h.set (r - 64) (.inl (k', n, .inl (upd f i.toNatClampNeg (vp_nar .char x))))) (Nat.beq 2 k' && xq_in i n)
      | _ => none)
    | _ => none)
  | .ifCond k _ => (match st with
    | .int x :: t => (match b with
      | 0 => xy_go (pc + 3) L t h (!xq_cmp k x 0)
      | _ => xy_go I.2.2.1 L t h (xq_cmp k x 0))
    | _ => none)
  | .if_icmp k _ => (match st with
    | .int y :: .int x :: t => (match b with
      | 0 => xy_go (pc + 3) L t h (!xq_cmp k x y)
      | _ => xy_go I.2.2.1 L t h (xq_cmp k x y))
    | _ => none)
  | .idiv => (match st with
    | .int y :: .int x :: t => xy_go (pc + 1) L (.int (x / y) :: t) h (!decide (y = 0))
    | _ => none)
  | .irem => (match st with
    | .int y :: .int x :: t => xy_go (pc + 1) L (.int (x - x / y * y) :: t) h (!decide (y = 0))
    | _ => none)
  | .ldiv => (match st with
    | .long y :: .long x :: t => xy_go (pc + 1) L (.long (x / y) :: t) h (!decide (y = 0))
    | _ => none)
  | .lrem => (match st with
    | .long y :: .long x :: t => xy_go (pc + 1) L (.long (x - x / y * y) :: t) h (!decide (y = 0))
    | _ => none)
  | .putfield _ => (match st with
    | v :: .ref r :: t => bif Nat.blt r 64 then none else (match h[r - 64]? with
      | some (.inr (ci', fs)) => xy_go (pc + 3) L t (h.set (r - 64) (.inr (ci', fs.set I.2.2.2.1 v))) (Nat.beq I.2.2.1 ci' && Nat.blt I.2.2.2.1 fs.length && xq_fit I.2.2.2.2.1 v)
      | _ => none)
    | _ => none)
  | .ireturn => (match st with
    | [.int x] => some (.inr (some (.int x), h), Nat.beq I.2.2.1 0 || decide (x = 0) || decide (x = 1))
    | _ => none)
  | .tableswitch dflt lo hi offs => (match st with
    | .int x :: t => (match b with
      | 0 => xy_go ((pc : Int) + dflt).toNat L t h (decide (x.toInt < lo) || decide (hi < x.toInt))
      | j + 1 => (match offs.toList[j]? with
        | some o => xy_go ((pc : Int) + o).toNat L t h (!(decide (x.toInt < lo) || decide (hi < x.toInt)) && decide (x.toInt - lo = (j : Int)))
        | none => none))
    | _ => none)
  | _ => (match xq_step ro xq_df (fun _ _ _ => none) pc L st h I with
    | some o => some (o, true)
    | none => none)
theorem xq_step_F {ro : Nat → Option xq_C} {pc : Nat} {L : List (Option Value)} {st : List Value} {h : xq_H} {I : xq_I} {o : xq_S ⊕ xq_R} (e : xq_step ro xq_df (fun _ _ _ => none) pc L st h I = some o) (F : xq_F) : xq_step ro xq_df F pc L st h I = some o := by
  have cl : ∀ {k n pc : Nat} {L : List (Option Value)} {st : List Value} {h : xq_H}, ¬ xq_call (fun _ _ _ => none) k n pc L st h = some o := fun {k n pc L st h} e => by
    unfold xq_call at e
    cases hq : (Nat.ble n st.length && Nat.ble (xq_sum (st.drop n)) 8) with
    | true => rw [hq] at e; cases e
    | false => rw [hq] at e; cases e
  obtain ⟨i, len, a, b, e', pl, v⟩ := I
  cases i with
  | invokestatic idx =>
    replace e : (bif Nat.beq e' 2 then xq_copy pc L st h else bif Nat.beq e' 3 then xq_min a pc L st h else xq_call (fun _ _ _ => none) a b pc L st h) = some o := e
    show (bif Nat.beq e' 2 then xq_copy pc L st h else bif Nat.beq e' 3 then xq_min a pc L st h else xq_call F a b pc L st h) = some o
    cases h2 : Nat.beq e' 2 with
    | true => rw [h2] at e; exact e
    | false =>
      rw [h2, cond_false] at e
      cases h3 : Nat.beq e' 3 with
      | true => rw [h3] at e; exact e
      | false => rw [h3, cond_false] at e; exact absurd e cl
  | invokevirtual idx =>
    replace e : (bif Nat.beq e' 20 then xq_clone pc L st h else bif xq_recv h e' b st then xq_call (fun _ _ _ => none) a (b + 1) pc L st h else none) = some o := e
    show (bif Nat.beq e' 20 then xq_clone pc L st h else bif xq_recv h e' b st then xq_call F a (b + 1) pc L st h else none) = some o
    cases h2 : Nat.beq e' 20 with
    | true => rw [h2] at e; exact e
    | false =>
      rw [h2, cond_false] at e
      cases h3 : xq_recv h e' b st with
      | true => rw [h3, cond_true] at e; exact absurd e cl
      | false => rw [h3] at e; cases e
  | invokespecial idx =>
    dsimp only [xq_step] at e ⊢
    cases h2 : Nat.beq e' 2 with
    | true => rw [h2] at e; exact e
    | false =>
      rw [h2, cond_false] at e
      split at e
      · exact absurd e cl
      · cases e
  | _ => exact e
theorem xy_asti {pc : Nat} {L : List (Option Value)} {st : List Value} {h : xq_H} {o : xq_S ⊕ xq_R} {k : Nat} {nar : Int32 → Int32} (e : (match st with | .int x :: .int i :: .ref r :: t => bif Nat.blt r 64 then none else (match h[r - 64]? with | some (.inl (k', n, .inl f)) => xy_go (pc + 1) L t (h.set (r - 64) (.inl (k', n, .inl (upd f i.toNatClampNeg (nar x))))) (Nat.beq k k' && xq_in i n) | _ => none) | _ => none) = some (o, true)) : xq_asti k nar pc L st h = some o := by
  unfold xq_asti
  match st, e with
  | .int x :: .int i :: .ref r :: t, e =>
    dsimp only at e ⊢
    cases hr : Nat.blt r 64 with
    | true => rw [hr] at e; cases e
    | false =>
      rw [hr, cond_false] at e
      rw [cond_false]
      match hq : h[r - 64]?, e with
      | some (.inl (k', n, .inl f)), e =>
        unfold xy_go at e
        simp only [Option.some.injEq, Prod.mk.injEq] at e
        obtain ⟨rfl, e2⟩ := e
        dsimp only
        rw [e2]
        rfl
theorem xy_put {pc a b e' : Nat} {L : List (Option Value)} {st : List Value} {h : xq_H} {o : xq_S ⊕ xq_R} (e : (match st with | v :: .ref r :: t => bif Nat.blt r 64 then none else (match h[r - 64]? with | some (.inr (ci', fs)) => xy_go (pc + 3) L t (h.set (r - 64) (.inr (ci', fs.set b v))) (Nat.beq a ci' && Nat.blt b fs.length && xq_fit e' v) | _ => none) | _ => none) = some (o, true)) : xq_put a b e' pc L st h = some o := by
  unfold xq_put
  match st, e with
  | v :: .ref r :: t, e =>
    dsimp only at e ⊢
    cases hr : Nat.blt r 64 with
    | true => rw [hr] at e; cases e
    | false =>
      rw [hr, cond_false] at e
      rw [cond_false]
      match hq : h[r - 64]?, e with
      | some (.inr (ci', fs)), e =>
        unfold xy_go at e
        simp only [Option.some.injEq, Prod.mk.injEq] at e
        obtain ⟨rfl, e2⟩ := e
        dsimp only
        rw [e2]
        rfl
theorem xq_sy_ok {ro : Nat → Option xq_C} {b pc : Nat} {L : List (Option Value)} {st : List Value} {h : xq_H} {I : xq_I} {o : xq_S ⊕ xq_R} {c : Bool} (e : xq_sy ro b pc L st h I = some (o, c)) (hc : c = true) (F : xq_F) : xq_step ro xq_df F pc L st h I = some o := by
  obtain ⟨i, len, a, b', e', pl, v⟩ := I
  subst hc
  have gen : ∀ {x : xq_O}, (match x with | some o => (some (o, true) : xq_Y) | none => none) = some (o, true) → x = some o := fun {x} q => by
    cases x with
    | none => cases q
    | some y => cases q; rfl
  cases i with
  | iaload =>
    show xq_aldi ro 0 pc L st h = some o
    unfold xq_aldi
    dsimp only [xq_sy] at e
    match st, e with
    | .int i :: .ref r :: t, e =>
      dsimp only at e ⊢
      match hq : xq_at ro h r, e with
      | some (.inl (k', n, .inl f)), e =>
        unfold xy_go at e; simp only [Option.some.injEq, Prod.mk.injEq] at e; obtain ⟨rfl, e2⟩ := e
        dsimp only
        rw [e2]
        rfl
  | baload =>
    show xq_aldi ro 1 pc L st h = some o
    unfold xq_aldi
    dsimp only [xq_sy] at e
    match st, e with
    | .int i :: .ref r :: t, e =>
      dsimp only at e ⊢
      match hq : xq_at ro h r, e with
      | some (.inl (k', n, .inl f)), e =>
        unfold xy_go at e; simp only [Option.some.injEq, Prod.mk.injEq] at e; obtain ⟨rfl, e2⟩ := e
        dsimp only
        rw [e2]
        rfl
  | caload =>
    show xq_aldi ro 2 pc L st h = some o
    unfold xq_aldi
    dsimp only [xq_sy] at e
    match st, e with
    | .int i :: .ref r :: t, e =>
      dsimp only at e ⊢
      match hq : xq_at ro h r, e with
      | some (.inl (k', n, .inl f)), e =>
        unfold xy_go at e; simp only [Option.some.injEq, Prod.mk.injEq] at e; obtain ⟨rfl, e2⟩ := e
        dsimp only
        rw [e2]
        rfl
  | iastore => exact xy_asti (nar := fun x => x) e
  | bastore => exact xy_asti (nar := fun x => vp_nar .boolean x) e
  | castore => exact xy_asti (nar := fun x => vp_nar .char x) e
  | putfield idx => exact xy_put e
  | ifCond k off =>
    dsimp only [xq_sy] at e
    dsimp only [xq_step]
    match st, e with
    | .int x :: t, e =>
      dsimp only at e ⊢
      unfold xq_br
      cases b with
      | zero =>
        unfold xy_go at e; simp only [Option.some.injEq, Prod.mk.injEq] at e; obtain ⟨rfl, e2⟩ := e
        rw [Bool.not_eq_true'] at e2
        rw [e2]
        rfl
      | succ b =>
        unfold xy_go at e; simp only [Option.some.injEq, Prod.mk.injEq] at e; obtain ⟨rfl, e2⟩ := e
        rw [e2]
        rfl
  | if_icmp k off =>
    dsimp only [xq_sy] at e
    dsimp only [xq_step]
    match st, e with
    | .int y :: .int x :: t, e =>
      dsimp only at e ⊢
      unfold xq_br
      cases b with
      | zero =>
        unfold xy_go at e; simp only [Option.some.injEq, Prod.mk.injEq] at e; obtain ⟨rfl, e2⟩ := e
        rw [Bool.not_eq_true'] at e2
        rw [e2]
        rfl
      | succ b =>
        unfold xy_go at e; simp only [Option.some.injEq, Prod.mk.injEq] at e; obtain ⟨rfl, e2⟩ := e
        rw [e2]
        rfl
  | idiv =>
    dsimp only [xq_sy] at e
    dsimp only [xq_step]
    match st, e with
    | .int y :: .int x :: t, e =>
      dsimp only at e ⊢
      unfold xy_go at e; simp only [Option.some.injEq, Prod.mk.injEq] at e; obtain ⟨rfl, e2⟩ := e
      rw [Bool.not_eq_true'] at e2
      rw [e2]
      rfl
  | irem =>
    dsimp only [xq_sy] at e
    dsimp only [xq_step]
    match st, e with
    | .int y :: .int x :: t, e =>
      dsimp only at e ⊢
      unfold xy_go at e; simp only [Option.some.injEq, Prod.mk.injEq] at e; obtain ⟨rfl, e2⟩ := e
      rw [Bool.not_eq_true'] at e2
      rw [e2]
      rfl
  | ldiv =>
    dsimp only [xq_sy] at e
    dsimp only [xq_step]
    match st, e with
    | .long y :: .long x :: t, e =>
      dsimp only at e ⊢
      unfold xy_go at e; simp only [Option.some.injEq, Prod.mk.injEq] at e; obtain ⟨rfl, e2⟩ := e
      rw [Bool.not_eq_true'] at e2
      rw [e2]
      rfl
  | lrem =>
    dsimp only [xq_sy] at e
    dsimp only [xq_step]
    match st, e with
    | .long y :: .long x :: t, e =>
      dsimp only at e ⊢
      unfold xy_go at e; simp only [Option.some.injEq, Prod.mk.injEq] at e; obtain ⟨rfl, e2⟩ := e
      rw [Bool.not_eq_true'] at e2
      rw [e2]
      rfl
  | ireturn =>
    dsimp only [xq_sy] at e
    dsimp only [xq_step]
    match st, e with
    | [.int x], e =>
      dsimp only at e ⊢
      simp only [Option.some.injEq, Prod.mk.injEq] at e
      obtain ⟨rfl, e2⟩ := e
      rw [e2]
      rfl
  | tableswitch dflt lo hi offs =>
    dsimp only [xq_sy] at e
    show xq_tab pc dflt lo hi offs L st h = some o
    unfold xq_tab
    match st, e with
    | .int x :: t, e =>
      dsimp only at e ⊢
      cases b with
      | zero =>
        unfold xy_go at e; simp only [Option.some.injEq, Prod.mk.injEq] at e; obtain ⟨rfl, e2⟩ := e
        rw [e2]
        rfl
      | succ j =>
        dsimp only at e
        match hq : offs.toList[j]?, e with
        | some o', e =>
          unfold xy_go at e; simp only [Option.some.injEq, Prod.mk.injEq] at e; obtain ⟨rfl, e2⟩ := e
          rw [Bool.and_eq_true, Bool.not_eq_true'] at e2
          obtain ⟨e3, e4⟩ := e2
          have e4 := of_decide_eq_true e4
          rw [e3, cond_false, e4, Int.toNat_natCast, hq]
          rfl
  | _ =>
    dsimp only [xq_sy] at e
    exact xq_step_F (gen e) F
/-- 0: a step without a condition, 1: with one, 2: a branch -/
def xq_kd : Instr → Nat
  | .iaload => 1
  | .baload => 1
  | .caload => 1
  | .iastore => 1
  | .bastore => 1
  | .castore => 1
  | .idiv => 1
  | .irem => 1
  | .ldiv => 1
  | .lrem => 1
  | .putfield _ => 1
  | .ireturn => 1
  | .ifCond _ _ => 2
  | .if_icmp _ _ => 2
  | .tableswitch _ _ _ _ => 2
  | _ => 0
/-- a path: n symbolic steps, the branches by the list; what must hold for it -/
def xq_me (ro : Nat → Option xq_C) (co : Nat → Option xq_I) : Nat → List Nat → Nat → List (Option Value) → List Value → xq_H → Option ((xq_S ⊕ xq_R) × List Bool)
  | 0, _, pc, L, st, h => some (.inl (pc, L, st, h), [])
  | n + 1, bs, pc, L, st, h => match co pc with
    | none => none
    | some I => match xq_kd I.1 with
      | 0 => (match xq_step ro xq_df (fun _ _ _ => none) pc L st h I with
        | some (.inl (pc', L', st', h')) => xq_me ro co n bs pc' L' st' h'
        | some (.inr r) => some (.inr r, [])
        | none => none)
      | k + 1 => (match xq_sy ro (match k with | 0 => 0 | _ => bs.headD 0) pc L st h I with
        | some (.inl (pc', L', st', h'), c) => (match xq_me ro co n (match k with | 0 => bs | _ => bs.tail) pc' L' st' h' with
          | some (o, cs) => some (o, c :: cs)
          | none => none)
        | some (.inr r, c) => some (.inr r, [c])
        | none => none)
def xq_al : List Bool → Prop
  | [] => True
  | c :: t => c = true ∧ xq_al t
theorem xw_me {ro : Nat → Option xq_C} {d : Nat} {co : Nat → Option xq_I} {Q : Option Value → xq_H → Prop} : ∀ (n : Nat) (bs : List Nat) {pc pc' : Nat} {L L' : List (Option Value)} {st st' : List Value} {h h1 : xq_H} {cs : List Bool}, xq_me ro co n bs pc L st h = some (.inl (pc', L', st', h1), cs) → xq_al cs → xw ro d co pc' L' st' h1 Q → xw ro d co pc L st h Q := by
  intro n
  induction n with
  | zero =>
    intro bs pc pc' L L' st st' h h1 cs e hc k
    cases e
    exact k
  | succ n ih =>
    intro bs pc pc' L L' st st' h h1 cs e hc k
    rw [xq_me] at e
    split at e
    · cases e
    · rename_i I hI
      split at e
      · split at e
        · rename_i pc2 L2 st2 h2 es
          exact xw_step hI (fun F => xq_step_F es F) (ih bs e hc k)
        · cases e
        · cases e
      · split at e
        · rename_i pc2 L2 st2 h2 c es
          split at e
          · rename_i o cs' em
            cases e
            exact xw_step hI (fun F => xq_sy_ok es hc.1 F) (ih _ em hc.2 k)
          · cases e
        · cases e
        · cases e
theorem xw_mr {ro : Nat → Option xq_C} {d : Nat} {co : Nat → Option xq_I} {Q : Option Value → xq_H → Prop} : ∀ (n : Nat) (bs : List Nat) {pc : Nat} {L : List (Option Value)} {st : List Value} {h h1 : xq_H} {r : Option Value} {cs : List Bool}, xq_me ro co n bs pc L st h = some (.inr (r, h1), cs) → xq_al cs → Q r h1 → xw ro d co pc L st h Q := by
  intro n
  induction n with
  | zero =>
    intro bs pc L st h h1 r cs e hc k
    cases e
  | succ n ih =>
    intro bs pc L st h h1 r cs e hc k
    rw [xq_me] at e
    split at e
    · cases e
    · rename_i I hI
      split at e
      · split at e
        · rename_i pc2 L2 st2 h2 es
          exact xw_step hI (fun F => xq_step_F es F) (ih bs e hc k)
        · rename_i q es
          cases e
          exact xw_ret hI (fun F => xq_step_F es F) k
        · cases e
      · split at e
        · rename_i pc2 L2 st2 h2 c es
          split at e
          · rename_i o cs' em
            cases e
            exact xw_step hI (fun F => xq_sy_ok es hc.1 F) (ih _ em hc.2 k)
          · cases e
        · rename_i q c es
          cases e
          exact xw_ret hI (fun F => xq_sy_ok es hc.1 F) k
        · cases e
