/-! RUNS: cells only become more; a run of the small machine is a method's contract. -/
def xq_le (h h' : xq_H) : Prop := h.length ≤ h'.length ∧ xq_z h ≤ xq_z h'
theorem xq_le_rf (h : xq_H) : xq_le h h := ⟨Nat.le_refl _, Nat.le_refl _⟩
theorem xq_le_tr {a b c : xq_H} (h1 : xq_le a b) (h2 : xq_le b c) : xq_le a c := ⟨Nat.le_trans h1.1 h2.1, Nat.le_trans h1.2 h2.2⟩
theorem xq_le_app (h g : xq_H) : xq_le h (h ++ g) := ⟨by rw [List.length_append]; omega, by rw [xq_z_app]; omega⟩
theorem xq_le_set {h : xq_H} {k : Nat} {c d : xq_C} (hd : h[k]? = some d) (e : xq_zc c = xq_zc d) : xq_le h (h.set k c) := ⟨by rw [List.length_set]; exact Nat.le_refl _, by rw [xq_z_set e h k hd]; exact Nat.le_refl _⟩
def xq_hp (h : xq_H) : xq_O → Prop
  | none => True
  | some (.inl (_, _, _, h')) => xq_le h h'
  | some (.inr (_, h')) => h' = h
theorem xq_hp_go {pc : Nat} {L : List (Option Value)} {st : List Value} {h : xq_H} : xq_hp h (xq_go pc L st h) := xq_le_rf h
theorem xq_hp_if {h : xq_H} {b : Bool} {x y : xq_O} (hx : b = true → xq_hp h x) (hy : xq_hp h y) : xq_hp h (bif b then x else y) := by
  cases b
  · exact hy
  · exact hx rfl
theorem xq_hp_if2 {h : xq_H} {b : Bool} {x y : xq_O} (hx : xq_hp h x) (hy : xq_hp h y) : xq_hp h (bif b then x else y) := xq_hp_if (fun _ => hx) hy
theorem xq_hp_call {F : xq_F} {k n pc : Nat} {L : List (Option Value)} {st : List Value} {h : xq_H} (hF : ∀ (k : Nat) (as : List Value) (h : xq_H) (r : Option Value) (h' : xq_H), F k as h = some (r, h') → xq_le h h') : xq_hp h (xq_call F k n pc L st h) := by
  unfold xq_call
  refine xq_hp_if2 ?_ trivial
  split
  · rename_i r h' e
    exact hF _ _ _ _ _ e
  · exact trivial
theorem xq_step_hp {ro : Nat → Option xq_C} {df : Nat → List Value} {F : xq_F} {pc : Nat} {L : List (Option Value)} {st : List Value} {h : xq_H} {I : xq_I} (hF : ∀ (k : Nat) (as : List Value) (h : xq_H) (r : Option Value) (h' : xq_H), F k as h = some (r, h') → xq_le h h') : xq_hp h (xq_step ro df F pc L st h I) := by
  obtain ⟨i, len, a, b, e', pl, v⟩ := I
  cases i <;> dsimp only [xq_step] <;> first
    | exact xq_hp_go
    | exact trivial
    | (split <;> first | exact xq_hp_go | exact trivial | rfl | (exact xq_hp_if2 xq_hp_go trivial) | (exact xq_hp_if2 trivial xq_hp_go) | (exact xq_hp_if2 rfl trivial) | (split <;> first | exact xq_hp_go | exact trivial) | (unfold xq_br; exact xq_hp_if2 xq_hp_go xq_hp_go))
    | (unfold xq_i2; split <;> first | exact xq_hp_go | exact trivial)
    | (unfold xq_i1; split <;> first | exact xq_hp_go | exact trivial)
    | (unfold xq_l2; split <;> first | exact xq_hp_go | exact trivial)
    | (unfold xq_tab; split <;> first | exact trivial | (refine xq_hp_if2 xq_hp_go ?_; split <;> first | exact xq_hp_go | exact trivial))
    | (unfold xq_lsw; split <;> first | exact xq_hp_go | exact trivial)
    | (unfold xq_aldi; split <;> first | exact trivial | (split <;> first | exact trivial | exact xq_hp_if2 xq_hp_go trivial))
    | (unfold xq_aldr; split <;> first | exact trivial | (refine xq_hp_if2 trivial ?_; split <;> first | exact trivial | exact xq_hp_if2 xq_hp_go trivial))
    | (unfold xq_alen; split <;> first | exact trivial | (split <;> first | exact trivial | exact xq_hp_if2 xq_hp_go trivial))
    | (unfold xq_asti; split <;> first | exact trivial | (refine xq_hp_if2 trivial ?_; split <;> first | exact trivial | (rename_i hc; exact xq_hp_if2 (xq_le_set hc rfl) trivial)))
    | (unfold xq_astr; split <;> first | exact trivial | (refine xq_hp_if2 trivial ?_; split <;> first | exact trivial | (rename_i hc _; exact xq_hp_if2 (xq_le_set hc rfl) trivial)))
    | (unfold xq_newi; split <;> first | exact trivial | exact xq_hp_if2 (xq_le_app _ _) trivial)
    | (unfold xq_newr; split <;> first | exact trivial | exact xq_hp_if2 (xq_le_app _ _) trivial)
    | (unfold xq_newg; split <;> first | exact trivial | exact xq_hp_if2 (xq_le_app _ _) trivial)
    | exact xq_le_app _ _
    | (unfold xq_get; split <;> first | exact trivial | (refine xq_hp_if2 trivial ?_; split <;> first | exact trivial | (refine xq_hp_if2 ?_ trivial; split <;> first | exact xq_hp_go | exact trivial)))
    | (unfold xq_put; split <;> first | exact trivial | (refine xq_hp_if2 trivial ?_; split <;> first | exact trivial | (rename_i hc; exact xq_hp_if2 (xq_le_set hc (List.length_set ..)) trivial)))
    | (split <;> first | exact trivial | (refine xq_hp_if2 trivial ?_; split <;> first | exact xq_hp_go | exact trivial))
    | (refine xq_hp_if2 ?_ (xq_hp_if2 (by unfold xq_min; split <;> first | exact trivial | exact xq_hp_if2 xq_hp_go trivial) (xq_hp_call hF)); unfold xq_copy; split <;> first | exact trivial | (refine xq_hp_if2 trivial ?_; split <;> first | exact trivial | (rename_i hc; exact xq_hp_if2 (xq_le_set hc rfl) trivial)))
    | (refine xq_hp_if2 ?_ (xq_hp_if2 (xq_hp_call hF) trivial); unfold xq_clone; split <;> first | exact trivial | (refine xq_hp_if2 trivial ?_; split <;> first | exact trivial | exact xq_hp_if2 (xq_le_app _ _) trivial))
    | (refine xq_hp_if2 ?_ ?_ <;> split <;> first | exact trivial | exact xq_hp_if2 xq_hp_go trivial | exact xq_hp_call hF)
theorem xq_run_le {ro : Nat → Option xq_C} {df : Nat → List Value} {F : xq_F} {co : Nat → Option xq_I} (hF : ∀ (k : Nat) (as : List Value) (h : xq_H) (r : Option Value) (h' : xq_H), F k as h = some (r, h') → xq_le h h') {r : Option Value} {hf : xq_H} : ∀ (n pc : Nat) (L : List (Option Value)) (st : List Value) (h : xq_H), xq_run ro df F co n pc L st h = some (r, hf) → xq_le h hf := by
  intro n
  induction n with
  | zero => intro pc L st h e; cases e
  | succ n ih =>
    intro pc L st h e
    rw [xq_run] at e
    split at e
    · cases e
    · rename_i I hI
      have hs := xq_step_hp (ro := ro) (df := df) (F := F) (pc := pc) (L := L) (st := st) (h := h) (I := I) hF
      split at e
      · cases e
      · rename_i pc' L' st' h' e2
        rw [e2] at hs
        exact xq_le_tr hs (ih _ _ _ _ e)
      · rename_i q e2
        rw [e2] at hs
        cases e
        have hs : hf = h := hs
        rw [hs]
        exact xq_le_rf h
theorem xq_ex_le {ro : Nat → Option xq_C} {df : Nat → List Value} {P : Nat → Option ((Nat → Option xq_I) × Nat)} {pr : xq_F} (hpr : ∀ (k : Nat) (as : List Value) (h : xq_H) (r : Option Value) (h' : xq_H), pr k as h = some (r, h') → xq_le h h') (n : Nat) : ∀ (d k : Nat) (as : List Value) (h : xq_H) (r : Option Value) (h' : xq_H), xq_ex ro df P pr d n k as h = some (r, h') → xq_le h h' := by
  intro d
  induction d with
  | zero => intro k as h r h' e; cases e
  | succ d ih =>
    intro k as h r h' e
    rw [xq_ex] at e
    dsimp only at e
    split at e
    · cases hd : Nat.ble 8 d with
      | false => rw [hd] at e; cases e
      | true => rw [hd, cond_true] at e; exact hpr _ _ _ _ _ e
    · rename_i co nl _
      cases hd : (as.all (fun v => Nat.beq v.category 1) && Nat.ble as.length nl) with
      | false => rw [hd] at e; cases e
      | true => rw [hd, cond_true] at e; exact xq_run_le ih _ _ _ _ _ e
section XQ11
variable {p : Program} {l : Launch} {e : Env} {R : Room} {s : State} {m : MethodId} {args : Array Value} {below : List Frame} {meth : Method} {c : Code} {Q : State → Prop} {D : va_G} {cid : Nat → ClassId} {rt adV : Nat → Nat} {ro : Nat → Option xq_C} {base l0 z0 nL d : Nat} {bytes : ByteArray} {own : String} {E : Prop} {pc : Nat} {L : List (Option Value)} {st : List Value} {h : xq_H}
theorem xq_sret {MT : Nat → Option xq_M} {XL : List xq_X} {o : Nat} {F : xq_F} {ini : Bool} {ret : Option FieldType} {I : xq_I} {r : Option Value} {hf : xq_H} (hB : xq_B p R s m args c bytes own nL d D cid ro rt adV base l0) (hr : meth.sig.returnType = ret) (hlk : meth.locks = false) (hok : xq_ok MT XL o ini ret bytes pc I = true) (hst : xq_step ro xq_df F pc L st h I = some (.inr (r, hf))) : hf = h ∧ ∀ (H : Heap) (locs : List Loc) (ls : Array Slot) (cells slots : Nat), va_P D vwCl (xq_w (xq_am rt base) cid 64 h) H → va_D (xq_A base) (xq_w (xq_am rt base) cid 64 h) → va_S (xq_A base) s.heap H locs → W p l e R s m args below meth c H locs cells slots (MQ below (xq_Qc D cid rt base r hf) args s cells slots (xq_A base)) (F0 m pc ls (st.map (xq_v (xq_am rt base)))) := by
  obtain ⟨i, len, a, b, e', pl, v⟩ := I
  replace hok : (decide (decode bytes pc = .ok (i, len)) && xq_ok2 MT XL o ini ret pc i len a b e' pl v) = true := hok
  rw [Bool.and_eq_true] at hok
  obtain ⟨hdc0, hok⟩ := hok
  have hdc := of_decide_eq_true hdc0
  clear hdc0
  obtain ⟨hx, hb, hml, hown, hts, hE, hsz, hfr, hlo⟩ := hB
  have tl : ∀ {x : Bool} {k : Nat}, (Nat.beq len k && x) = true → len = k ∧ x = true := fun h => by
    rw [Bool.and_eq_true] at h
    exact ⟨Nat.eq_of_beq_eq_true h.1, h.2⟩
  have cx : ∀ {b : Bool} {x y : xq_O}, (bif b then x else y) = some (.inr (r, hf)) → x = some (.inr (r, hf)) ∨ y = some (.inr (r, hf)) := fun {b x y} h => by
    cases b
    · exact Or.inr h
    · exact Or.inl h
  have gx : ∀ {pc : Nat} {L : List (Option Value)} {st : List Value} {h : xq_H}, ¬ xq_go pc L st h = some (.inr (r, hf)) := fun h => by cases h
  have clx : ∀ {k n pc : Nat} {L : List (Option Value)} {st : List Value} {h : xq_H}, ¬ xq_call F k n pc L st h = some (.inr (r, hf)) := fun {k n pc L st h} e => by
    unfold xq_call at e
    rcases cx e with e | e
    · split at e <;> cases e
    · cases e
  cases i with
  | ireturn =>
    obtain ⟨hl0, hk0⟩ := tl hok
    clear hok
    subst hl0
    dsimp only [xq_step] at hst
    split at hst
    · rename_i x
      cases hq : (Nat.beq a 0 || decide (x = 0) || decide (x = 1)) with
      | false => rw [hq] at hst; cases hst
      | true =>
        rw [hq] at hst
        cases hst
        refine ⟨rfl, fun H locs ls cells slots hP hD hS => ?_⟩
        have hqq : ∀ t : State, t.heap = H → s.WarmedH t.vm → xq_Qc D cid rt base (some (.int x)) h args s (.returned (some (.int x))) t := fun t ht _ => ⟨rfl, by rw [ht]; exact hP, hD, hS.F ht⟩
        rw [Bool.or_eq_true, Bool.and_eq_true, Bool.and_eq_true] at hk0
        rcases hk0 with ⟨k1, k2⟩ | ⟨k1, k2⟩
        · have k2 := of_decide_eq_true k2
          exact W.iret hx hb (hr.trans k2) hqq hS.2.2 hdc hlk
        · have k2 := of_decide_eq_true k2
          have ha := Nat.eq_of_beq_eq_true k1
          subst ha
          refine W.zret hx hb (hr.trans k2) ?_ hqq hS.2.2 hdc hlk
          rw [Bool.or_eq_true, Bool.or_eq_true] at hq
          rcases hq with (q | q) | q
          · cases q
          · have q := of_decide_eq_true q; subst q; rfl
          · have q := of_decide_eq_true q; subst q; rfl
    · cases hst
  | lreturn =>
    obtain ⟨hl0, hk0⟩ := tl hok
    clear hok
    subst hl0
    dsimp only [xq_step] at hst
    split at hst
    · cases hst
      refine ⟨rfl, fun H locs ls cells slots hP hD hS => ?_⟩
      exact W.lret hx hb (hr.trans (of_decide_eq_true hk0)) (fun t ht _ => ⟨rfl, by rw [ht]; exact hP, hD, hS.F ht⟩) hS.2.2 hdc hlk
    · cases hst
  | areturn =>
    obtain ⟨hl0, hk0⟩ := tl hok
    clear hok
    subst hl0
    have hrt : ∃ ty, ret = some ty ∧ ((∃ n, ty = .object n) ∨ ∃ t, ty = .array t) := by
      split at hk0
      · exact ⟨_, rfl, Or.inl ⟨_, rfl⟩⟩
      · exact ⟨_, rfl, Or.inr ⟨_, rfl⟩⟩
      · cases hk0
    obtain ⟨ty, h1, h2⟩ := hrt
    dsimp only [xq_step] at hst
    split at hst
    · rename_i x
      cases hst
      refine ⟨rfl, fun H locs ls cells slots hP hD hS => ?_⟩
      exact W.aret (v := .ref (xq_am rt base x)) hx hb (hr.trans h1) h2 (Or.inr ⟨_, rfl⟩) (fun t ht _ => ⟨rfl, by rw [ht]; exact hP, hD, hS.F ht⟩) hS.2.2 hdc hlk
    · cases hst
      refine ⟨rfl, fun H locs ls cells slots hP hD hS => ?_⟩
      exact W.aret (v := .null) hx hb (hr.trans h1) h2 (Or.inl rfl) (fun t ht _ => ⟨rfl, by rw [ht]; exact hP, hD, hS.F ht⟩) hS.2.2 hdc hlk
    · cases hst
  | return_ =>
    obtain ⟨hl0, hk0⟩ := tl hok
    clear hok
    subst hl0
    dsimp only [xq_step] at hst
    split at hst
    · cases hst
      refine ⟨rfl, fun H locs ls cells slots hP hD hS => ?_⟩
      exact W.vret hx hb (hr.trans (of_decide_eq_true hk0)) (fun t ht _ => ⟨rfl, by rw [ht]; exact hP, hD, hS.F ht⟩) hS.2.2 hdc hlk
    · cases hst
  | _ =>
    exfalso
    clear hok hdc
    dsimp only [xq_step, xq_i1, xq_i2, xq_l2, xq_br, xq_tab, xq_lsw, xq_aldi, xq_aldr, xq_alen, xq_asti, xq_astr, xq_newi, xq_newr, xq_newg, xq_get, xq_put, xq_copy, xq_min, xq_clone] at hst
    first
      | (cases hst; done)
      | exact gx hst
      | (split at hst <;> first | (cases hst; done) | exact gx hst | (rcases cx hst with q | q <;> first | (cases q; done) | exact gx q | (split at q <;> first | (cases q; done) | exact gx q | (rcases cx q with q | q <;> first | (cases q; done) | exact gx q | (split at q <;> first | (cases q; done) | exact gx q)))) | (split at hst <;> first | (cases hst; done) | exact gx hst | (rcases cx hst with q | q <;> first | (cases q; done) | exact gx q)))
      | (rcases cx hst with q | q <;> first | (cases q; done) | exact gx q | exact clx q | (rcases cx q with q | q <;> first | (cases q; done) | exact clx q | (split at q <;> first | (cases q; done) | (rcases cx q with q | q <;> first | (cases q; done) | exact gx q))) | (split at q <;> first | (cases q; done) | exact gx q | exact clx q | (rcases cx q with q | q <;> first | (cases q; done) | exact gx q | (split at q <;> first | (cases q; done) | exact gx q | (rcases cx q with q | q <;> first | (cases q; done) | exact gx q)))))
theorem xq_run_sound {MT : Nat → Option xq_M} {XL : List xq_X} {o : Nat} (ho : own = xq_cn o) (hX : ∀ q ∈ XL, xq_xm MT q) {F : xq_F} {ini : Bool} {ret : Option FieldType} {co : Nat → Option xq_I} {r : Option Value} {hf : xq_H} (hB : xq_B p R s m args c bytes own nL d D cid ro rt adV base l0) (hMT : ∀ (k : Nat) (M : xq_M), MT k = some M → xq_mf M) (hF : ∀ (k : Nat) (M : xq_M), MT k = some M → ∀ (as : List Value) (h : xq_H) (r : Option Value) (h' : xq_H), F k as h = some (r, h') → xq_Mt l D cid ro rt adV base d M as h r h') (hFl : ∀ (k : Nat) (as : List Value) (h : xq_H) (r : Option Value) (h' : xq_H), F k as h = some (r, h') → xq_le h h') (hini : ini = true → meth.name = "<init>") (hr : meth.sig.returnType = ret) (hlk : meth.locks = false) (hco : ∀ (pc : Nat) (I : xq_I), co pc = some I → xq_ok MT XL o ini ret bytes pc I = true) (hRc : l0 + R.cells = hf.length) (hRs : z0 + R.slots = xq_z hf) :
    ∀ (n pc : Nat) (L : List (Option Value)) (st : List Value) (h : xq_H), xq_run ro xq_df F co n pc L st h = some (r, hf) → xq_G p l e R s m args below meth c (MQ below (xq_Qc D cid rt base r hf) args s R.cells R.slots (xq_A base)) D cid rt base l0 z0 nL pc L st h := by
  intro n
  induction n with
  | zero => intro pc L st h e; cases e
  | succ n ih =>
    intro pc L st h e
    rw [xq_run] at e
    split at e
    · cases e
    · rename_i I hI
      split at e
      · cases e
      · rename_i pc' L' st' h' e2
        have hle := xq_run_le hFl _ _ _ _ _ e
        have hg := ih _ _ _ _ e
        have := xq_sound1 (E := False) (Q := MQ below (xq_Qc D cid rt base r hf) args s R.cells R.slots (xq_A base)) (z0 := z0) ho hX hB hMT hF hini (hco pc I hI) (by rw [e2]; exact ⟨⟨by rw [hRc]; exact hle.1, by rw [hRs]; exact hle.2⟩, hg⟩)
        exact this.resolve_left id
      · rename_i q e2
        cases e
        obtain ⟨h1, h2⟩ := xq_sret hB hr hlk (hco pc I hI) e2
        intro H locs ls cells slots hP hD hS hL e1 e3
        have hc : cells = R.cells := by rw [h1] at hRc; omega
        have hs : slots = R.slots := by rw [h1] at hRs; omega
        subst hc
        subst hs
        exact h2 H locs ls R.cells R.slots hP hD hS
end XQ11
theorem xq_ex_sound {l : Launch} {D : va_G} {cid : Nat → ClassId} {ro : Nat → Option xq_C} {rt adV : Nat → Nat} {base : Nat} {MT : Nat → Option xq_M} {XL : List xq_X} (hX : ∀ q ∈ XL, xq_xm MT q) {P : Nat → Option ((Nat → Option xq_I) × Nat)} {pr : xq_F} (hMT : ∀ (k : Nat) (M : xq_M), MT k = some M → xq_mf M) (hpl : ∀ (k : Nat) (as : List Value) (h : xq_H) (r : Option Value) (h' : xq_H), pr k as h = some (r, h') → xq_le h h')
    (hpr : ∀ (d k : Nat) (M : xq_M), 9 ≤ d → P k = none → MT k = some M → ∀ (as : List Value) (h : xq_H) (r : Option Value) (h' : xq_H), pr k as h = some (r, h') → xq_Mt l D cid ro rt adV base d M as h r h')
    (hP : ∀ (k : Nat) (co : Nat → Option xq_I) (nl : Nat) (M : xq_M), P k = some (co, nl) → MT k = some M → nl = M.2.2.1 ∧ ∃ (o : Nat) (ini : Bool), M.1.cls = xq_cn o ∧ (ini = true → M.1.name = "<init>") ∧ ∀ (pc : Nat) (I : xq_I), co pc = some I → xq_ok MT XL o ini M.2.2.2.1 M.2.1 pc I = true) (n : Nat) :
    ∀ (d k : Nat) (M : xq_M), MT k = some M → ∀ (as : List Value) (h : xq_H) (r : Option Value) (h' : xq_H), xq_ex ro xq_df P pr d n k as h = some (r, h') → xq_Mt l D cid ro rt adV base d M as h r h' := by
  intro d
  induction d with
  | zero => intro k M _ as h r h' e; cases e
  | succ d ih =>
    intro k M hM as h r h' e
    have hle := xq_ex_le hpl n (d + 1) k as h r h' e
    rw [xq_ex] at e
    dsimp only at e
    split at e
    · rename_i hPk
      cases hd : Nat.ble 8 d with
      | false => rw [hd] at e; cases e
      | true =>
        rw [hd, cond_true] at e
        have := Nat.le_of_ble_eq_true hd
        exact hpr (d + 1) k M (by omega) hPk hM as h r h' e
    · rename_i co nl hPk
      obtain ⟨hnl, o, ini, ho, hini, hco⟩ := hP k co nl M hPk hM
      cases hd : (as.all (fun v => Nat.beq v.category 1) && Nat.ble as.length nl) with
      | false => rw [hd] at e; cases e
      | true =>
        rw [hd, cond_true] at e
        rw [Bool.and_eq_true, List.all_eq_true] at hd
        have hcat : ∀ v ∈ as, v.category = 1 := fun v hv => Nat.eq_of_beq_eq_true (hd.1 v hv)
        have hlen : as.length ≤ nl := Nat.le_of_ble_eq_true hd.2
        refine ⟨hle.1, hle.2, Met.ofW (cc := M.2.1) (maxL := M.2.2.1) (ret := M.2.2.2.1) (hMT k M hM).2.1 rfl ?_⟩
        intro p e0 s m args below meth c s₁ B hml hv
        obtain ⟨rfl, hE, hP1, hD1, hsz⟩ := hv
        have hts := atoms_spec (ws := xq_wk M) B.pre
        have hown : s.vm.findClass M.1.cls = some m.cls := findClass_of_methodNamed B.named
        have hnm : meth.name = M.1.name := (name_of_methodNamed B.named B.method).1
        subst hnl
        rw [lg_entry_eq]
        have hG := xq_run_sound (p := p) (e := e0) (s := s) (m := m) (args := (as.map (xq_v (xq_am rt base))).toArray) (below := below) (meth := meth) (c := c) (R := (headSpec (xq_wk M) { frames := d + 1, cells := h'.length - h.length, slots := xq_z h' - xq_z h, locals := (d + 1) * 64 }).room) (D := D) (cid := cid) (rt := rt) (adV := adV) (ro := ro) (base := base) (l0 := h.length) (z0 := xq_z h) (nL := M.2.2.1) (d := d) (bytes := M.2.1) (own := M.1.cls) (MT := MT) (XL := XL) (o := o) (F := xq_ex ro xq_df P pr d n) (ini := ini) (ret := M.2.2.2.1) (co := co) (r := r) (hf := h')
          ho hX ⟨B.exec, B.bytes, hml, hown, fun w hw => hts w (List.mem_cons_of_mem _ hw), hE, hsz, Nat.le_refl _, Nat.le_refl _⟩ hMT ih (xq_ex_le hpl n d) (fun q => hnm.trans (hini q)) B.returns B.notSynchronized hco (Nat.add_sub_cancel' hle.1) (Nat.add_sub_cancel' hle.2) n 0 _ _ _ e
        exact hG s.heap [] _ 0 0 hP1 hD1 va_S.rf (xq_lo_has hcat hlen) rfl rfl
theorem xq_wr {pl : Nat} {w : Jvm.Cond} (h : lw_tbl[pl]? = some w) (hg : goodWord w = true) : w ∈ xq_ws := List.mem_filter.mpr ⟨List.mem_of_getElem? h, hg⟩
/-- the check of a method's code -/
def xq_okl (MT : Nat → Option xq_M) (XL : List xq_X) (o : Nat) (ini : Bool) (ret : Option FieldType) (bytes : ByteArray) (co : Nat → Option xq_I) (len : Nat) : Bool := (List.range len).all (fun pc => match co pc with
  | none => true
  | some I => xq_ok MT XL o ini ret bytes pc I)
theorem xq_okl_at {MT : Nat → Option xq_M} {XL : List xq_X} {o : Nat} {ini : Bool} {ret : Option FieldType} {bytes : ByteArray} {co : Nat → Option xq_I} {len : Nat} (h : xq_okl MT XL o ini ret bytes co len = true) (hn : ∀ pc, Nat.blt pc len = false → co pc = none) (pc : Nat) (I : xq_I) (hI : co pc = some I) : xq_ok MT XL o ini ret bytes pc I = true := by
  have hlt : pc < len := by
    cases hb : Nat.blt pc len with
    | true => exact Nat.blt_eq.mp hb
    | false => rw [hn pc hb] at hI; cases hI
  have := List.all_eq_true.mp h pc (List.mem_range.mpr hlt)
  rw [hI] at this
  exact this
