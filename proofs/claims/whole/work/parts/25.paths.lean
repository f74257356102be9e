/-! PATHS THROUGH CALLS: as xq_me, and a call is gone into. -/
/-- a frame that waits: code, where it goes on, locals, stack below the call -/
abbrev xm_R : Type := (Nat → Option xq_I) × Nat × List (Option Value) × List Value
abbrev xm_S : Type := List xm_R × (Nat → Option xq_I) × Nat × List (Option Value) × List Value × xq_H
/-- the call at an instruction: the method and how many things it takes off the stack -/
def xm_c (h : xq_H) (st : List Value) (I : xq_I) : Option (Nat × Nat) := match I with
  | (i, _, a, b, e, _, _) => match i with
    | .invokespecial _ => bif Nat.beq e 2 then none else (match st[b]? with
      | some (.ref _) => some (a, b + 1)
      | _ => none)
    | .invokestatic _ => bif Nat.beq e 2 then none else bif Nat.beq e 3 then none else some (a, b)
    | .invokevirtual _ => bif Nat.beq e 20 then none else bif xq_recv h e b st then some (a, b + 1) else none
    | _ => none
theorem xm_c_ok {ro : Nat → Option xq_C} {pc : Nat} {L : List (Option Value)} {st : List Value} {h : xq_H} {I : xq_I} {k j : Nat} (e : xm_c h st I = some (k, j)) (F : xq_F) : xq_step ro xq_df F pc L st h I = xq_call F k j pc L st h := by
  obtain ⟨i, len, a, b, e', pl, v⟩ := I
  cases i with
  | invokespecial idx =>
    dsimp only [xm_c] at e
    dsimp only [xq_step]
    cases h2 : Nat.beq e' 2 with
    | true => rw [h2] at e; cases e
    | false =>
      rw [h2, cond_false] at e
      rw [cond_false]
      split at e
      · rename_i hq
        cases e
        rw [hq]
      · cases e
  | invokestatic idx =>
    dsimp only [xm_c] at e
    dsimp only [xq_step]
    cases h2 : Nat.beq e' 2 with
    | true => rw [h2] at e; cases e
    | false =>
      rw [h2, cond_false] at e
      cases h3 : Nat.beq e' 3 with
      | true => rw [h3] at e; cases e
      | false => rw [h3, cond_false] at e; cases e; rfl
  | invokevirtual idx =>
    dsimp only [xm_c] at e
    dsimp only [xq_step]
    cases h2 : Nat.beq e' 20 with
    | true => rw [h2] at e; cases e
    | false =>
      rw [h2, cond_false] at e
      cases h3 : xq_recv h e' b st with
      | true => rw [h3, cond_true] at e; cases e; rfl
      | false => rw [h3] at e; cases e
  | _ => cases e
def xq_mx (ro : Nat → Option xq_C) : Nat → List Nat → List xm_R → (Nat → Option xq_I) → Nat → List (Option Value) → List Value → xq_H → Option ((xm_S ⊕ xq_R) × List Bool)
  | 0, _, fs, co, pc, L, st, h => some (.inl (fs, co, pc, L, st, h), [])
  | n + 1, bs, fs, co, pc, L, st, h => match co pc with
    | none => none
    | some I => match xm_c h st I with
      | some (k, j) => bif Nat.ble j st.length && (Nat.ble (xq_sum (st.drop j)) 8 && Nat.blt fs.length 40) then (match xk_P k with
        | some (co', nl) => bif (st.take j).reverse.all (fun v => Nat.beq v.category 1) && Nat.ble (st.take j).reverse.length nl then
            xq_mx ro n bs ((co, pc + 3, L, st.drop j) :: fs) co' 0 (xq_lo (st.take j).reverse nl) [] h else none
        | none => (match xk_pr k (st.take j).reverse h with
          | some (r, h') => xq_mx ro n bs fs co (pc + 3) L (r.toList ++ st.drop j) h'
          | none => none)) else none
      | none => match xq_kd I.1 with
        | 0 => (match xq_step ro xq_df (fun _ _ _ => none) pc L st h I with
          | some (.inl (pc', L', st', h')) => xq_mx ro n bs fs co pc' L' st' h'
          | some (.inr (r, h')) => (match fs with
            | [] => some (.inr (r, h'), [])
            | (co', pc', L', st') :: fs' => xq_mx ro n bs fs' co' pc' L' (r.toList ++ st') h')
          | none => none)
        | k + 1 => (match xq_sy ro (match k with | 0 => 0 | _ => bs.headD 0) pc L st h I with
          | some (.inl (pc', L', st', h'), c) => (match xq_mx ro n (match k with | 0 => bs | _ => bs.tail) fs co pc' L' st' h' with
            | some (o, cs) => some (o, c :: cs)
            | none => none)
          | some (.inr (r, h'), c) => (match fs with
            | [] => some (.inr (r, h'), [c])
            | (co', pc', L', st') :: fs' => (match xq_mx ro n bs fs' co' pc' L' (r.toList ++ st') h' with
              | some (o, cs) => some (o, c :: cs)
              | none => none))
          | none => none)
/-- what is left to do behind a return, by the frames that wait -/
def xK (ro : Nat → Option xq_C) : List xm_R → Nat → (Option Value → xq_H → Prop) → Option Value → xq_H → Prop
  | [], _, Q => Q
  | f :: fs, d, Q => fun r h' => xw ro (d + 1) f.1 f.2.1 f.2.2.1 (r.toList ++ f.2.2.2) h' (xK ro fs (d + 1) Q)
def xm_end (ro : Nat → Option xq_C) (D : Nat) (Q : Option Value → xq_H → Prop) : xm_S ⊕ xq_R → Prop
  | .inl (fs, co, pc, L, st, h) => ∀ d, d + fs.length = D → xw ro d co pc L st h (xK ro fs d Q)
  | .inr (r, h) => Q r h
theorem xm_ok {ro : Nat → Option xq_C} {D : Nat} {Q : Option Value → xq_H → Prop} (hD : 60 ≤ D) : ∀ (n : Nat) (bs : List Nat) (fs : List xm_R) (co : Nat → Option xq_I) (pc : Nat) (L : List (Option Value)) (st : List Value) (h : xq_H) (o : xm_S ⊕ xq_R) (cs : List Bool), xq_mx ro n bs fs co pc L st h = some (o, cs) → xq_al cs → xm_end ro D Q o → ∀ d, d + fs.length = D → xw ro d co pc L st h (xK ro fs d Q) := by
  intro n
  induction n with
  | zero =>
    intro bs fs co pc L st h o cs e hc k d hd
    cases e
    exact k d hd
  | succ n ih =>
    intro bs fs co pc L st h o cs e hc k d hd
    rw [xq_mx] at e
    split at e
    · cases e
    · rename_i I hI
      split at e
      · rename_i k0 j hcall
        cases hj : (Nat.ble j st.length && (Nat.ble (xq_sum (st.drop j)) 8 && Nat.blt fs.length 40)) with
        | false => rw [hj] at e; cases e
        | true =>
          rw [hj, cond_true] at e
          rw [Bool.and_eq_true, Bool.and_eq_true] at hj
          have hlt := xq_blt_t hj.2.2
          have hj2 : (Nat.ble j st.length && Nat.ble (xq_sum (st.drop j)) 8) = true := by rw [hj.1, hj.2.1]; rfl
          obtain ⟨d', rfl⟩ : ∃ d', d = d' + 1 := ⟨d - 1, by omega⟩
          split at e
          · rename_i co' nl hP
            cases ha : ((st.take j).reverse.all (fun v => Nat.beq v.category 1) && Nat.ble (st.take j).reverse.length nl) with
            | false => rw [ha] at e; cases e
            | true =>
              rw [ha, cond_true] at e
              have := ih _ _ _ _ _ _ _ _ _ e hc k d' (by rw [List.length_cons]; omega)
              exact xw_call hI (fun F => xm_c_ok hcall F) hj2 rfl rfl (xe_of hP ha rfl this) (fun r h1 q => q)
          · rename_i hP
            split at e
            · rename_i r h' hpr
              have := ih _ _ _ _ _ _ _ _ _ e hc k (d' + 1) hd
              exact xw_call (Q1 := fun r1 h1 => r1 = r ∧ h1 = h') hI (fun F => xm_c_ok hcall F) hj2 rfl rfl (xe_pr (by omega) hP hpr ⟨rfl, rfl⟩) (fun r1 h1 q => by obtain ⟨rfl, rfl⟩ := q; exact this)
            · cases e
      · split at e
        · split at e
          · rename_i pc' L' st' h' es
            exact xw_step hI (fun F => xq_step_F es F) (ih _ _ _ _ _ _ _ _ _ e hc k d hd)
          · rename_i r h' es
            refine xw_ret hI (fun F => xq_step_F es F) ?_
            split at e
            · cases e
              exact k
            · rename_i co' pc' L' st' fs'
              exact ih _ _ _ _ _ _ _ _ _ e hc k (d + 1) (by rw [List.length_cons] at hd; omega)
          · cases e
        · split at e
          · rename_i pc' L' st' h' c es
            split at e
            · rename_i o' cs' em
              cases e
              exact xw_step hI (fun F => xq_sy_ok es hc.1 F) (ih _ _ _ _ _ _ _ _ _ em hc.2 k d hd)
            · cases e
          · rename_i r h' c es
            split at e
            · cases e
              exact xw_ret hI (fun F => xq_sy_ok es hc.1 F) k
            · rename_i co' pc' L' st' fs'
              split at e
              · rename_i o' cs' em
                cases e
                exact xw_ret hI (fun F => xq_sy_ok es hc.1 F) (ih _ _ _ _ _ _ _ _ _ em hc.2 k (d + 1) (by rw [List.length_cons] at hd; omega))
              · cases e
          · cases e
/-- a path from a place of a method to a place of the same method -/
theorem xw_mx {ro : Nat → Option xq_C} {d : Nat} {co : Nat → Option xq_I} {Q : Option Value → xq_H → Prop} (hd : 60 ≤ d) (n : Nat) (bs : List Nat) {pc pc' : Nat} {L L' : List (Option Value)} {st st' : List Value} {h h1 : xq_H} {cs : List Bool} (e : xq_mx ro n bs [] co pc L st h = some (.inl ([], co, pc', L', st', h1), cs)) (hc : xq_al cs) (k : xw ro d co pc' L' st' h1 Q) : xw ro d co pc L st h Q :=
  xm_ok hd n bs [] co pc L st h _ cs e hc (fun d' hd' => by have : d' = d := hd'; subst this; exact k) d rfl
theorem xw_mxr {ro : Nat → Option xq_C} {d : Nat} {co : Nat → Option xq_I} {Q : Option Value → xq_H → Prop} (hd : 60 ≤ d) (n : Nat) (bs : List Nat) {pc : Nat} {L : List (Option Value)} {st : List Value} {h h1 : xq_H} {r : Option Value} {cs : List Bool} (e : xq_mx ro n bs [] co pc L st h = some (.inr (r, h1), cs)) (hc : xq_al cs) (k : Q r h1) : xw ro d co pc L st h Q :=
  xm_ok hd n bs [] co pc L st h _ cs e hc k d rfl
