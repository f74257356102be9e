/-! ONE INSTRUCTION of the small machine is one of the machine's: rows by kind. -/
def xq_B (p : Program) (R : Room) (s : State) (m : MethodId) (args : Array Value) (c : Code) (bytes : ByteArray) (own : String) (nL d : Nat) (D : va_G) (cid : Nat → ClassId) (ro : Nat → Option xq_C) (rt adV : Nat → Nat) (base l0 : Nat) : Prop :=
  p.tables.exec = Jvm.exec ∧ c.code = bytes ∧ c.maxLocals = nL ∧ s.vm.findClass own = some m.cls ∧ (∀ w ∈ xq_ws, w.before args s = true) ∧ xq_E D cid ro rt adV base s s.heap ∧ s.heap.size ≤ base + l0 ∧ d + 1 ≤ R.frames ∧ (d + 1) * 64 ≤ R.locals
section XQ5
variable {p : Program} {l : Launch} {e : Env} {R : Room} {s : State} {m : MethodId} {args : Array Value} {below : List Frame} {meth : Method} {c : Code} {Q : State → Prop} {D : va_G} {cid : Nat → ClassId} {rt adV : Nat → Nat} {ro : Nat → Option xq_C} {base l0 z0 nL d : Nat} {bytes : ByteArray} {own : String} {E : Prop} {pc : Nat} {L : List (Option Value)} {st : List Value} {h : xq_H}
theorem xq_s_push {v : Value} {k : Nat} (row : ∀ {H : Heap} {locs : List Loc} {cells slots : Nat} {ls : Array Slot} {rest : List Value}, va_S (xq_A base) s.heap H locs → W p l e R s m args below meth c H locs cells slots Q (F0 m (pc + k) ls (xq_v (xq_am rt base) v :: rest)) → W p l e R s m args below meth c H locs cells slots Q (F0 m pc ls rest)) (hst : xq_T (fun pc' L' st' h' => (h'.length ≤ l0 + R.cells ∧ xq_z h' ≤ z0 + R.slots) ∧ xq_G p l e R s m args below meth c Q D cid rt base l0 z0 nL pc' L' st' h') E (xq_go (pc + k) L (v :: st) h)) : E ∨ xq_G p l e R s m args below meth c Q D cid rt base l0 z0 nL pc L st h := by
  obtain ⟨hz, kk⟩ := hst
  exact Or.inr fun H locs ls cells slots hP hD hS hL e1 e2 => row hS (kk H locs ls cells slots hP hD hS hL e1 e2)
theorem xq_s_i1 {f : Int32 → Value} (hf : ∀ x, xq_v (xq_am rt base) (f x) = f x) (row : ∀ {H : Heap} {locs : List Loc} {cells slots : Nat} {ls : Array Slot} {rest : List Value} {x : Int32}, W p l e R s m args below meth c H locs cells slots Q (F0 m (pc + 1) ls (f x :: rest)) → W p l e R s m args below meth c H locs cells slots Q (F0 m pc ls (.int x :: rest))) (hst : xq_T (fun pc' L' st' h' => (h'.length ≤ l0 + R.cells ∧ xq_z h' ≤ z0 + R.slots) ∧ xq_G p l e R s m args below meth c Q D cid rt base l0 z0 nL pc' L' st' h') E (xq_i1 pc L st h f)) : E ∨ xq_G p l e R s m args below meth c Q D cid rt base l0 z0 nL pc L st h := by
  unfold xq_i1 at hst
  split at hst
  · obtain ⟨hz, kk⟩ := hst
    refine Or.inr fun H locs ls cells slots hP hD hS hL e1 e2 => row ?_
    have := kk H locs ls cells slots hP hD hS hL e1 e2
    rw [List.map_cons, hf] at this
    exact this
  · exact hst.elim
theorem xq_s_i2 {f : Int32 → Int32 → Int32} (row : ∀ {H : Heap} {locs : List Loc} {cells slots : Nat} {ls : Array Slot} {rest : List Value} {x y : Int32}, W p l e R s m args below meth c H locs cells slots Q (F0 m (pc + 1) ls (.int (f x y) :: rest)) → W p l e R s m args below meth c H locs cells slots Q (F0 m pc ls (.int y :: .int x :: rest))) (hst : xq_T (fun pc' L' st' h' => (h'.length ≤ l0 + R.cells ∧ xq_z h' ≤ z0 + R.slots) ∧ xq_G p l e R s m args below meth c Q D cid rt base l0 z0 nL pc' L' st' h') E (xq_i2 pc L st h f)) : E ∨ xq_G p l e R s m args below meth c Q D cid rt base l0 z0 nL pc L st h := by
  unfold xq_i2 at hst
  split at hst
  · obtain ⟨hz, kk⟩ := hst
    exact Or.inr fun H locs ls cells slots hP hD hS hL e1 e2 => row (kk H locs ls cells slots hP hD hS hL e1 e2)
  · exact hst.elim
theorem xq_s_l2 {f : Int64 → Int64 → Value} (hf : ∀ x y, xq_v (xq_am rt base) (f x y) = f x y) (row : ∀ {H : Heap} {locs : List Loc} {cells slots : Nat} {ls : Array Slot} {rest : List Value} {x y : Int64}, W p l e R s m args below meth c H locs cells slots Q (F0 m (pc + 1) ls (f x y :: rest)) → W p l e R s m args below meth c H locs cells slots Q (F0 m pc ls (.long y :: .long x :: rest))) (hst : xq_T (fun pc' L' st' h' => (h'.length ≤ l0 + R.cells ∧ xq_z h' ≤ z0 + R.slots) ∧ xq_G p l e R s m args below meth c Q D cid rt base l0 z0 nL pc' L' st' h') E (xq_l2 pc L st h f)) : E ∨ xq_G p l e R s m args below meth c Q D cid rt base l0 z0 nL pc L st h := by
  unfold xq_l2 at hst
  split at hst
  · obtain ⟨hz, kk⟩ := hst
    refine Or.inr fun H locs ls cells slots hP hD hS hL e1 e2 => row ?_
    have := kk H locs ls cells slots hP hD hS hL e1 e2
    rw [List.map_cons, hf] at this
    exact this
  · exact hst.elim
theorem xq_s_div {o : xq_O} {x y : Int32} {t : List Value} {z : Int32} (row : ∀ {H : Heap} {locs : List Loc} {cells slots : Nat} {ls : Array Slot} {rest : List Value}, ¬ y = 0 → W p l e R s m args below meth c H locs cells slots Q (F0 m (pc + 1) ls (.int z :: rest)) → W p l e R s m args below meth c H locs cells slots Q (F0 m pc ls (.int y :: .int x :: rest))) (hst : xq_T (fun pc' L' st' h' => (h'.length ≤ l0 + R.cells ∧ xq_z h' ≤ z0 + R.slots) ∧ xq_G p l e R s m args below meth c Q D cid rt base l0 z0 nL pc' L' st' h') E (bif decide (y = 0) then none else xq_go (pc + 1) L (.int z :: t) h)) : E ∨ xq_G p l e R s m args below meth c Q D cid rt base l0 z0 nL pc L (.int y :: .int x :: t) h := by
  by_cases h0 : y = 0
  · rw [decide_eq_true h0] at hst
    exact hst.elim
  · rw [decide_eq_false h0] at hst
    obtain ⟨hz, kk⟩ := hst
    exact Or.inr fun H locs ls cells slots hP hD hS hL e1 e2 => row h0 (kk H locs ls cells slots hP hD hS hL e1 e2)
theorem xq_s_ldiv {x y z : Int64} {t : List Value} (row : ∀ {H : Heap} {locs : List Loc} {cells slots : Nat} {ls : Array Slot} {rest : List Value}, ¬ y = 0 → W p l e R s m args below meth c H locs cells slots Q (F0 m (pc + 1) ls (.long z :: rest)) → W p l e R s m args below meth c H locs cells slots Q (F0 m pc ls (.long y :: .long x :: rest))) (hst : xq_T (fun pc' L' st' h' => (h'.length ≤ l0 + R.cells ∧ xq_z h' ≤ z0 + R.slots) ∧ xq_G p l e R s m args below meth c Q D cid rt base l0 z0 nL pc' L' st' h') E (bif decide (y = 0) then none else xq_go (pc + 1) L (.long z :: t) h)) : E ∨ xq_G p l e R s m args below meth c Q D cid rt base l0 z0 nL pc L (.long y :: .long x :: t) h := by
  by_cases h0 : y = 0
  · rw [decide_eq_true h0] at hst
    exact hst.elim
  · rw [decide_eq_false h0] at hst
    obtain ⟨hz, kk⟩ := hst
    exact Or.inr fun H locs ls cells slots hP hD hS hL e1 e2 => row h0 (kk H locs ls cells slots hP hD hS hL e1 e2)
/-- a store into the locals -/
theorem xq_s_st1 {v : Value} {t : List Value} {i k : Nat} (row : ∀ {H : Heap} {locs : List Loc} {cells slots : Nat} {ls : Array Slot} {rest : List Value} {lv : List (Nat × Value)}, lv_has ls nL lv → i < nL → (∀ ls' : Array Slot, lv_has ls' nL ((i, xq_v (xq_am rt base) v) :: lv.filter (fun q => !(q.1 == i) && !(q.1 + 1 == i && q.2.category == 2))) → W p l e R s m args below meth c H locs cells slots Q (F0 m (pc + k) ls' rest)) → W p l e R s m args below meth c H locs cells slots Q (F0 m pc ls (xq_v (xq_am rt base) v :: rest)))
    (hst : xq_T (fun pc' L' st' h' => (h'.length ≤ l0 + R.cells ∧ xq_z h' ≤ z0 + R.slots) ∧ xq_G p l e R s m args below meth c Q D cid rt base l0 z0 nL pc' L' st' h') E (match xq_st1 L i v with | some L' => xq_go (pc + k) L' t h | none => none)) : E ∨ xq_G p l e R s m args below meth c Q D cid rt base l0 z0 nL pc L (v :: t) h := by
  cases hs : xq_st1 L i v with
  | none => rw [hs] at hst; exact hst.elim
  | some L' =>
    rw [hs] at hst
    obtain ⟨hz, kk⟩ := hst
    exact Or.inr fun H locs ls cells slots hP hD hS hL e1 e2 => row hL.2 (by have := xq_st1_lt hs; have := hL.1; omega) (fun ls' h' => kk H locs ls' cells slots hP hD hS (xq_st1_has hL.1 hs h') e1 e2)
theorem xq_s_st2 {v : Value} {t : List Value} {i k : Nat} (row : ∀ {H : Heap} {locs : List Loc} {cells slots : Nat} {ls : Array Slot} {rest : List Value} {lv : List (Nat × Value)}, lv_has ls nL lv → i + 1 < nL → (∀ ls' : Array Slot, lv_has ls' nL ((i, xq_v (xq_am rt base) v) :: lv.filter (fun q => !(q.1 == i) && (!(q.1 == i + 1) && !(q.1 + 1 == i && q.2.category == 2)))) → W p l e R s m args below meth c H locs cells slots Q (F0 m (pc + k) ls' rest)) → W p l e R s m args below meth c H locs cells slots Q (F0 m pc ls (xq_v (xq_am rt base) v :: rest)))
    (hst : xq_T (fun pc' L' st' h' => (h'.length ≤ l0 + R.cells ∧ xq_z h' ≤ z0 + R.slots) ∧ xq_G p l e R s m args below meth c Q D cid rt base l0 z0 nL pc' L' st' h') E (match xq_st2 L i v with | some L' => xq_go (pc + k) L' t h | none => none)) : E ∨ xq_G p l e R s m args below meth c Q D cid rt base l0 z0 nL pc L (v :: t) h := by
  cases hs : xq_st2 L i v with
  | none => rw [hs] at hst; exact hst.elim
  | some L' =>
    rw [hs] at hst
    obtain ⟨hz, kk⟩ := hst
    exact Or.inr fun H locs ls cells slots hP hD hS hL e1 e2 => row hL.2 (by have := xq_st2_lt hs; have := hL.1; omega) (fun ls' h' => kk H locs ls' cells slots hP hD hS (xq_st2_has hL.1 hs h') e1 e2)
/-- iinc -/
theorem xq_s_inc {i : Nat} {n : Int} (hx : p.tables.exec = Jvm.exec) (hb : c.code = bytes) (hdg : decode bytes pc = .ok (.iinc i n, 3)) (hst : xq_T (fun pc' L' st' h' => (h'.length ≤ l0 + R.cells ∧ xq_z h' ≤ z0 + R.slots) ∧ xq_G p l e R s m args below meth c Q D cid rt base l0 z0 nL pc' L' st' h') E (match xq_ld L i with | some (.int x) => (match xq_st1 L i (.int (x + Int32.ofInt n)) with | some L' => xq_go (pc + 3) L' st h | none => none) | _ => none)) : E ∨ xq_G p l e R s m args below meth c Q D cid rt base l0 z0 nL pc L st h := by
  split at hst
  · rename_i x hx0
    cases hs : xq_st1 L i (.int (x + Int32.ofInt n)) with
    | none => rw [hs] at hst; exact hst.elim
    | some L' =>
      rw [hs] at hst
      obtain ⟨hz, kk⟩ := hst
      refine Or.inr fun H locs ls cells slots hP hD hS hL e1 e2 => ?_
      have hm : (i, Value.int x) ∈ xq_as (xq_am rt base) 0 L := by
        have h1 : L[i]? = some (some (.int x)) := by
          unfold xq_ld at hx0
          split at hx0
          · rename_i w e
            cases hx0
            exact e
          · cases hx0
        exact (xq_as_mem _ _ L 0).mpr ⟨i, .int x, h1, by rw [Nat.zero_add]; rfl⟩
      obtain ⟨k, hk⟩ := List.getElem?_of_mem hm
      exact lv_iinc hx hb hdg hL.2 hk rfl (by have := xq_st1_lt hs; have := hL.1; omega) rfl (fun ls' h' => kk H locs ls' cells slots hP hD hS (xq_st1_has (v := .int (x + Int32.ofInt n)) hL.1 hs h') e1 e2)
  · exact hst.elim
/-- a branch -/
theorem xq_s_br {b : Bool} {C : Prop} {t f : Nat} {L : List (Option Value)} {st st0 : List Value} (hbC : b = true ↔ C) (row : ∀ {H : Heap} {locs : List Loc} {cells slots : Nat} {ls : Array Slot}, (C → W p l e R s m args below meth c H locs cells slots Q (F0 m t ls (st.map (xq_v (xq_am rt base))))) → (¬ C → W p l e R s m args below meth c H locs cells slots Q (F0 m f ls (st.map (xq_v (xq_am rt base))))) → W p l e R s m args below meth c H locs cells slots Q (F0 m pc ls (st0.map (xq_v (xq_am rt base))))) (hst : xq_T (fun pc' L' st' h' => (h'.length ≤ l0 + R.cells ∧ xq_z h' ≤ z0 + R.slots) ∧ xq_G p l e R s m args below meth c Q D cid rt base l0 z0 nL pc' L' st' h') E (xq_br b t f L st h)) : E ∨ xq_G p l e R s m args below meth c Q D cid rt base l0 z0 nL pc L st0 h := by
  unfold xq_br at hst
  cases hb : b with
  | true =>
    rw [hb, cond_true] at hst
    obtain ⟨hz, kk⟩ := hst
    exact Or.inr fun H locs ls cells slots hP hD hS hL e1 e2 => row (fun _ => kk H locs ls cells slots hP hD hS hL e1 e2) (fun hn => absurd (hbC.mp hb) hn)
  | false =>
    rw [hb, cond_false] at hst
    obtain ⟨hz, kk⟩ := hst
    exact Or.inr fun H locs ls cells slots hP hD hS hL e1 e2 => row (fun hc => absurd (hbC.mpr hc) (by rw [hb]; decide)) (fun _ => kk H locs ls cells slots hP hD hS hL e1 e2)
end XQ5
