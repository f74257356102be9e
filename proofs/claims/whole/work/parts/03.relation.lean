/-! THE SMALL MACHINE AND THE MACHINE: what a state of the small one says of the heap, and plain facts on it. -/
def xq_am (rt : Nat → Nat) (base : Nat) (a : Nat) : Nat := if a < 64 then rt a else base + (a - 64)
def xq_v (am : Nat → Nat) : Value → Value
  | .ref a => .ref (am a)
  | v => v
def xq_c (am : Nat → Nat) (cid : Nat → ClassId) : xq_C → va_E
  | .inl (k, n, .inl f) => .inl (cid k, n, .inl f)
  | .inl (k, n, .inr g) => .inl (cid k, n, .inr (.inr (.inr (.inr (fun j => (g j).map am)))))
  | .inr (ci, fs) => .inr (ci, fs.map (xq_v am))
def xq_w (am : Nat → Nat) (cid : Nat → ClassId) : Nat → xq_H → va_W
  | _, [] => []
  | i, c :: t => (am i, xq_c am cid c) :: xq_w am cid (i + 1) t
theorem xq_w_at (am : Nat → Nat) (cid : Nat → ClassId) : ∀ (h : xq_H) (i k : Nat), (xq_w am cid i h)[k]? = (h[k]?).map (fun c => (am (i + k), xq_c am cid c))
  | [], _, _ => by simp [xq_w]
  | c :: t, i, 0 => by simp [xq_w]
  | c :: t, i, k + 1 => by
    rw [xq_w, List.getElem?_cons_succ, xq_w_at am cid t (i + 1) k, List.getElem?_cons_succ, show i + 1 + k = i + (k + 1) by omega]
theorem xq_w_set (am : Nat → Nat) (cid : Nat → ClassId) (c : xq_C) : ∀ (h : xq_H) (i k : Nat), xq_w am cid i (h.set k c) = (xq_w am cid i h).set k (am (i + k), xq_c am cid c)
  | [], _, _ => by simp [xq_w]
  | d :: t, i, 0 => by simp [xq_w]
  | d :: t, i, k + 1 => by
    rw [List.set_cons_succ, xq_w, xq_w, List.set_cons_succ, xq_w_set am cid c t (i + 1) k, show i + 1 + k = i + (k + 1) by omega]
theorem xq_w_app (am : Nat → Nat) (cid : Nat → ClassId) (g : xq_H) : ∀ (h : xq_H) (i : Nat), xq_w am cid i (h ++ g) = xq_w am cid i h ++ xq_w am cid (i + h.length) g
  | [], i => by simp [xq_w]
  | d :: t, i => by
    rw [List.cons_append, xq_w, xq_w, xq_w_app am cid g t (i + 1), List.cons_append, List.length_cons, show i + 1 + t.length = i + (t.length + 1) by omega]
theorem xq_w_one {rt : Nat → Nat} {base : Nat} {cid : Nat → ClassId} {h : xq_H} {r : Nat} {c : xq_C} (hr : ¬ r < 64) (hc : h[r - 64]? = some c) : (xq_w (xq_am rt base) cid 64 h)[r - 64]? = some (xq_am rt base r, xq_c (xq_am rt base) cid c) := by
  rw [xq_w_at, hc, Option.map_some, show 64 + (r - 64) = r by omega]
theorem xq_w_put {rt : Nat → Nat} {base : Nat} {cid : Nat → ClassId} {h : xq_H} {r : Nat} (c : xq_C) (hr : ¬ r < 64) : xq_w (xq_am rt base) cid 64 (h.set (r - 64) c) = (xq_w (xq_am rt base) cid 64 h).set (r - 64) (xq_am rt base r, xq_c (xq_am rt base) cid c) := by
  rw [xq_w_set, show 64 + (r - 64) = r by omega]
theorem xq_z_app (g : xq_H) : ∀ h : xq_H, xq_z (h ++ g) = xq_z h + xq_z g
  | [] => by simp [xq_z]
  | c :: t => by rw [List.cons_append, xq_z, xq_z, xq_z_app g t]; omega
theorem xq_z_set {c d : xq_C} (e : xq_zc c = xq_zc d) : ∀ (h : xq_H) (k : Nat), h[k]? = some d → xq_z (h.set k c) = xq_z h
  | [], _, q => by simp at q
  | x :: t, 0, q => by
    rw [List.getElem?_cons_zero] at q
    cases q
    rw [List.set_cons_zero, xq_z, xq_z, e]
  | x :: t, k + 1, q => by
    rw [List.getElem?_cons_succ] at q
    rw [List.set_cons_succ, xq_z, xq_z, xq_z_set e t k q]
theorem xq_v_cat (am : Nat → Nat) (v : Value) : (xq_v am v).category = v.category := by cases v <;> rfl
theorem xq_sum_map (am : Nat → Nat) : ∀ st : List Value, ((st.map (xq_v am)).map fun v => v.category).sum = xq_sum st
  | [] => rfl
  | v :: t => by
    rw [List.map_cons, List.map_cons, List.sum_cons, xq_sum_map am t, xq_v_cat, xq_sum]
/-- the locals -/
def xq_as (am : Nat → Nat) : Nat → List (Option Value) → List (Nat × Value)
  | _, [] => []
  | i, none :: t => xq_as am (i + 1) t
  | i, some v :: t => (i, xq_v am v) :: xq_as am (i + 1) t
theorem xq_as_mem (am : Nat → Nat) (q : Nat × Value) : ∀ (L : List (Option Value)) (i : Nat), q ∈ xq_as am i L ↔ ∃ (k : Nat) (v : Value), L[k]? = some (some v) ∧ q = (i + k, xq_v am v)
  | [], i => by simp [xq_as]
  | none :: t, i => by
    rw [xq_as, xq_as_mem am q t (i + 1)]
    constructor
    · rintro ⟨k, v, h1, h2⟩
      exact ⟨k + 1, v, by rw [List.getElem?_cons_succ]; exact h1, by rw [h2, show i + 1 + k = i + (k + 1) by omega]⟩
    · rintro ⟨k, v, h1, h2⟩
      cases k with
      | zero => simp at h1
      | succ k => exact ⟨k, v, by rw [List.getElem?_cons_succ] at h1; exact h1, by rw [h2, show i + 1 + k = i + (k + 1) by omega]⟩
  | some w :: t, i => by
    rw [xq_as, List.mem_cons, xq_as_mem am q t (i + 1)]
    constructor
    · rintro (h | ⟨k, v, h1, h2⟩)
      · exact ⟨0, w, by simp, by simpa using h⟩
      · exact ⟨k + 1, v, by rw [List.getElem?_cons_succ]; exact h1, by rw [h2, show i + 1 + k = i + (k + 1) by omega]⟩
    · rintro ⟨k, v, h1, h2⟩
      cases k with
      | zero =>
        rw [List.getElem?_cons_zero] at h1
        cases h1
        exact Or.inl (by simpa using h2)
      | succ k => exact Or.inr ⟨k, v, by rw [List.getElem?_cons_succ] at h1; exact h1, by rw [h2, show i + 1 + k = i + (k + 1) by omega]⟩
def xq_L (am : Nat → Nat) (nL : Nat) (L : List (Option Value)) (ls : Array Slot) : Prop := L.length = nL ∧ lv_has ls nL (xq_as am 0 L)
theorem xq_ld_at {am : Nat → Nat} {nL : Nat} {L : List (Option Value)} {ls : Array Slot} {i : Nat} {v : Value} (h : xq_L am nL L ls) (hv : xq_ld L i = some v) : ls[i]? = some (.val (xq_v am v)) := by
  have h1 : L[i]? = some (some v) := by
    unfold xq_ld at hv
    split at hv
    · rename_i w e
      cases hv
      exact e
    · cases hv
  exact h.2.2.2 (i, xq_v am v) ((xq_as_mem am _ L 0).mpr ⟨i, v, h1, by rw [Nat.zero_add]⟩)
theorem xq_kill_len (L : List (Option Value)) : ∀ i : Nat, (xq_kill L i).length = L.length
  | 0 => rfl
  | j + 1 => by
    show (bif xq_is2 L[j]? then L.set j none else L).length = L.length
    cases hc : xq_is2 L[j]?
    · rw [cond_false]
    · rw [cond_true, List.length_set]
/-- what is left of the locals ahead of a store: no long whose second half is stored over -/
theorem xq_kill_at {L : List (Option Value)} {i k : Nat} {v : Value} (h : (xq_kill L i)[k]? = some (some v)) : L[k]? = some (some v) ∧ ¬ (k + 1 = i ∧ v.category = 2) := by
  cases i with
  | zero => exact ⟨h, fun q => by omega⟩
  | succ j =>
    replace h : (bif xq_is2 L[j]? then L.set j none else L)[k]? = some (some v) := h
    by_cases hc : xq_is2 L[j]? = true
    · rw [hc, cond_true] at h
      by_cases hk : k = j
      · subst hk
        by_cases hl : k < L.length
        · rw [List.getElem?_set_self hl] at h
          cases h
        · rw [List.getElem?_eq_none (by simpa using hl)] at h
          cases h
      · rw [List.getElem?_set_ne (Ne.symm hk)] at h
        exact ⟨h, fun q => hk (by omega)⟩
    · have hc0 : xq_is2 L[j]? = false := by simpa using hc
      rw [hc0, cond_false] at h
      refine ⟨h, fun q => ?_⟩
      have hk : k = j := by omega
      subst hk
      rw [h] at hc0
      cases v <;> simp [xq_is2, Value.category] at hc0 q
theorem xq_st1_has {am : Nat → Nat} {nL : Nat} {L L' : List (Option Value)} {ls' : Array Slot} {i : Nat} {v : Value} (hL : L.length = nL) (hs : xq_st1 L i v = some L') (h' : lv_has ls' nL ((i, xq_v am v) :: (xq_as am 0 L).filter (fun q => !(q.1 == i) && !(q.1 + 1 == i && q.2.category == 2)))) : xq_L am nL L' ls' := by
  unfold xq_st1 at hs
  cases hb : Nat.blt i L.length with
  | false => rw [hb] at hs; cases hs
  | true =>
    rw [hb] at hs
    cases hs
    refine ⟨by simp [xq_kill_len, hL], h'.1, h'.2.1, fun q hq => ?_⟩
    obtain ⟨k, w, h1, h2⟩ := (xq_as_mem am q _ 0).mp hq
    apply h'.2.2
    by_cases hk : i = k
    · subst hk
      have hlt : i < L.length := Nat.blt_eq.mp hb
      rw [List.getElem?_set_self (by rw [xq_kill_len]; exact hlt)] at h1
      cases h1
      rw [h2, Nat.zero_add]
      exact List.mem_cons_self
    · rw [List.getElem?_set_ne hk] at h1
      obtain ⟨g1, g2⟩ := xq_kill_at h1
      refine List.mem_cons_of_mem _ (List.mem_filter.mpr ⟨(xq_as_mem am q L 0).mpr ⟨k, w, g1, h2⟩, ?_⟩)
      subst h2
      rw [Bool.and_eq_true]
      refine ⟨by simp; omega, ?_⟩
      simp only [Nat.zero_add, xq_v_cat, Bool.not_eq_true', Bool.and_eq_false_iff, beq_eq_false_iff_ne]
      by_cases e : k + 1 = i
      · exact Or.inr (fun q => g2 ⟨e, q⟩)
      · exact Or.inl e
theorem xq_st2_has {am : Nat → Nat} {nL : Nat} {L L' : List (Option Value)} {ls' : Array Slot} {i : Nat} {v : Value} (hL : L.length = nL) (hs : xq_st2 L i v = some L') (h' : lv_has ls' nL ((i, xq_v am v) :: (xq_as am 0 L).filter (fun q => !(q.1 == i) && (!(q.1 == i + 1) && !(q.1 + 1 == i && q.2.category == 2))))) : xq_L am nL L' ls' := by
  unfold xq_st2 at hs
  cases hb : Nat.blt (i + 1) L.length with
  | false => rw [hb] at hs; cases hs
  | true =>
    rw [hb] at hs
    cases hs
    refine ⟨by simp [xq_kill_len, hL], h'.1, h'.2.1, fun q hq => ?_⟩
    obtain ⟨k, w, h1, h2⟩ := (xq_as_mem am q _ 0).mp hq
    have hlt : i + 1 < L.length := Nat.blt_eq.mp hb
    apply h'.2.2
    by_cases hk1 : i + 1 = k
    · subst hk1
      rw [List.getElem?_set_self (by simp [xq_kill_len, hlt])] at h1
      cases h1
    rw [List.getElem?_set_ne hk1] at h1
    by_cases hk : i = k
    · subst hk
      rw [List.getElem?_set_self (by rw [xq_kill_len]; omega)] at h1
      cases h1
      rw [h2, Nat.zero_add]
      exact List.mem_cons_self
    · rw [List.getElem?_set_ne hk] at h1
      obtain ⟨g1, g2⟩ := xq_kill_at h1
      refine List.mem_cons_of_mem _ (List.mem_filter.mpr ⟨(xq_as_mem am q L 0).mpr ⟨k, w, g1, h2⟩, ?_⟩)
      subst h2
      rw [Bool.and_eq_true, Bool.and_eq_true]
      refine ⟨by simp; omega, by simp; omega, ?_⟩
      simp only [Nat.zero_add, xq_v_cat, Bool.not_eq_true', Bool.and_eq_false_iff, beq_eq_false_iff_ne]
      by_cases e : k + 1 = i
      · exact Or.inr (fun q => g2 ⟨e, q⟩)
      · exact Or.inl e
theorem xq_st1_lt {L L' : List (Option Value)} {i : Nat} {v : Value} (hs : xq_st1 L i v = some L') : i < L.length := by
  unfold xq_st1 at hs
  cases hb : Nat.blt i L.length with
  | false => rw [hb] at hs; cases hs
  | true => exact Nat.blt_eq.mp hb
theorem xq_st2_lt {L L' : List (Option Value)} {i : Nat} {v : Value} (hs : xq_st2 L i v = some L') : i + 1 < L.length := by
  unfold xq_st2 at hs
  cases hb : Nat.blt (i + 1) L.length with
  | false => rw [hb] at hs; cases hs
  | true => exact Nat.blt_eq.mp hb
/-- the locals at the start -/
theorem xq_lo_has {am : Nat → Nat} {as : List Value} {nl : Nat} (hc : ∀ v ∈ as, v.category = 1) (hn : as.length ≤ nl) : xq_L am nl (xq_lo as nl) ((lg_sl (as.map (xq_v am)) ++ List.replicate (nl - (lg_sl (as.map (xq_v am))).length) Slot.unset).toArray) := by
  have hsl : ∀ as : List Value, (∀ v ∈ as, v.category = 1) → lg_sl (as.map (xq_v am)) = as.map (fun v => Slot.val (xq_v am v)) := by
    intro as
    induction as with
    | nil => intro _; rfl
    | cons v t ih =>
      intro h
      have h1 : (xq_v am v).category = 1 := by rw [xq_v_cat]; exact h v List.mem_cons_self
      have h2 := ih (fun w hw => h w (List.mem_cons_of_mem _ hw))
      unfold lg_sl at h2 ⊢
      rw [List.map_cons, List.flatMap_cons, h2, List.map_cons, if_neg (by rw [h1]; decide)]
      rfl
  have e := hsl as hc
  have hlen : (lg_sl (as.map (xq_v am))).length = as.length := by rw [e, List.length_map]
  have hh := lv_entry (as.map (xq_v am)) (n := nl) (by rw [hlen]; exact hn)
  refine ⟨by simp [xq_lo]; omega, hh.1, hh.2.1, fun q hq => ?_⟩
  obtain ⟨k, v, h1, h2⟩ := (xq_as_mem am q _ 0).mp hq
  subst h2
  have hk : k < as.length := by
    rcases Nat.lt_or_ge k as.length with z | z
    · exact z
    · unfold xq_lo at h1
      rw [List.getElem?_append_right (by simpa using z)] at h1
      rw [List.getElem?_replicate] at h1
      split at h1 <;> cases h1
  have h3 : as[k]? = some v := by
    unfold xq_lo at h1
    rw [List.getElem?_append_left (by simpa using hk), List.getElem?_map] at h1
    cases hv : as[k]? with
    | none => rw [hv] at h1; cases h1
    | some w => rw [hv] at h1; cases h1; rfl
  rw [Nat.zero_add, e, List.getElem?_toArray, List.getElem?_append_left (by simpa using hk), List.getElem?_map, h3]
  rfl
