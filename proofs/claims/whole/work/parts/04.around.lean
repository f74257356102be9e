/-! AROUND A METHOD'S RUN: the constants (two rows, the texts), the words that are kept from state to state; the goal at a state of the small machine. -/
def xq_A (base : Nat) : Nat → Prop := fun q => base ≤ q
def xq_tys (cid : Nat → ClassId) : List (ClassId × FieldType) := [(cid 0, .int), (cid 1, .boolean), (cid 2, .char), (cid 3, .array .int), (cid 4, .object RX5), (cid 5, .object RX7)]
/-- the words that every state keeps -/
def xq_ws : List Cond := lw_tbl.filter goodWord
def xq_strs : List (String × Nat × String) := [("WhoeverKnowsSings", 92, "may will = know and 0 < will ; learn 1 ; wall 1 ;"), ("WhoeverKnowsSings$Reader", 105, "know"), ("WhoeverKnowsSings$Reader", 111, "will"), ("WhoeverKnowsSings$Reader", 113, "by"), ("WhoeverKnowsSings$Reader", 115, "song"), ("WhoeverKnowsSings$Reader", 117, "room"), ("WhoeverKnowsSings$Reader", 119, "evening"), ("WhoeverKnowsSings$Reader", 121, "may"), ("WhoeverKnowsSings$Reader", 123, "learn"), ("WhoeverKnowsSings$Reader", 125, "wall"), ("WhoeverKnowsSings$Reader", 127, "or"), ("WhoeverKnowsSings$Reader", 129, "and"), ("WhoeverKnowsSings$Reader", 131, "not")]
def xq_len : List Nat := [49, 4, 4, 2, 4, 4, 7, 3, 5, 4, 2, 3, 3]
def xq_byt : List (List Int32) := [[109, 97, 121, 32, 119, 105, 108, 108, 32, 61, 32, 107, 110, 111, 119, 32, 97, 110, 100, 32, 48, 32, 60, 32, 119, 105, 108, 108, 32, 59, 32, 108, 101, 97, 114, 110, 32, 49, 32, 59, 32, 119, 97, 108, 108, 32, 49, 32, 59], [107, 110, 111, 119], [119, 105, 108, 108], [98, 121], [115, 111, 110, 103], [114, 111, 111, 109], [101, 118, 101, 110, 105, 110, 103], [109, 97, 121], [108, 101, 97, 114, 110], [119, 97, 108, 108], [111, 114], [97, 110, 100], [110, 111, 116]]
def xq_nw : List Cond := [(.methodLinkNest "WhoeverKnowsSings" (9 : Nat) ({ cls := "WhoeverKnowsSings$People", name := "<init>", desc := "()V" } : MethodName) "WhoeverKnowsSings"),
  (.methodLinkNest "WhoeverKnowsSings" (22 : Nat) ({ cls := "WhoeverKnowsSings$Known", name := "<init>", desc := "()V" } : MethodName) "WhoeverKnowsSings"),
  (.methodLinkNest "WhoeverKnowsSings$Plans" (11 : Nat) ({ cls := "WhoeverKnowsSings$Known", name := "<init>", desc := "()V" } : MethodName) "WhoeverKnowsSings"),
  (.methodLinkNest "WhoeverKnowsSings" (50 : Nat) ({ cls := "WhoeverKnowsSings$Reader", name := "<init>", desc := "()V" } : MethodName) "WhoeverKnowsSings"),
  (.methodLinkNest "WhoeverKnowsSings" (80 : Nat) ({ cls := "WhoeverKnowsSings$Image", name := "<init>", desc := "()V" } : MethodName) "WhoeverKnowsSings"),
  (.methodLinkNest "WhoeverKnowsSings$Image" (11 : Nat) ({ cls := "WhoeverKnowsSings$Known", name := "<init>", desc := "()V" } : MethodName) "WhoeverKnowsSings"),
  (.methodLinkNest "WhoeverKnowsSings" (91 : Nat) ({ cls := "WhoeverKnowsSings$Sheet", name := "<init>", desc := "()V" } : MethodName) "WhoeverKnowsSings"),
  (.castable "[I" "java/lang/Cloneable"),
  (.fieldLinkNest "WhoeverKnowsSings$Plans" (93 : Nat) "WhoeverKnowsSings" "IN_THREES" "[I" "WhoeverKnowsSings"),
  (.fieldLinkNest "WhoeverKnowsSings$People" (49 : Nat) "WhoeverKnowsSings" "ABOVE" "[I" "WhoeverKnowsSings")]
def xq_wd (pl : Nat) (w : Cond) : Bool := decide (lw_tbl[pl]? = some w) && goodWord w
theorem xq_wd_in {pl : Nat} {w : Cond} (h : xq_wd pl w = true) : w ∈ xq_ws := by
  unfold xq_wd at h
  rw [Bool.and_eq_true] at h
  exact List.mem_filter.mpr ⟨List.mem_of_getElem? (of_decide_eq_true h.1), h.2⟩
theorem xq_ws_good : GoodIn xq_ws xq_ws := fun w hw => ⟨hw, good_of_word (List.mem_filter.mp hw).2⟩
def xq_ag (s : State) : Prop := (Cond.arrayOver (.array .int)).before #[] s = true
def xq_E (D : va_G) (cid : Nat → ClassId) (ro : Nat → Option xq_C) (rt adV : Nat → Nat) (base : Nat) (s : State) (H : Heap) : Prop :=
  va_K D vwCl (xq_tys cid) s ∧
  (∀ (r : Nat) (c : xq_C), r < 64 → ro r = some c → ∃ (n : Nat) (f : Nat → Int32), c = .inl (0, n, .inl f) ∧ va_T .int (rt r) n (fun j => .int (f j)) (xq_A base) s H) ∧
  va_Z RX8 "ABOVE" "[I" (.ref (rt 1)) (xq_A base) s H ∧ va_Z RX8 "IN_THREES" "[I" (.ref (rt 2)) (xq_A base) s H ∧
  (∀ (i : Nat) (q : String × Nat × String), xq_strs[i]? = some q → vk_R q.1 q.2.1 q.2.2 (rt (3 + i)) s) ∧
  vk_S 13 xq_len xq_byt (fun i => rt (3 + i)) adV (xq_A base) s H ∧
  (∀ w ∈ xq_nw, va_Nw w s) ∧ va_AO RX5 s ∧ va_AO RX7 s ∧ xq_ag s ∧ base ≤ H.size ∧
  va_Z "java/lang/String" "COMPACT_STRINGS" "Z" (.int 1) (xq_A base) s H ∧ va_Zq "jdk/internal/util/Preconditions" "SIOOBE_FORMATTER" "Ljava/util/function/BiFunction;" (xq_A base) s H
theorem xq_ag_spec {s : State} (h : xq_ag s) : ∃ comp c k, s.vm.findClass "[I" = some comp ∧ (s.vm.classes.findIdx? fun (x : Class) => match x.kind with | .array component _ => component == comp | _ => false) = some c ∧ s.vm.classes[c]? = some k ∧ k.kind = .array comp (.array .int) ∧ s.vm.findClass ("[" ++ (FieldType.array .int).toString) = some c := by
  unfold xq_ag Cond.before Cond.holds at h
  simp only [Cond.value, beq_iff_eq] at h
  cases hc : s.vm.findClass (FieldType.array .int).toString with
  | none => rw [hc] at h; simp at h
  | some comp =>
    rw [hc, Option.bind_some] at h
    cases hi : (s.vm.classes.findIdx? fun (x : Class) => match x.kind with | .array component _ => component == comp | _ => false) with
    | none =>
      exfalso
      have := (congrArg (fun o : Option Nat => o.bind (fun c => (s.vm.classes[c]?).map fun (k : Class) => match k.kind with | .array _ ty => decide (ty = FieldType.array .int) && decide (s.vm.findClass ("[" ++ (FieldType.array .int).toString) = some c) | _ => false)) hi).symm.trans h
      simp at this
    | some c =>
      have h2 := (congrArg (fun o : Option Nat => o.bind (fun c => (s.vm.classes[c]?).map fun (k : Class) => match k.kind with | .array _ ty => decide (ty = FieldType.array .int) && decide (s.vm.findClass ("[" ++ (FieldType.array .int).toString) = some c) | _ => false)) hi).symm.trans h
      rw [Option.bind_some] at h2
      cases hk : s.vm.classes[c]? with
      | none => rw [hk] at h2; simp at h2
      | some k =>
        rw [hk, Option.map_some] at h2
        have h3 := Option.some.inj h2
        have hix := Array.findIdx?_eq_some_iff_getElem.mp hi
        obtain ⟨hlt, hp, -⟩ := hix
        have hkc : s.vm.classes[c] = k := by
          have := (Array.getElem?_eq_some_iff.mp hk).2
          exact this
        rw [hkc] at hp
        cases hkk : k.kind with
        | array component ty =>
          rw [hkk] at hp h3
          have e1 : component = comp := by simpa using hp
          rw [Bool.and_eq_true] at h3
          have e2 := of_decide_eq_true h3.1
          have e3 := of_decide_eq_true h3.2
          subst e1
          subst e2
          exact ⟨component, c, k, hc, hi, hk, hkk, e3⟩
        | _ => rw [hkk] at h3; simp at h3
theorem xq_ag_moved {u U : State} (hvm : u.vm.Alike U.vm) (h : xq_ag u) : xq_ag U := by
  obtain ⟨comp, c, k, h1, h2, h3, h4, h5⟩ := xq_ag_spec h
  obtain ⟨k', hk', he⟩ := hvm.2.2 _ _ h3
  have hi : (U.vm.classes.findIdx? fun (x : Class) => match x.kind with | .array component _ => component == comp | _ => false) = some c := by
    have e1 := va_idx_bare U.vm comp
    have e2 := va_idx_bare u.vm comp
    have hbe := hvm.bare_eq
    first | rw [hbe] at e1 | rw [← hbe] at e1
    exact (e1.symm.trans e2).trans h2
  have hkind : k'.kind = .array comp (.array .int) := by rw [he]; exact h4
  have f1 : U.vm.findClass (FieldType.array .int).toString = some comp := by rw [hvm.findClass]; exact h1
  have f2 : U.vm.findClass ("[" ++ (FieldType.array .int).toString) = some c := by rw [hvm.findClass]; exact h5
  unfold xq_ag Cond.before Cond.holds
  simp only [Cond.value]
  rw [f1, Option.bind_some]
  refine (congrArg (fun o : Option Nat => (o.bind (fun c => (U.vm.classes[c]?).map fun (k : Class) => match k.kind with | .array _ ty => decide (ty = FieldType.array .int) && decide (U.vm.findClass ("[" ++ (FieldType.array .int).toString) = some c) | _ => false) == some true)) hi).trans ?_
  simp [hk', hkind, f2]
theorem xq_nw_warm {s U : State} (hW : s.WarmedH U.vm) {w : Cond} (hw : w ∈ xq_nw) (h : va_Nw w s) : va_Nw w U := by
  unfold xq_nw at hw
  simp only [List.mem_cons, List.not_mem_nil, or_false] at hw
  rcases hw with rfl | rfl | rfl | rfl | rfl | rfl | rfl | rfl | rfl | rfl <;> first | exact va_Nw.warmM hW h | exact va_Nw.warmF hW h | exact va_Nw.warmC hW h
theorem xq_E.moved {D : va_G} {cid : Nat → ClassId} {ro : Nat → Option xq_C} {rt adV : Nat → Nat} {base : Nat} {s U : State} {H H' : Heap} (hE : xq_E D cid ro rt adV base s H) (hW : s.WarmedH U.vm) (hz : H.size ≤ H'.size) (hq : ∀ a : Nat, a < H.size → ¬ xq_A base a → H'[a]? = H[a]?) : xq_E D cid ro rt adV base U H' := by
  obtain ⟨e1, e2, e3, e4, e5, e6, e7, e8, e9, e10, e11, e12, e13⟩ := hE
  refine ⟨va_K.moved hW.alike e1, fun r c h1 h2 => ?_, (va_Z.moved hW.alike e3).kept hq, (va_Z.moved hW.alike e4).kept hq, fun i q h => (e5 i q h).warm hW, (vk_S.moved hW.alike e6).kept hq, fun w hw => xq_nw_warm hW hw (e7 w hw), e8.moved hW.alike, e9.moved hW.alike, xq_ag_moved hW.alike e10, Nat.le_trans e11 hz, (va_Z.moved hW.alike e12).kept hq, (va_Zq.moved hW.alike e13).kept hq⟩
  obtain ⟨n, f, g1, g2⟩ := e2 r c h1 h2
  exact ⟨n, f, g1, (va_T.moved hW.alike g2).kept hq⟩
/-- the machine's goal at a state of the small machine -/
def xq_G (p : Program) (l : Launch) (e : Env) (R : Room) (s : State) (m : MethodId) (args : Array Value) (below : List Frame) (meth : Method) (c : Code) (Q : State → Prop) (D : va_G) (cid : Nat → ClassId) (rt : Nat → Nat) (base l0 z0 nL : Nat) (pc : Nat) (L : List (Option Value)) (st : List Value) (h : xq_H) : Prop :=
  ∀ (H : Heap) (locs : List Loc) (ls : Array Slot) (cells slots : Nat), va_P D vwCl (xq_w (xq_am rt base) cid 64 h) H → va_D (xq_A base) (xq_w (xq_am rt base) cid 64 h) → va_S (xq_A base) s.heap H locs → xq_L (xq_am rt base) nL L ls → l0 + cells = h.length → z0 + slots = xq_z h →
    W p l e R s m args below meth c H locs cells slots Q (F0 m pc ls (st.map (xq_v (xq_am rt base))))
/-- what is asked of what a step gives -/
def xq_T (K : Nat → List (Option Value) → List Value → xq_H → Prop) (E : Prop) : xq_O → Prop
  | none => False
  | some (.inl (pc, L, st, h)) => K pc L st h
  | some (.inr _) => E
