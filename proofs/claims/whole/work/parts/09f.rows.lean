/-! new int[N][M] OUT OF THE MODEL'S OWN OPERATION: one cell is pushed, then a row and the store of its place, N times. -/
section XQ9f
/-- behind i rows: o i the outer cell as it then is, w each row -/
def xg_F (S : State) (o : Nat → Cell) (w : Cell) : Nat → State := fun i => Nat.rec (S.pushCell (o 0)) (fun j F => (F.pushCell w).setCell S.heap.size (o (j + 1))) i
theorem xg_F_zero (S : State) (o : Nat → Cell) (w : Cell) : xg_F S o w 0 = S.pushCell (o 0) := rfl
theorem xg_F_suc (S : State) (o : Nat → Cell) (w : Cell) (i : Nat) : xg_F S o w (i + 1) = ((xg_F S o w i).pushCell w).setCell S.heap.size (o (i + 1)) := rfl
/-- what lies where behind i rows -/
def xg_L (S : State) (o : Nat → Cell) (w : Cell) (i : Nat) (F : State) : Prop :=
  F.heap.size = S.heap.size + 1 + i ∧ F.heap[S.heap.size]? = some (o i) ∧ (∀ x : Nat, x < S.heap.size → F.heap[x]? = S.heap[x]?) ∧ (∀ j : Nat, j < i → F.heap[S.heap.size + 1 + j]? = some w) ∧ F.vm = S.vm ∧ F.slotsUsed = S.slotsUsed + (o 0).slots.size + i * w.slots.size
theorem xg_F_L (S : State) (o : Nat → Cell) (w : Cell) (i : Nat) : xg_L S o w i (xg_F S o w i) := by
  induction i with
  | zero => exact ⟨by simp [xg_F_zero], by simp [xg_F_zero], fun x hx => State.heap_pushCell_of_lt _ _ hx, fun j hj => absurd hj (Nat.not_lt_zero j), rfl, by simp [xg_F_zero]⟩
  | succ i ih =>
    obtain ⟨a, b, q, r, v, u⟩ := ih
    have up : ∀ x : Nat, x < S.heap.size + 1 + i → ((xg_F S o w i).pushCell w).heap[x]? = (xg_F S o w i).heap[x]? := fun x hx => State.heap_pushCell_of_lt _ _ (by rw [a]; exact hx)
    rw [xg_F_suc]
    refine ⟨by simp [State.setCell, a]; omega, State.heap_setCell_self ((up _ (by omega)).trans b), fun x hx => ?_, fun j hj => ?_, by simp [v], by simp [u, Nat.succ_mul]; omega⟩
    · rw [State.heap_setCell_other (Nat.ne_of_gt hx), up x (by omega)]
      exact q x hx
    · rw [State.heap_setCell_other (show S.heap.size ≠ S.heap.size + 1 + j by omega)]
      by_cases e : j = i
      · rw [e, ← a]
        exact State.heap_pushCell_size _ _
      · rw [up _ (by omega)]
        exact r j (by omega)
theorem xg_F_top (S : State) (f : JFrame) (o : Nat → Cell) (w : Cell) (i : Nat) : xg_F (S.setTop f) o w i = (xg_F S o w i).setTop f := by
  induction i with
  | zero => rfl
  | succ i ih => rw [xg_F_suc, xg_F_suc, ih, State.heap_setTop, State.pushCell_setTop, State.setCell_setTop]
/-- the outer cell behind i rows, a row -/
def xg_o (cA : ClassId) (N h0 i : Nat) : Cell := arrV cA N (fun j => va_rf (if j < i then some (h0 + 1 + j) else none))
def xg_w (cI : ClassId) (M : Nat) : Cell := arrV cI M (fun _ => .int 0)
theorem xg_o_zero (cA : ClassId) (N h0 : Nat) : ({ cls := cA, slots := Array.replicate N .null, vm := .none } : Cell) = xg_o cA N h0 0 := by
  rw [arrV_new]
  exact congrArg (arrV cA N) (funext fun j => by rw [if_neg (Nat.not_lt_zero j)]; rfl)
theorem xg_o_suc (cA : ClassId) (N h0 i : Nat) : (xg_o cA N h0 i).setSlot i (.ref (h0 + 1 + i)) = xg_o cA N h0 (i + 1) := by
  unfold xg_o
  rw [arrV_store]
  refine congrArg (arrV cA N) (funext fun j => ?_)
  unfold updV
  by_cases e : j = i
  · rw [if_pos e, e, if_pos (Nat.lt_succ_self i)]
    rfl
  · rw [if_neg e]
    show va_rf (if j < i then some (h0 + 1 + j) else none) = _
    by_cases q : j < i
    · rw [if_pos q, if_pos (by omega)]
    · rw [if_neg q, if_neg (by omega)]
variable {E : CtlPost} {e : Env} {d : Bool} {acts : List Action} {S : State}
/-- N turns, each of which makes one row more -/
theorem xg_turns {o : Nat → Cell} {w : Cell} {N : Nat} (f : Nat → PUnit → Sem (ForInStep PUnit)) (hf : ∀ (i : Nat), i < N → ∀ (d : Bool) (acts : List Action) (Q : ForInStep PUnit → Pre), (∀ d' acts', Q (.yield PUnit.unit) d' acts' (xg_F S o w (i + 1))) → wp (f i PUnit.unit) Q E e d acts (xg_F S o w i)) {Q : PUnit → Pre} (hq : ∀ d' acts', Q PUnit.unit d' acts' (xg_F S o w N)) : ∀ (t i : Nat) (d : Bool) (acts : List Action), i + t = N → wp (forIn (List.range' i t 1) PUnit.unit f) Q E e d acts (xg_F S o w i) := by
  intro t
  induction t with
  | zero =>
    intro i d acts h
    have : i = N := by omega
    subst this
    simp only [List.range'_zero, List.forIn_nil, wp_pure']
    exact hq d acts
  | succ t ih =>
    intro i d acts h
    simp only [List.range'_succ, List.forIn_cons, wp_bind']
    exact hf i (by omega) d acts _ (fun d' acts' => ih (i + 1) d' acts' (by omega))
/-- one row -/
theorem xg_row {cI cc : ClassId} {kI : Class} {k : Int32} (hk : S.vm.classes[cI]? = some kI) (hkind : kI.kind = .array cc .int) (h0 : ¬ k < 0) (hl : ¬ k.toNatClampNeg > e.platform.arrayLengthLimit) (hh : ¬ k.toNatClampNeg * 4 > e.platform.maxHeapBytes) (hc : S.heap.size < e.platform.maxCells) (hs : S.slotsUsed + k.toNatClampNeg ≤ e.platform.maxSlots) {Q : Addr → Pre} (hq : ∀ acts', Q S.heap.size d acts' (S.pushCell (xg_w cI k.toNatClampNeg))) : wp (multianewarray.make cI [k]) Q E e d acts S := by
  unfold multianewarray.make
  simp only [wp_bind', W.ite, h0, if_false, wp_pure', W.theClass, hk, hkind, Option.some.injEq, exists_eq_left']
  exact W.newArray_of hk hkind hl hh hc hs rfl (fun acts' => by
    have := hq acts'
    unfold xg_w at this
    rw [← arrV_new] at this
    exact this)
/-- the whole grid -/
theorem xg_make {cA cI cc : ClassId} {kA kI : Class} {n k : Int32} {h : Nat} (hS : S.heap.size = h) (hkA : S.vm.classes[cA]? = some kA) (hkindA : kA.kind = .array cI (.array .int)) (hk : S.vm.classes[cI]? = some kI) (hkind : kI.kind = .array cc .int) (hn : ¬ n < 0) (h0 : ¬ k < 0) (hl1 : ¬ n.toNatClampNeg > e.platform.arrayLengthLimit) (hh1 : ¬ n.toNatClampNeg * 4 > e.platform.maxHeapBytes) (hl : ¬ k.toNatClampNeg > e.platform.arrayLengthLimit) (hh : ¬ k.toNatClampNeg * 4 > e.platform.maxHeapBytes) (hc : h + (1 + n.toNatClampNeg) ≤ e.platform.maxCells) (hs : S.slotsUsed + (n.toNatClampNeg + n.toNatClampNeg * k.toNatClampNeg) ≤ e.platform.maxSlots) {Q : Addr → Pre} (hq : ∀ d' acts', Q h d' acts' (xg_F S (xg_o cA n.toNatClampNeg h) (xg_w cI k.toNatClampNeg) n.toNatClampNeg)) : wp (multianewarray.make cA [n, k]) Q E e d acts S := by
  subst hS
  have hno : List.find? (fun x : Int32 => decide (x < 0)) [k] = none := by simp [h0]
  unfold multianewarray.make
  simp only [wp_bind', W.ite, hn, if_false, wp_pure', W.theClass, hkA, hkindA, Option.some.injEq, exists_eq_left']
  refine W.newArray_of hkA hkindA hl1 hh1 (by omega) (by omega) rfl (fun acts' => ?_)
  simp only [hno]
  rw [ite_self, wp_bind', Std.Legacy.Range.forIn_eq_forIn_range', show ([:n.toNatClampNeg] : Std.Legacy.Range).size = n.toNatClampNeg by simp [Std.Legacy.Range.size], show S.pushCell { cls := cA, slots := Array.replicate n.toNatClampNeg .null } = xg_F S (xg_o cA n.toNatClampNeg S.heap.size) (xg_w cI k.toNatClampNeg) 0 from congrArg S.pushCell (xg_o_zero cA n.toNatClampNeg S.heap.size)]
  refine xg_turns (N := n.toNatClampNeg) _ (fun i hi d acts Q' hQ' => ?_) (fun d' acts' => ?_) n.toNatClampNeg 0 d acts' (Nat.zero_add _)
  · obtain ⟨a, b, q, r, v, u⟩ := xg_F_L S (xg_o cA n.toNatClampNeg S.heap.size) (xg_w cI k.toNatClampNeg) i
    have us : (xg_o cA n.toNatClampNeg S.heap.size 0).slots.size = n.toNatClampNeg := arrV_size _ _ _
    have ut : (xg_w cI k.toNatClampNeg).slots.size = k.toNatClampNeg := arrV_size _ _ _
    have um : (i + 1) * k.toNatClampNeg ≤ n.toNatClampNeg * k.toNatClampNeg := Nat.mul_le_mul_right _ hi
    rw [Nat.succ_mul] at um
    rw [us, ut] at u
    simp only [wp_bind']
    refine xg_row (by rw [v]; exact hk) hkind h0 hl hh (by rw [a]; omega) (by rw [u]; omega) (fun acts' => ?_)
    simp only [wp_bind', W.writeLoc, wp_pure']
    have lt : S.heap.size < (xg_F S (xg_o cA n.toNatClampNeg S.heap.size) (xg_w cI k.toNatClampNeg) i).heap.size := by rw [a]; omega
    refine ⟨xg_o cA n.toNatClampNeg S.heap.size i, (State.heap_pushCell_of_lt _ _ lt).trans b, fun z => (by cases z), Nat.lt_of_lt_of_eq hi (arrV_size _ _ _).symm, ?_, ?_⟩
    · show State.fitsSlot _ cA .none i (.ref _) = true
      simp [State.fitsSlot, State.slotType?, v, hkA, hkindA, fits]
    · rw [a, xg_o_suc]
      exact hQ' _ _
  · simp only [wp_pure']
    exact hq d' acts'
section XQ9h
variable {p : Program} {l : Launch} {R : Room} {s : State} {m : MethodId} {args : Array Value} {below : List Frame} {meth : Method} {c : Code} {T : State} {locs : List Loc} {cells slots : Nat}
/-- the walk stands behind every row -/
theorem xg_stand (X : Stand p l e R s m args below meth c T locs cells slots) (cA cI : ClassId) (N M : Nat) (i : Nat) : Stand p l e R s m args below meth c (xg_F T (xg_o cA N T.heap.size) (xg_w cI M) i) locs (cells + 1 + i) (slots + N + i * M) := by
  induction i with
  | zero =>
    have Y := X.pushed (xg_o cA N T.heap.size 0)
    rw [show (xg_o cA N T.heap.size 0).slots.size = N from arrV_size _ _ _] at Y
    rw [Nat.zero_mul]
    exact Y
  | succ i ih =>
    obtain ⟨a, b, -⟩ := xg_F_L T (xg_o cA N T.heap.size) (xg_w cI M) i
    have lt : T.heap.size < (xg_F T (xg_o cA N T.heap.size) (xg_w cI M) i).heap.size := by rw [a]; omega
    have Y := ((ih.pushed (xg_w cI M)).stored ((State.heap_pushCell_of_lt _ _ lt).trans b) i (.ref (T.heap.size + 1 + i))).dropFresh (fun x hx => by
      rw [List.mem_singleton.mp hx]
      exact X.heapGrown)
    rw [xg_o_suc, show (xg_w cI M).slots.size = M from arrV_size _ _ _] at Y
    rw [xg_F_suc, Nat.succ_mul, ← Nat.add_assoc (slots + N)]
    exact Y
/-- ONE INSTRUCTION: new int[n][k] -/
theorem xg_step (X : Stand p l e R s m args below meth c T locs cells slots) (hexec : p.tables.exec = Jvm.exec) {own : String} {index : Nat} (hown : s.vm.findClass own = some m.cls) (hlink : (Cond.classLink own index "[[I").before args s = true) (hover : xq_ag s) (harr : (Cond.arrayClass .int).before args s = true) {pc : Nat} {ls : Array Slot} {rest : List Value} {n k : Int32} (hdg : decode c.code pc = .ok (.multianewarray index 2, 4)) (hn : ¬ n < 0) (hk : ¬ k < 0) (hb1 : n.toNatClampNeg ≤ 1000) (hb2 : k.toNatClampNeg ≤ 1000) (hcells : cells + (1 + n.toNatClampNeg) ≤ R.cells) (hslots : slots + (n.toNatClampNeg + n.toNatClampNeg * k.toNatClampNeg) ≤ R.slots) :
    ∃ (vm₁ : Vm) (cA cI : ClassId), s.vm.findClass "[[I" = some cA ∧ s.vm.findClass "[I" = some cI ∧
      Stand p l e R s m args below meth c (xg_F (T.setVm vm₁) (xg_o cA n.toNatClampNeg T.heap.size) (xg_w cI k.toNatClampNeg) n.toNatClampNeg) locs (cells + 1 + n.toNatClampNeg) (slots + n.toNatClampNeg + n.toNatClampNeg * k.toNatClampNeg) ∧
      ∀ target, Steps p.tables e below ((xg_F (T.setVm vm₁) (xg_o cA n.toNatClampNeg T.heap.size) (xg_w cI k.toNatClampNeg) n.toNatClampNeg).setTop (F0 m (pc + 4) ls (.ref T.heap.size :: rest))) target → Steps p.tables e below (T.setTop (F0 m pc ls (.int k :: .int n :: rest))) target := by
  obtain ⟨cI, cA, kA, hI, -, hkA, hkindA, hA⟩ := xq_ag_spec hover
  obtain ⟨cI', kI, cc, hI', hkI, hkindI⟩ := Cond.arrayClass_spec harr
  cases Option.some.inj (hI'.symm.trans hI)
  obtain ⟨cA', hA', hcl⟩ := Cond.classLink_spec hown hlink e.platform (by rw [X.admits.platform])
  cases Option.some.inj (hA'.symm.trans hA)
  obtain ⟨g1, g2, -⟩ := State.classEntry (e := e) X.warmed hcl
  generalize T.vm.noted m.cls index (.cls cA) = vm₁ at g1 g2
  obtain ⟨kA1, ha1, ha2⟩ := g2.alike.2.2 _ _ hkA
  obtain ⟨kI1, hi1, hi2⟩ := g2.alike.2.2 _ _ hkI
  have Y := X.noted g2
  obtain ⟨r1, r2⟩ := X.roomAbove hcells hslots
  have Z := xg_stand Y cA cI n.toNatClampNeg k.toNatClampNeg n.toNatClampNeg
  refine ⟨vm₁, cA, cI, hA, hI, Z, fun target go => ?_⟩
  have lim := Launch.admits_arrayLengthLimit X.admits
  have hp := Launch.admits_maxHeapBytes X.admits
  jvm_step X.here [hexec, hdg]
  simp only [multianewarray.sem, wp_bind', W.resolveClassAt_links (State.method?_setTop (F0 m pc ls (.int k :: .int n :: rest)) X.here.top) g1]
  rw [W.popN, if_neg (by decide)]
  refine ⟨_, State.topJava?_setTop' (s := T.setVm vm₁) _ X.here.top, [.int n, .int k], rest, rfl, rfl, ?_⟩
  simp only [List.mapM_cons, List.mapM_nil, wp_bind', wp_pure']
  refine xg_make (S := ((T.setTop (F0 m pc ls (.int k :: .int n :: rest))).setVm vm₁).setTop (F0 m pc ls rest)) (h := T.heap.size) (kA := kA1) (kI := kI1) rfl ha1 (by rw [ha2]; exact hkindA) hi1 (by rw [hi2]; exact hkindI) hn hk (by rw [lim]; omega) (by rw [hp]; omega) (by rw [lim]; omega) (by rw [hp]; omega) r1 r2 (fun d' acts' => ?_)
  have eS : ((T.setTop (F0 m pc ls (.int k :: .int n :: rest))).setVm vm₁).setTop (F0 m pc ls rest) = (T.setVm vm₁).setTop (F0 m pc ls rest) := State.setTop_setTop (T.setVm vm₁) _ _
  show wp _ _ _ _ _ _ (xg_F (((T.setTop (F0 m pc ls (.int k :: .int n :: rest))).setVm vm₁).setTop (F0 m pc ls rest)) _ _ _)
  rw [eS, xg_F_top]
  simp only [wp_bind', W.mark, W.pushRef, State.setTop_setTop]
  refine ⟨_, State.topJava?_setTop' _ Z.here.top, ?_⟩
  intro acts
  simp [jvm, Z.here.top]
  exact go
end XQ9h
end XQ9f
