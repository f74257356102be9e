/-! CALLS. A method's contract over the small machine's data; a call by contract. -/
/-- a method: name, code, locals, what it returns, its kind (0 static, 1 of an object, 2 a constructor), how many arguments -/
abbrev xq_M : Type := MethodName × ByteArray × Nat × Option FieldType × Nat × Nat
def xq_mf (M : xq_M) : Prop := (Cond.code M.1 M.2.1 M.2.2.1 M.2.2.2.1) ∈ xq_ws ∧ plainName M.1.cls = true ∧ (M.1.cls ≠ "java/lang/invoke/MethodHandle" ∧ M.1.cls ≠ "java/lang/invoke/VarHandle" ∧ (parseMethodDescriptor M.1.desc).map (fun d => d.parameters.length) = some M.2.2.2.2.2) ∧ (Cond.initialized M.1.cls) ∈ xq_ws ∧
  (M.2.2.2.2.1 = 0 → (Cond.static M.1) ∈ xq_ws) ∧ (M.2.2.2.2.1 = 1 → (Cond.instanceMethod M.1) ∈ xq_ws ∧ (Cond.selects M.1.cls M.1 M.1) ∈ xq_ws) ∧ (M.2.2.2.2.1 = 2 → M.1.name = "<init>" ∧ (Cond.instanceMethod M.1) ∈ xq_ws ∧ M.2.2.2.1 = none) ∧ M.2.2.1 ≤ 45
def xq_wk (M : xq_M) : List Cond := .code M.1 M.2.1 M.2.2.1 M.2.2.2.1 :: xq_ws
theorem xq_wk_good {M : xq_M} (h : xq_mf M) : GoodIn xq_ws (xq_wk M) := fun w hw => by
  rcases List.mem_cons.mp hw with rfl | q
  · exact xq_ws_good _ h.1
  · exact xq_ws_good _ q
def xq_Pc (D : va_G) (cid : Nat → ClassId) (ro : Nat → Option xq_C) (rt adV : Nat → Nat) (base : Nat) (as : List Value) (h : xq_H) : Array Value → State → Prop := fun a U => a = (as.map (xq_v (xq_am rt base))).toArray ∧ xq_E D cid ro rt adV base U U.heap ∧ va_P D vwCl (xq_w (xq_am rt base) cid 64 h) U.heap ∧ va_D (xq_A base) (xq_w (xq_am rt base) cid 64 h) ∧ U.heap.size ≤ base + h.length
def xq_Qc (D : va_G) (cid : Nat → ClassId) (rt : Nat → Nat) (base : Nat) (r : Option Value) (h' : xq_H) : Array Value → State → Outcome → State → Prop := fun _ st o t => o = .returned (r.map (xq_v (xq_am rt base))) ∧ va_P D vwCl (xq_w (xq_am rt base) cid 64 h') t.heap ∧ va_D (xq_A base) (xq_w (xq_am rt base) cid 64 h') ∧ va_F (xq_A base) st t
def xq_Mt (l : Launch) (D : va_G) (cid : Nat → ClassId) (ro : Nat → Option xq_C) (rt adV : Nat → Nat) (base d : Nat) (M : xq_M) (as : List Value) (h : xq_H) (r : Option Value) (h' : xq_H) : Prop := h.length ≤ h'.length ∧ xq_z h ≤ xq_z h' ∧
  Met l M.1 (xq_wk M) { frames := d, cells := h'.length - h.length, slots := xq_z h' - xq_z h, locals := d * 64 } (xq_Pc D cid ro rt adV base as h) (xq_Qc D cid rt base r h') (h'.length - h.length) (xq_z h' - xq_z h) (xq_A base)
theorem xq_Pc_blind {D : va_G} {cid : Nat → ClassId} {ro : Nat → Option xq_C} {rt adV : Nat → Nat} {base : Nat} {as : List Value} {h : xq_H} : FrameBlind (xq_Pc D cid ro rt adV base as h) := fun a U g mk q => ⟨q.1, xq_E.moved (U := U.calling g mk a) q.2.1 (State.WarmedH.refl U) (Nat.le_refl _) (fun _ _ _ => rfl), q.2.2.1, q.2.2.2.1, q.2.2.2.2⟩
section XQ8
variable {p : Program} {l : Launch} {e : Env} {R : Room} {s : State} {m : MethodId} {args : Array Value} {below : List Frame} {meth : Method} {c : Code} {Q : State → Prop} {D : va_G} {cid : Nat → ClassId} {rt adV : Nat → Nat} {ro : Nat → Option xq_C} {base l0 z0 nL d : Nat} {bytes : ByteArray} {own : String} {E : Prop} {pc : Nat} {L : List (Option Value)} {st : List Value} {h : xq_H}
theorem xq_cont {r : Option Value} {h' : xq_H} {st' st0 : List Value} {a : Array Value} {H : Heap} {locs : List Loc} {ls : Array Slot} {cells slots : Nat} (hr : va_Run p l e R s m args below meth c H locs cells slots (h'.length - h.length) (xq_z h' - xq_z h) (F0 m pc ls st0) (st'.map (xq_v (xq_am rt base))) (xq_Qc D cid rt base r h' a) (xq_A base)) (hg1 : h.length ≤ h'.length) (hg2 : xq_z h ≤ xq_z h') (hS : va_S (xq_A base) s.heap H locs) (hL : xq_L (xq_am rt base) nL L ls) (e1 : l0 + cells = h.length) (e2 : z0 + slots = xq_z h) (kk : xq_G p l e R s m args below meth c Q D cid rt base l0 z0 nL (pc + 3) L (r.toList ++ st') h') : W p l e R s m args below meth c H locs cells slots Q (F0 m pc ls st0) := by
  intro T hT X
  obtain ⟨v, st₀, t, T', L', h0, X', hL', f1, f2, ⟨hv, hP1, hD1, hz, hk⟩, st⟩ := hr T hT X
  have hv : v = r.map (xq_v (xq_am rt base)) := by
    injection hv
  subst hv
  rw [h0] at hz hk
  obtain ⟨t2, a1, b1⟩ := kk T'.heap (locs ++ L') ls (cells + (h'.length - h.length)) (slots + (xq_z h' - xq_z h)) (by rw [f1]; exact hP1) hD1
    ⟨Nat.le_trans hS.1 (by rw [f1]; exact hz), fun q h1 h2 => by rw [f1, hk q (Nat.lt_of_lt_of_le h1 hS.1) h2]; exact hS.2.1 q h1 h2, fun q hq => by
      rcases List.mem_append.mp hq with h | h
      · exact hS.2.2 q h
      · exact hL' q h⟩ hL (by omega) (by omega) T' rfl X'
  refine ⟨t2, st t2 ?_, b1⟩
  rw [List.map_append] at a1
  have er : r.toList.map (xq_v (xq_am rt base)) = (r.map (xq_v (xq_am rt base))).toList := by cases r <;> rfl
  rw [er] at a1
  exact a1
theorem xq_take {st : List Value} {n : Nat} {v : Value} (h : st[n]? = some v) : (st.take (n + 1)).reverse = v :: (st.take n).reverse ∧ st = st.take n ++ v :: st.drop (n + 1) := by
  have hl : n < st.length := (List.getElem?_eq_some_iff.mp h).1
  have hv : st[n] = v := (List.getElem?_eq_some_iff.mp h).2
  constructor
  · rw [List.take_succ, h]
    simp
  · rw [← hv, List.getElem_cons_drop, List.take_append_drop]
theorem xq_call_inv {F : xq_F} {k n : Nat} (hst : xq_T (fun pc' L' st' h' => (h'.length ≤ l0 + R.cells ∧ xq_z h' ≤ z0 + R.slots) ∧ xq_G p l e R s m args below meth c Q D cid rt base l0 z0 nL pc' L' st' h') E (xq_call F k n pc L st h)) : n ≤ st.length ∧ xq_sum (st.drop n) ≤ 8 ∧ ∃ (r : Option Value) (h' : xq_H), F k (st.take n).reverse h = some (r, h') ∧ (h'.length ≤ l0 + R.cells ∧ xq_z h' ≤ z0 + R.slots) ∧ xq_G p l e R s m args below meth c Q D cid rt base l0 z0 nL (pc + 3) L (r.toList ++ st.drop n) h' := by
  unfold xq_call at hst
  cases hn : (Nat.ble n st.length && Nat.ble (xq_sum (st.drop n)) 8) with
  | false => rw [hn] at hst; exact hst.elim
  | true =>
    rw [hn, cond_true] at hst
    rw [Bool.and_eq_true] at hn
    refine ⟨Nat.le_of_ble_eq_true hn.1, Nat.le_of_ble_eq_true hn.2, ?_⟩
    split at hst
    · rename_i r h' hF
      exact ⟨r, h', hF, hst⟩
    · exact hst.elim
theorem xq_pre {as : List Value} {H : Heap} {locs : List Loc} {cells slots : Nat} (hB : xq_B p R s m args c bytes own nL d D cid ro rt adV base l0) (hP : va_P D vwCl (xq_w (xq_am rt base) cid 64 h) H) (hD : va_D (xq_A base) (xq_w (xq_am rt base) cid 64 h)) (hS : va_S (xq_A base) s.heap H locs) (e1 : l0 + cells = h.length) {T : State} (hT : T.heap = H) (X : Stand p l e R s m args below meth c T locs cells slots) : PreS s H (xq_Pc D cid ro rt adV base as h) (as.map (xq_v (xq_am rt base))) := by
  obtain ⟨hx, hb, hml, hown, hts, hE, hsz, hfr, hlo⟩ := hB
  refine ⟨xq_Pc_blind, fun U hU hW => ⟨rfl, ?_, by rw [hU]; exact hP, hD, ?_⟩⟩
  · rw [hU]
    exact hE.moved hW hS.1 hS.2.1
  · have h2 := X.heapSize
    rw [hT] at h2
    rw [hU]
    omega
theorem xq_cb {M : xq_M} {idx : Nat} {rm : Room} (hB : xq_B p R s m args c bytes own nL d D cid ro rt adV base l0) (hM : xq_mf M) (hlink : (Cond.methodLink own idx M.1) ∈ xq_ws) (h1 : rm.frames = d) (h2 : rm.locals = d * 64) {mc ms : Nat} (h3 : rm.cells = mc) (h4 : rm.slots = ms) : CallB R s args own idx M.1 M.2.1 M.2.2.1 M.2.2.2.1 (xq_wk M) rm mc ms M.2.2.2.2.2 := by
  obtain ⟨hx, hb, hml, hown, hts, hE, hsz, hfr, hlo⟩ := hB
  exact callB_of _ hts (xq_wk_good hM) rfl h3 h4 (hts _ hM.2.2.2.1) (hts _ hlink) hM.2.2.1 ⟨by omega, by have := hM.2.2.2.2.2.2.2; omega⟩
theorem xq_s_call0 {F : xq_F} {k idx : Nat} {M : xq_M} (hB : xq_B p R s m args c bytes own nL d D cid ro rt adV base l0) (hM : xq_mf M) (hk0 : M.2.2.2.2.1 = 0) (hlink : (Cond.methodLink own idx M.1) ∈ xq_ws) (hF : ∀ (as : List Value) (h : xq_H) (r : Option Value) (h' : xq_H), F k as h = some (r, h') → xq_Mt l D cid ro rt adV base d M as h r h') (hdg : decode bytes pc = .ok (.invokestatic idx, 3)) (hst : xq_T (fun pc' L' st' h' => (h'.length ≤ l0 + R.cells ∧ xq_z h' ≤ z0 + R.slots) ∧ xq_G p l e R s m args below meth c Q D cid rt base l0 z0 nL pc' L' st' h') E (xq_call F k M.2.2.2.2.2 pc L st h)) : E ∨ xq_G p l e R s m args below meth c Q D cid rt base l0 z0 nL pc L st h := by
  obtain ⟨hn, hsum, r, h', hFe, hz, kk⟩ := xq_call_inv hst
  obtain ⟨g1, g2, hmet⟩ := hF _ _ _ _ hFe
  refine Or.inr fun H locs ls cells slots hP hD hS hL e1 e2 T hT X => ?_
  have hpre := xq_pre (as := (st.take M.2.2.2.2.2).reverse) hB hP hD hS e1 hT X
  have cw := xq_cb (rm := { frames := d, cells := h'.length - h.length, slots := xq_z h' - xq_z h, locals := d * 64 }) hB hM hlink rfl rfl (mc := h'.length - h.length) (ms := xq_z h' - xq_z h) rfl rfl
  obtain ⟨hx, hb, hml, hown, hts, hE, hsz, hfr, hlo⟩ := hB
  refine xq_cont (va_runS (As := ((st.take M.2.2.2.2.2).reverse.map (xq_v (xq_am rt base)))) (Ts := xq_ws) ⟨hx, hb, hml, hown, hts⟩ hmet ⟨cw, hts _ (hM.2.2.2.2.1 hk0)⟩ hpre rfl (by simp; omega) hL.2.1 ?_ (lv_room (by rw [xq_sum_map]; exact hsum)) hdg ⟨by omega, by omega⟩) g1 g2 hS hL e1 e2 kk T hT X
  show st.map _ = _
  rw [List.map_reverse, List.reverse_reverse, ← List.map_append, List.take_append_drop]
theorem xq_s_call1 {F : xq_F} {k idx ci : Nat} {M : xq_M} (hB : xq_B p R s m args c bytes own nL d D cid ro rt adV base l0) (hM : xq_mf M) (hk0 : M.2.2.2.2.1 = 1) (hlink : (Cond.methodLink own idx M.1) ∈ xq_ws) (hci : (ci = 10 ∧ M.1.cls = "java/lang/String") ∨ ∃ q : vw_C, vwCl[ci]? = some q ∧ q.1 = M.1.cls) (hF : ∀ (as : List Value) (h : xq_H) (r : Option Value) (h' : xq_H), F k as h = some (r, h') → xq_Mt l D cid ro rt adV base d M as h r h') (hdg : decode bytes pc = .ok (.invokevirtual idx, 3)) (hrc : xq_recv h ci M.2.2.2.2.2 st = true) (hst : xq_T (fun pc' L' st' h' => (h'.length ≤ l0 + R.cells ∧ xq_z h' ≤ z0 + R.slots) ∧ xq_G p l e R s m args below meth c Q D cid rt base l0 z0 nL pc' L' st' h') E (xq_call F k (M.2.2.2.2.2 + 1) pc L st h)) : E ∨ xq_G p l e R s m args below meth c Q D cid rt base l0 z0 nL pc L st h := by
  obtain ⟨hn, hsum, r, h', hFe, hz, kk⟩ := xq_call_inv hst
  obtain ⟨g1, g2, hmet⟩ := hF _ _ _ _ hFe
  refine Or.inr fun H locs ls cells slots hP hD hS hL e1 e2 T hT X => ?_
  unfold xq_recv at hrc
  split at hrc
  · rename_i b hb0
    obtain ⟨t1, t2⟩ := xq_take hb0
    have hpre := xq_pre (as := (st.take (M.2.2.2.2.2 + 1)).reverse) hB hP hD hS e1 hT X
    have cw := xq_cb (rm := { frames := d, cells := h'.length - h.length, slots := xq_z h' - xq_z h, locals := d * 64 }) hB hM hlink rfl rfl (mc := h'.length - h.length) (ms := xq_z h' - xq_z h) rfl rfl
    obtain ⟨hx, hb, hml, hown, hts, hE, hsz, hfr, hlo⟩ := hB
    rw [t1, List.map_cons] at hpre
    rw [t1] at hmet
    have hrec : ∃ cellB : Cell, H[xq_am rt base b]? = some cellB ∧ cellB.vm.isStatics = false ∧ s.vm.findClass M.1.cls = some cellB.cls := by
      cases hb64 : Nat.blt b 64 with
      | true =>
        rw [hb64, cond_true] at hrc
        rw [Bool.and_eq_true, Bool.and_eq_true] at hrc
        have h10 : ci = 10 := Nat.eq_of_beq_eq_true hrc.1.1
        have hC : M.1.cls = "java/lang/String" := by
          rcases hci with q | ⟨q, hq, -⟩
          · exact q.2
          · rw [h10] at hq; cases hq
        have h3 := xq_blt_t hrc.1.2
        have h16 := xq_blt_t hrc.2
        rw [hC, xq_am_lo (xq_blt_t hb64)]
        obtain ⟨j, hj, hj13⟩ : ∃ j : Nat, 3 + j = b ∧ j < 13 := ⟨(b : Nat) - 3, Nat.add_sub_cancel' (Nat.le_of_lt_succ (Nat.succ_lt_succ h3)), by omega⟩
        have := vk_recv (i := j) hE.2.2.2.2.2.1 hj13 hS
        rw [← hj]
        exact this
      | false =>
        rw [hb64, cond_false] at hrc
        split at hrc
        · rename_i ci' fs hfs
          have hcc : ci = ci' := Nat.eq_of_beq_eq_true hrc
          subst hcc
          have hw := xq_w_one (rt := rt) (base := base) (cid := cid) (xq_blt_f hb64) hfs
          rcases hci with ⟨h10, -⟩ | ⟨q, hq, hqC⟩
          · subst h10
            obtain ⟨r', hr', -⟩ := hP _ _ hw
            cases hr'
          · rw [← hqC]
            exact va_recv hE.1 hP hq hw
        · cases hrc
    have hrm : ((st.take (M.2.2.2.2.2 + 1)).reverse.map (xq_v (xq_am rt base))) = .ref (xq_am rt base b) :: (st.take M.2.2.2.2.2).reverse.map (xq_v (xq_am rt base)) := by rw [t1, List.map_cons]; rfl
    refine xq_cont (va_runV (C := M.1.cls) (b := xq_am rt base b) (As := ((st.take M.2.2.2.2.2).reverse.map (xq_v (xq_am rt base)))) (Ts := xq_ws) ⟨hx, hb, hml, hown, hts⟩ hmet ⟨cw, hts _ (hM.2.2.2.2.2.1 hk0).1, hts _ (hM.2.2.2.2.2.1 hk0).2⟩ ⟨hpre.1, hrec, hpre.2⟩ rfl (by simp; omega) hL.2.1 ?_ (lv_room (by rw [xq_sum_map]; exact hsum)) hdg ⟨by omega, by omega⟩) g1 g2 hS hL e1 e2 kk T hT X
    show st.map _ = _
    rw [List.map_reverse, List.reverse_reverse]
    conv => lhs; rw [t2, List.map_append, List.map_cons]
    rfl
  · cases hrc
theorem xq_s_call2 {F : xq_F} {k idx : Nat} {M : xq_M} (hB : xq_B p R s m args c bytes own nL d D cid ro rt adV base l0) (hM : xq_mf M) (hk0 : M.2.2.2.2.1 = 2) (hlink : (Cond.methodLink own idx M.1) ∈ xq_ws ∨ (Cond.methodLinkNest own idx M.1 "WhoeverKnowsSings") ∈ xq_nw) (hF : ∀ (as : List Value) (h : xq_H) (r : Option Value) (h' : xq_H), F k as h = some (r, h') → xq_Mt l D cid ro rt adV base d M as h r h') (hdg : decode bytes pc = .ok (.invokespecial idx, 3)) (hst : xq_T (fun pc' L' st' h' => (h'.length ≤ l0 + R.cells ∧ xq_z h' ≤ z0 + R.slots) ∧ xq_G p l e R s m args below meth c Q D cid rt base l0 z0 nL pc' L' st' h') E (match st[M.2.2.2.2.2]? with | some (.ref _) => xq_call F k (M.2.2.2.2.2 + 1) pc L st h | _ => none)) : E ∨ xq_G p l e R s m args below meth c Q D cid rt base l0 z0 nL pc L st h := by
  split at hst
  · rename_i b hb0
    obtain ⟨hn, hsum, r, h', hFe, hz, kk⟩ := xq_call_inv hst
    obtain ⟨g1, g2, hmet⟩ := hF _ _ _ _ hFe
    refine Or.inr fun H locs ls cells slots hP hD hS hL e1 e2 T hT X => ?_
    obtain ⟨t1, t2⟩ := xq_take hb0
    have hpre := xq_pre (as := (st.take (M.2.2.2.2.2 + 1)).reverse) hB hP hD hS e1 hT X
    rw [t1, List.map_cons] at hpre
    rw [t1] at hmet
    have hstack : st.map (xq_v (xq_am rt base)) = ((st.take M.2.2.2.2.2).reverse.map (xq_v (xq_am rt base))).reverse ++ .ref (xq_am rt base b) :: (st.drop (M.2.2.2.2.2 + 1)).map (xq_v (xq_am rt base)) := by
      rw [List.map_reverse, List.reverse_reverse]
      conv => lhs; rw [t2, List.map_append, List.map_cons]
      rfl
    obtain ⟨y1, y2, y3⟩ := hM.2.2.2.2.2.2.1 hk0
    rcases hlink with hl | hl
    · have cw := xq_cb (rm := { frames := d, cells := h'.length - h.length, slots := xq_z h' - xq_z h, locals := d * 64 }) hB hM hl rfl rfl (mc := h'.length - h.length) (ms := xq_z h' - xq_z h) rfl rfl
      obtain ⟨hx, hb, hml, hown, hts, hE, hsz, hfr, hlo⟩ := hB
      rw [y3] at cw
      exact xq_cont (va_runI (b := xq_am rt base b) (As := ((st.take M.2.2.2.2.2).reverse.map (xq_v (xq_am rt base)))) (Ts := xq_ws) ⟨hx, hb, hml, hown, hts⟩ hmet ⟨cw, y1, hts _ y2⟩ hpre rfl (by simp; omega) hL.2.1 hstack (lv_room (by rw [xq_sum_map]; exact hsum)) hdg ⟨by omega, by omega⟩) g1 g2 hS hL e1 e2 kk T hT X
    · obtain ⟨hx, hb, hml, hown, hts, hE, hsz, hfr, hlo⟩ := hB
      have cw := va_cnB (R := R) (mc := h'.length - h.length) (ms := xq_z h' - xq_z h) (rm := { frames := d, cells := h'.length - h.length, slots := xq_z h' - xq_z h, locals := d * 64 }) M.2.2.2.2.2 hts (xq_wk_good hM) (ret := M.2.2.2.1) (bytes := M.2.1) (maxL := M.2.2.1) rfl rfl rfl (hE.2.2.2.2.2.2.1 _ hl) (hts _ hM.2.2.2.1) hM.2.2.1 ⟨by show d + 1 ≤ _; omega, by have := hM.2.2.2.2.2.2.2; show 8 + _ + d * 64 ≤ _; omega⟩
      rw [y3] at cw
      exact xq_cont (va_runIN (b := xq_am rt base b) (As := ((st.take M.2.2.2.2.2).reverse.map (xq_v (xq_am rt base)))) (Ts := xq_ws) ⟨hx, hb, hml, hown, hts⟩ hmet ⟨cw, y1, hts _ y2⟩ hpre rfl (by simp; omega) hL.2.1 hstack (lv_room (by rw [xq_sum_map]; exact hsum)) hdg ⟨by omega, by omega⟩) g1 g2 hS hL e1 e2 kk T hT X
  · exact hst.elim
end XQ8
