/-! THE CLAIM OUT OF ONE WALK OF THE LAW'S BODY. Your part is whole_start (and what it stands on); all else here is the same for every law, but numbers. -/
def R_law : String := "WhoeverKnowsSingsLaw"
def lw_P (b : Addr) (xs : List Int32) (args : Array Value) (s : State) : Prop := args = #[.ref b] ∧ s.IntsAt b xs ∧ xs.length ≤ 448 ∧ (Jvm.Cond.and given_1 narrow_1).before args s = true
def lw_Q (_ : Array Value) (s : State) (o : Outcome) (t : State) : Prop := o = .returned (some (.int 1)) ∧ Framed s o t [] 600000 7302250
def lw_Z (below : List Frame) (a : Array Value) (s : State) : State → Prop := fun t => ∃ o, t.status = .running ∧ Ended t below o ∧ lw_Q a s o t
/-- the law's own end, with 1 on the stack, nothing written that was there before, its room as the claim has it -/
theorem lw_ret {p : Program} {l : Launch} {e : Env} {s : State} {m : MethodId} {below : List Frame} {meth : Method} {c : Code} {b : Nat} (hx : p.tables.exec = Jvm.exec) (hb : c.code = code) (hr : meth.sig.returnType = ret) (hlocks : meth.locks = false) {pc : Nat} {H : Heap} {ls : Array Slot} (hdg : decode code pc = .ok (.ireturn, 1)) : W p l e room_1 s m #[Value.ref b] below meth c H [] 600000 7302250 (lw_Z below #[Value.ref b] s) (F0 m pc ls [.int 1]) := by
  intro T hT X
  obtain ⟨fs, hret, hrun, hended, hW, hframe⟩ := X.leave (v := some (.int 1)) (hlocks := hlocks) (fun h => by rw [hr] at h; cases h)
  have hmeth' : T.vm.method? m = some meth := X.method'
  refine ⟨T.setFrames fs, ?_, .returned (some (.int 1)), hrun, hended, rfl, ⟨_, rfl⟩, hW, hframe⟩
  jvm_step X.here [X.here.top, hx, hb, hdg, hmeth', hr, ret, narrow_b1]
  (try refine ⟨rfl, ?_⟩); (try refine ⟨rfl, ?_⟩)
  first | (intro acts; rw [hret _ acts rfl rfl rfl]) | rw [hret _ _ rfl rfl rfl]
  exact Steps.refl _
/-- what holds at the law's entry: the machine, the code, the tables' words (any of lw_tbl by 'hts w (by decide +kernel)'), the script of L ints xs at the cell b, what the Statement gives of the start (any of its parts by flat_of_before) -/
def lw_At (p : Program) (s : State) (m : MethodId) (meth : Method) (c : Code) (b L : Nat) (xs : Nat → Int32) : Prop :=
  p.tables.exec = Jvm.exec ∧ c.code = code ∧ meth.sig.returnType = ret ∧ c.maxLocals = 4 ∧ s.vm.findClass R_law = some m.cls ∧ (∀ w ∈ lw_tbl, w.before #[Value.ref b] s = true) ∧ va_X b L xs s s.heap ∧ b < s.heap.size ∧ meth.locks = false ∧ (Jvm.Cond.and given_1 narrow_1).before #[Value.ref b] s = true
theorem xq_inr1 {ro : Nat → Option xq_C} {df : Nat → List Value} {F : xq_F} {pc : Nat} {L : List (Option Value)} {st : List Value} {h hf : xq_H} {I : xq_I} {x : Int32} (hst : xq_step ro df F pc L st h I = some (.inr (some (.int x), hf))) : hf = h ∧ st = [.int x] ∧ I.1 = .ireturn := by
  obtain ⟨i, len, a, b, e', pl, v⟩ := I
  have cx : ∀ {b : Bool} {x' y : xq_O}, (bif b then x' else y) = some (.inr (some (.int x), hf)) → x' = some (.inr (some (.int x), hf)) ∨ y = some (.inr (some (.int x), hf)) := fun {b x' y} h => by
    cases b
    · exact Or.inr h
    · exact Or.inl h
  have gx : ∀ {pc : Nat} {L : List (Option Value)} {st : List Value} {h : xq_H}, ¬ xq_go pc L st h = some (.inr (some (.int x), hf)) := fun h => by cases h
  have clx : ∀ {k n pc : Nat} {L : List (Option Value)} {st : List Value} {h : xq_H}, ¬ xq_call F k n pc L st h = some (.inr (some (.int x), hf)) := fun {k n pc L st h} e => by
    unfold xq_call at e
    rcases cx e with e | e
    · split at e <;> cases e
    · cases e
  cases i with
  | ireturn =>
    dsimp only [xq_step] at hst
    split at hst
    · rcases cx hst with q | q
      · cases q
        exact ⟨rfl, rfl, rfl⟩
      · cases q
    · cases hst
  | lreturn =>
    exfalso
    dsimp only [xq_step] at hst
    split at hst <;> cases hst
  | areturn =>
    exfalso
    dsimp only [xq_step] at hst
    split at hst <;> cases hst
  | return_ =>
    exfalso
    dsimp only [xq_step] at hst
    split at hst <;> cases hst
  | _ =>
    exfalso
    dsimp only [xq_step, xq_i1, xq_i2, xq_l2, xq_br, xq_tab, xq_lsw, xq_aldi, xq_aldr, xq_alen, xq_asti, xq_astr, xq_newi, xq_newr, xq_newg, xq_get, xq_put, xq_copy, xq_min, xq_clone] at hst
    first
      | (cases hst; done)
      | exact gx hst
      | (split at hst <;> first | (cases hst; done) | exact gx hst | (rcases cx hst with q | q <;> first | (cases q; done) | exact gx q | (split at q <;> first | (cases q; done) | exact gx q | (rcases cx q with q | q <;> first | (cases q; done) | exact gx q | (split at q <;> first | (cases q; done) | exact gx q)))) | (split at hst <;> first | (cases hst; done) | exact gx hst | (rcases cx hst with q | q <;> first | (cases q; done) | exact gx q)))
      | (rcases cx hst with q | q <;> first | (cases q; done) | exact gx q | exact clx q | (rcases cx q with q | q <;> first | (cases q; done) | exact clx q | (split at q <;> first | (cases q; done) | (rcases cx q with q | q <;> first | (cases q; done) | exact gx q))) | (split at q <;> first | (cases q; done) | exact gx q | exact clx q | (rcases cx q with q | q <;> first | (cases q; done) | exact gx q | (split at q <;> first | (cases q; done) | exact gx q | (rcases cx q with q | q <;> first | (cases q; done) | exact gx q)))))
section XQ22
variable {p : Program} {l : Launch} {e : Env} {s : State} {m : MethodId} {below : List Frame} {meth : Method} {c : Code} {D : va_G} {cid : Nat → ClassId} {rt adV : Nat → Nat} {ro : Nat → Option xq_C} {b : Nat}
theorem xk_law {n0 : Nat} {hf : xq_H} (hB : xq_B p room_1 s m #[Value.ref b] c code R_law 4 1000 D cid ro rt adV s.heap.size 0) (hr : meth.sig.returnType = ret) (hlk : meth.locks = false) (h1 : hf.length ≤ 600000) (h2 : xq_z hf ≤ 7302250) :
    ∀ (n pc : Nat) (L : List (Option Value)) (st : List Value) (h : xq_H), xq_run ro xq_df (xq_ex ro xq_df xk_P xk_pr 1000 n0) xk_L n pc L st h = some (some (.int 1), hf) → xq_G p l e room_1 s m #[Value.ref b] below meth c (lw_Z below #[Value.ref b] s) D cid rt s.heap.size 0 0 4 pc L st h := by
  intro n
  induction n with
  | zero => intro pc L st h e; cases e
  | succ n ih =>
    intro pc L st h e
    rw [xq_run] at e
    split at e
    · cases e
    · rename_i I hI
      split at e
      · cases e
      · rename_i pc' L' st' h' e2
        have hle := xq_run_le (xq_ex_le xk_pr_le n0 1000) _ _ _ _ _ e
        have hg := ih _ _ _ _ e
        have := xq_sound1 (E := False) (Q := lw_Z below #[Value.ref b] s) (z0 := 0) (o := 11) rfl xl_A hB xk_MA (fun k M hM as h r h' q => xk_sound n0 1000 k M hM as h r h' q) (fun q => absurd q (by decide)) (xk_L_ok pc I hI) (by rw [e2]; exact ⟨⟨Nat.le_trans hle.1 (by rw [Nat.zero_add]; exact h1), Nat.le_trans hle.2 (by rw [Nat.zero_add]; exact h2)⟩, hg⟩)
        exact this.resolve_left id
      · rename_i q e2
        cases e
        obtain ⟨g1, g2, g3⟩ := xq_inr1 e2
        subst g1
        subst g2
        have hok := xk_L_ok pc I hI
        obtain ⟨i, len, a, b', e', pl, v⟩ := I
        have g3 : i = .ireturn := g3
        subst g3
        replace hok : (decide (decode code pc = .ok (.ireturn, len)) && (Nat.beq len 1 && ((Nat.beq a 0 && decide (some FieldType.boolean = some .int)) || (Nat.beq a 1 && decide (some FieldType.boolean = some .boolean))))) = true := hok
        rw [Bool.and_eq_true, Bool.and_eq_true] at hok
        have hl1 := Nat.eq_of_beq_eq_true hok.2.1
        subst hl1
        have hdg := of_decide_eq_true hok.1
        obtain ⟨hx, hb, hml, hown, hts, hE, hsz, hfr, hlo⟩ := hB
        intro H locs ls cells slots hP hD hS hL e1 e3
        exact va_forget (fun q hq => hS.2.2 q hq) (W.widen (k := 600000) (n := 7302250) (by omega) (by omega) (lw_ret hx hb hr hlk hdg))
end XQ22
/-- THE CLAIM, over pure data -/
def xk_Law : Prop := ∀ (L : Nat) (xs : Nat → Int32), L ≤ 448 → ∃ (n0 n : Nat) (hf : xq_H), xq_run (xk_ro L xs) xq_df (xq_ex (xk_ro L xs) xq_df xk_P xk_pr 1000 n0) xk_L n 0 [some (.ref 0), none, none, none] [] [] = some (some (.int 1), hf) ∧ hf.length ≤ 600000 ∧ xq_z hf ≤ 7302250
theorem xk_mem {i : Nat} {w : Jvm.Cond} (h : xk_fl[i]? = some w) : w ∈ flatC (Jvm.Cond.and given_1 narrow_1) := List.mem_of_getElem? h
theorem xk_entry {p : Program} {s : State} {m : MethodId} {meth : Method} {c : Code} {b L : Nat} {xs : Nat → Int32} (hL : L ≤ 448) (C0 : lw_At p s m meth c b L xs) : ∃ (D : va_G) (cid : Nat → ClassId) (rt adV : Nat → Nat), rt 0 = b ∧ xq_E D cid (xk_ro L xs) rt adV s.heap.size s s.heap := by
  obtain ⟨hx, hb, hr, hml, hown, hts, hX, hbl, hlocks, hgv⟩ := C0
  have hs := flat_of_before _ hgv
  have hw : ∀ w ∈ xq_ws, w.before #[Value.ref b] s = true := fun w h => hts w (List.mem_filter.mp h).1
  have hA : ∀ a : Nat, a < s.heap.size → ¬ xq_A s.heap.size a := fun a h q => absurd q (Nat.not_le.mpr h)
  obtain ⟨c0, i0, k0⟩ := u_known (C := RX0) (T := TX0) (N := 7) hw xq_win0 (hw _ xk_i0)
  obtain ⟨c1, i1, k1⟩ := u_known (C := RX1) (T := TX1) (N := 3) hw xq_win1 (hw _ xk_i1)
  obtain ⟨c2, i2, k2⟩ := u_known (C := RX2) (T := TX2) (N := 8) hw xq_win2 (hw _ xk_i2)
  obtain ⟨c3, i3, k3⟩ := u_known (C := RX3) (T := TX3) (N := 15) hw xq_win3 (hw _ xk_i3)
  obtain ⟨c4, i4, k4⟩ := u_known (C := RX4) (T := TX4) (N := 9) hw xq_win4 (hw _ xk_i4)
  obtain ⟨c5, i5, k5⟩ := u_known (C := RX5) (T := TX5) (N := 3) hw xq_win5 (hw _ xk_i5)
  obtain ⟨c6, i6, k6⟩ := u_known (C := RX6) (T := TX6) (N := 6) hw xq_win6 (hw _ xk_i6)
  obtain ⟨c7, i7, k7⟩ := u_known (C := RX7) (T := TX7) (N := 3) hw xq_win7 (hw _ xk_i7)
  obtain ⟨c8, i8, k8⟩ := u_known (C := RX8) (T := TX8) (N := 17) hw xq_win8 (hw _ xk_i8)
  obtain ⟨c9, i9, k9⟩ := u_known (C := RX9) (T := TX9) (N := 55) hw xq_win9 (hw _ xk_i9)
  obtain ⟨dC, dI, hKc⟩ : ∃ (dC : Nat → ClassId) (dI : Nat → Nat → Nat), ∀ (k : Nat) (q : vw_C), vwCl[k]? = some q → u_Kn s q.1 q.2.1 q.2.2 (dC k) (dI k) := by
    refine ⟨fun k => match k with | 0 => c0 | 1 => c1 | 2 => c2 | 3 => c3 | 4 => c4 | 5 => c5 | 6 => c6 | 7 => c7 | 8 => c8 | _ => c9, fun k => match k with | 0 => i0 | 1 => i1 | 2 => i2 | 3 => i3 | 4 => i4 | 5 => i5 | 6 => i6 | 7 => i7 | 8 => i8 | _ => i9, ?_⟩
    intro k q hq
    match k, hq with
    | 0, hq => cases hq; exact k0
    | 1, hq => cases hq; exact k1
    | 2, hq => cases hq; exact k2
    | 3, hq => cases hq; exact k3
    | 4, hq => cases hq; exact k4
    | 5, hq => cases hq; exact k5
    | 6, hq => cases hq; exact k6
    | 7, hq => cases hq; exact k7
    | 8, hq => cases hq; exact k8
    | 9, hq => cases hq; exact k9
    | k + 10, hq => simp [vwCl] at hq
  have hov5 : va_AO RX5 s := va_AO.of (hts _ xk_w8)
  have hov7 : va_AO RX7 s := va_AO.of (hts _ xk_w9)
  have hovg : xq_ag s := hts _ xk_w10
  obtain ⟨a0, ka0, co0, fa0, ga0, ha0⟩ := Cond.arrayClass_spec (hw _ xq_f_ai)
  obtain ⟨a1, ka1, co1, fa1, ga1, ha1⟩ := Cond.arrayClass_spec (hw _ xq_f_az)
  obtain ⟨a2, ka2, co2, fa2, ga2, ha2⟩ := Cond.arrayClass_spec (hw _ xq_f_ac)
  obtain ⟨co3, a3, ka3, fc3, -, ga3, ha3, fa3⟩ := xq_ag_spec hovg
  obtain ⟨co4, a4, ka4, fc4, -, ga4, ha4, fa4⟩ := Cond.arrayOver_spec hov5
  obtain ⟨co5, a5, ka5, fc5, -, ga5, ha5, fa5⟩ := Cond.arrayOver_spec hov7
  obtain ⟨cid, hc⟩ : ∃ cid : Nat → ClassId, cid 0 = a0 ∧ cid 1 = a1 ∧ cid 2 = a2 ∧ cid 3 = a3 ∧ cid 4 = a4 ∧ cid 5 = a5 := ⟨fun k => match k with | 0 => a0 | 1 => a1 | 2 => a2 | 3 => a3 | 4 => a4 | _ => a5, rfl, rfl, rfl, rfl, rfl, rfl⟩
  obtain ⟨e0, e1, e2, e3, e4, e5⟩ := hc
  have hK : va_K (dC, dI) vwCl (xq_tys cid) s := by
    refine ⟨hKc, fun k q hq => ?_⟩
    match k, hq with
    | 0, hq => cases hq; rw [e0]; exact ⟨fun n z => ⟨fun k h => (by cases h), ka0, ga0, co0, ha0⟩, fa0⟩
    | 1, hq => cases hq; rw [e1]; exact ⟨fun n z => ⟨fun k h => (by cases h), ka1, ga1, co1, ha1⟩, fa1⟩
    | 2, hq => cases hq; rw [e2]; exact ⟨fun n z => ⟨fun k h => (by cases h), ka2, ga2, co2, ha2⟩, fa2⟩
    | 3, hq => cases hq; rw [e3]; exact ⟨fun n z => ⟨fun k h => (by cases h), ka3, ga3, co3, ha3⟩, fa3⟩
    | 4, hq => cases hq; rw [e4]; exact ⟨fun n z => ⟨fun k h => (by cases h), ka4, ga4, co4, ha4⟩, ka4, co4, ga4, ha4, fc4, fa4⟩
    | 5, hq => cases hq; rw [e5]; exact ⟨fun n z => ⟨fun k h => (by cases h), ka5, ga5, co5, ha5⟩, ka5, co5, ga5, ha5, fc5, fa5⟩
    | k + 6, hq => simp [xq_tys] at hq
  obtain ⟨tA, htA, hTA⟩ := va_Tof (tm := .static RX8 "ABOVE" "[I") (ty := .int) (N := 6) (f := fun j => .int (xk_above.getD j 0)) (A := xq_A s.heap.size) (by decide) (hs _ (xk_mem xk_e1)) (va_eqt (hs _ (xk_mem xk_e2))) (fun j hj => va_eqt (hs _ (xk_mem (xk_e7 j hj)))) hA
  obtain ⟨tT, htT, hTT⟩ := va_Tof (tm := .static RX8 "IN_THREES" "[I") (ty := .int) (N := 32) (f := fun j => .int (xk_three.getD j 0)) (A := xq_A s.heap.size) (by decide) (hs _ (xk_mem xk_e3)) (va_eqt (hs _ (xk_mem xk_e4))) (fun j hj => va_eqt (hs _ (xk_mem (xk_e8 j hj)))) hA
  obtain ⟨adK, adV, hSt, hev⟩ := vk_Sof (N := 13) (tm := xk_tm) (len := xq_len) (byt := xq_byt) (A := xq_A s.heap.size) (fun i hi => (xs_len_ok i hi).1) (fun i hi => hs _ (xk_mem (xk_s1 i hi))) (fun i hi => hs _ (xk_mem (xk_s2 i hi))) (fun i hi => hs _ (xk_mem (xk_s3 i hi))) (fun i hi => hs _ (xk_mem (xk_s4 i hi))) (fun i hi j hj => hs _ (xk_s5 i hi j hj)) (fun i j hi hj hij => (xk_s6 i j hi hj hij).imp (fun h => hs _ h) (fun h => hs _ h)) hA
  obtain ⟨rt, hrt⟩ : ∃ rt : Nat → Nat, rt 0 = b ∧ rt 1 = tA ∧ rt 2 = tT ∧ ∀ i, rt (3 + i) = adK i := ⟨fun k => match k with | 0 => b | 1 => tA | 2 => tT | k + 3 => adK k, rfl, rfl, rfl, fun i => by rw [Nat.add_comm]⟩
  obtain ⟨r0, r1, r2, r3⟩ := hrt
  have hX0 : va_T .int b L (fun j => .int (xs j)) (xq_A s.heap.size) s s.heap := by
    obtain ⟨scr, h1, h2, h3, h4, h5⟩ := hX
    exact ⟨scr, h1, h2, h3, by rw [h4]; exact Nat.le_refl _, by rw [h4] <;> rfl, h5, hA b hbl⟩
  refine ⟨(dC, dI), cid, rt, adV, r0, hK, fun r q hr hq => ?_, ?_, ?_, fun i q hq => ?_, ?_, fun w hwn => va_Nw.of (xk_nw w hwn).2 (hts _ (xk_nw w hwn).1), hov5, hov7, hovg, Nat.le_refl _, va_Zof (hts _ xk_w3) (hts _ xk_w6) (va_eqt (hs _ (xk_mem xk_e5))) hA, va_Zqof (hts _ xk_w4) (hts _ xk_w7) (hs _ (xk_mem xk_e6)) hA⟩
  · match r, hq with
    | 0, hq => cases hq; exact ⟨_, _, rfl, by rw [r0]; exact hX0⟩
    | 1, hq => cases hq; exact ⟨_, _, rfl, by rw [r1]; exact hTA⟩
    | 2, hq => cases hq; exact ⟨_, _, rfl, by rw [r2]; exact hTT⟩
    | k + 3, hq => cases hq
  · rw [r1]; exact va_Zref (hts _ xk_w1) (hts _ xk_w5) htA hA
  · rw [r2]; exact va_Zref (hts _ xk_w2) (hts _ xk_w5) htT hA
  · have hi : i < 13 := (List.getElem?_eq_some_iff.mp hq).1
    have hq2 : xq_strs.getD i ("", 0, "") = q := by rw [List.getD_eq_getElem?_getD, hq]; rfl
    have h1 := hts _ (List.mem_of_getElem? (xk_w11 i hi))
    have h2 := hev i hi
    unfold xk_tm at h2
    rw [hq2] at h1 h2
    rw [r3]
    exact vk_R.of h1 h2
  · have : (fun i => rt (3 + i)) = adK := funext r3
    rw [this]
    exact hSt
/-- the law's walk out of the claim over pure data -/
theorem xk_start (HL : xk_Law) {p : Program} {e : Env} {s : State} {m : MethodId} {below : List Frame} {meth : Method} {c : Code} (l : Launch) {b L : Nat} {xs : Nat → Int32} (hL : L ≤ 448) (C0 : lw_At p s m meth c b L xs) : W p l e room_1 s m #[Value.ref b] below meth c s.heap [] 0 0 (lw_Z below #[Value.ref b] s) (entryFrame m ([Value.ref b] : List Value).toArray 4) := by
  obtain ⟨D, cid, rt, adV, r0, hE⟩ := xk_entry hL C0
  obtain ⟨hx, hb, hr, hml, hown, hts, hX, hbl, hlocks, hgv⟩ := C0
  obtain ⟨n0, n, hf, hrun, h1, h2⟩ := HL L xs hL
  have hB : xq_B p room_1 s m #[Value.ref b] c code R_law 4 1000 D cid (xk_ro L xs) rt adV s.heap.size 0 := ⟨hx, hb, hml, hown, fun w h => hts w (List.mem_filter.mp h).1, hE, Nat.le_refl _, Nat.le_of_ble_eq_true rfl, Nat.le_of_ble_eq_true rfl⟩
  have hG := xk_law (l := l) (e := e) (below := below) hB hr hlocks h1 h2 n 0 _ _ _ hrun
  rw [lg_entry_eq]
  have ev : [Value.ref 0].map (xq_v (xq_am rt s.heap.size)) = [.ref b] := by
    show [Value.ref (xq_am rt s.heap.size 0)] = _
    rw [xq_am_lo (by decide), r0]
  have hlo := xq_lo_has (am := xq_am rt s.heap.size) (as := [Value.ref 0]) (nl := 4) (fun v hv => by rw [List.mem_singleton.mp hv]; rfl) (by decide)
  rw [ev] at hlo
  exact hG s.heap [] _ 0 0 (fun k q h => by simp [xq_w] at h) ⟨fun i j p q h => by simp [xq_w] at h, fun k q h => by simp [xq_w] at h⟩ va_S.rf hlo rfl rfl
