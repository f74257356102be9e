/-! THE CHECK of an instruction, by program, and its soundness: a step of the small machine is a step of the machine. -/
theorem xq_f_oi : (.instanceMethod Lib.objectInit : Jvm.Cond) ∈ xq_ws := xq_wd_in (pl := 94) (by decide +kernel)
theorem xq_f_oc : (.code Lib.objectInit ⟨#[0xb1]⟩ 1 none : Jvm.Cond) ∈ xq_ws := xq_wd_in (pl := 95) (by decide +kernel)
theorem xq_f_cn : (.native arraycopyName : Jvm.Cond) ∈ xq_ws := xq_wd_in (pl := 489) (by decide +kernel)
theorem xq_f_cs : (.static arraycopyName : Jvm.Cond) ∈ xq_ws := xq_wd_in (pl := 488) (by decide +kernel)
theorem xq_f_ci : (.initialized "java/lang/System" : Jvm.Cond) ∈ xq_ws := xq_wd_in (pl := 85) (by decide +kernel)
theorem xq_f_l2 : (.sameMethod "[I" "java/lang/Object" "clone" "()Ljava/lang/Object;" : Jvm.Cond) ∈ xq_ws := xq_wd_in (pl := 478) (by decide +kernel)
theorem xq_f_l3 : (.native ⟨"java/lang/Object", "clone", "()Ljava/lang/Object;"⟩ : Jvm.Cond) ∈ xq_ws := xq_wd_in (pl := 479) (by decide +kernel)
theorem xq_f_l4 : (.instanceMethod ⟨"java/lang/Object", "clone", "()Ljava/lang/Object;"⟩ : Jvm.Cond) ∈ xq_ws := xq_wd_in (pl := 480) (by decide +kernel)
theorem xq_f_l5 : (.selects "[I" ⟨"[I", "clone", "()Ljava/lang/Object;"⟩ ⟨"java/lang/Object", "clone", "()Ljava/lang/Object;"⟩ : Jvm.Cond) ∈ xq_ws := xq_wd_in (pl := 481) (by decide +kernel)
theorem xq_f_ms : (.static Lib.Math.min.name : Jvm.Cond) ∈ xq_ws := xq_wd_in (pl := 485) (by decide +kernel)
theorem xq_f_mi : (.initialized "java/lang/Math" : Jvm.Cond) ∈ xq_ws := xq_wd_in (pl := 84) (by decide +kernel)
theorem xq_f_mc : (.code Lib.Math.min.name Lib.Math.min.code 2 (some .int) : Jvm.Cond) ∈ xq_ws := xq_wd_in (pl := 486) (by decide +kernel)
theorem xq_f_xs : (.static Lib.Math.max.name : Jvm.Cond) ∈ xq_ws := xq_wd_in (pl := 942) (by decide +kernel)
theorem xq_f_xc : (.code Lib.Math.max.name Lib.Math.max.code 2 (some .int) : Jvm.Cond) ∈ xq_ws := xq_wd_in (pl := 943) (by decide +kernel)
theorem xq_f_ai : (.arrayClass .int : Jvm.Cond) ∈ xq_ws := xq_wd_in (pl := 131) (by decide +kernel)
theorem xq_f_ac : (.arrayClass .char : Jvm.Cond) ∈ xq_ws := xq_wd_in (pl := 1260) (by decide +kernel)
theorem xq_f_az : (.arrayClass .boolean : Jvm.Cond) ∈ xq_ws := xq_wd_in (pl := 1261) (by decide +kernel)
theorem xq_f_l6 : (.castable "[I" "java/lang/Cloneable" : Jvm.Cond) ∈ xq_nw := by decide +kernel
/-- class names by number: 0..9 as in vwCl, then the JDK's and the law -/
def xq_cn (o : Nat) : String := match o with
  | 0 => RX0
  | 1 => RX1
  | 2 => RX2
  | 3 => RX3
  | 4 => RX4
  | 5 => RX5
  | 6 => RX6
  | 7 => RX7
  | 8 => RX8
  | 9 => RX9
  | 10 => RJ0
  | 11 => RL
  | 12 => RJ6
  | 13 => RJ9
  | _ => RJ7
/-- a link of a class's pool: class, entry, kind, two numbers. Kinds: 0 a field (class, field), 1 a method, 2 a constructor of a nest mate, 3 Object's constructor, 4 arraycopy, 5 clone, 6 a class, 7 int[], 8 int[][], 9 an int, 10 a long, 11 Math.min (0), Math.max -/
abbrev xq_X : Type := Nat × Nat × Nat × Nat × Nat
def xq_xm (MT : Nat → Option xq_M) (q : xq_X) : Prop := match q.2.2.1 with
  | 0 => ∃ c : vw_C, vwCl[q.2.2.2.1]? = some c ∧ q.2.2.2.2 < c.2.2 ∧ (c.2.1 q.2.2.2.2).1 = c.1 ∧ (Cond.fieldLink (xq_cn q.1) q.2.1 c.1 (c.2.1 q.2.2.2.2).2.1 (c.2.1 q.2.2.2.2).2.2.1) ∈ xq_ws
  | 1 => ∃ M : xq_M, MT q.2.2.2.1 = some M ∧ (Cond.methodLink (xq_cn q.1) q.2.1 M.1) ∈ xq_ws
  | 2 => ∃ M : xq_M, MT q.2.2.2.1 = some M ∧ (Cond.methodLinkNest (xq_cn q.1) q.2.1 M.1 "WhoeverKnowsSings") ∈ xq_nw
  | 3 => (Cond.methodLink (xq_cn q.1) q.2.1 Lib.objectInit) ∈ xq_ws
  | 4 => (Cond.methodLink (xq_cn q.1) q.2.1 arraycopyName) ∈ xq_ws
  | 5 => (Cond.methodLink (xq_cn q.1) q.2.1 ⟨"[I", "clone", "()Ljava/lang/Object;"⟩) ∈ xq_ws
  | 6 => ∃ c : vw_C, vwCl[q.2.2.2.1]? = some c ∧ (Cond.classLink (xq_cn q.1) q.2.1 c.1) ∈ xq_ws ∧ (Cond.instantiable c.1 c.2.2) ∈ xq_ws ∧ (Cond.initialized c.1) ∈ xq_ws
  | 7 => (Cond.classLink (xq_cn q.1) q.2.1 "[I") ∈ xq_ws
  | 8 => (Cond.classLink (xq_cn q.1) q.2.1 "[[I") ∈ xq_ws
  | 9 => (Cond.constant (xq_cn q.1) q.2.1 (Int32.ofNat q.2.2.2.1)) ∈ xq_ws
  | 10 => (Cond.constantLong (xq_cn q.1) q.2.1 (bif Nat.beq q.2.2.2.2 0 then Int64.ofNat q.2.2.2.1 else -(Int64.ofNat q.2.2.2.1))) ∈ xq_ws
  | 11 => (match q.2.2.2.1 with
    | 0 => (Cond.methodLink (xq_cn q.1) q.2.1 Lib.Math.min.name) ∈ xq_ws
    | _ => (Cond.methodLink (xq_cn q.1) q.2.1 Lib.Math.max.name) ∈ xq_ws)
  | _ => False
/-- is link pl one of class o, entry idx, of the kind, to a (and b) -/
def xq_xl (XL : List xq_X) (pl o idx k a b : Nat) : Bool := match XL[pl]? with
  | some q => Nat.beq q.1 o && (Nat.beq q.2.1 idx && (Nat.beq q.2.2.1 k && (Nat.beq q.2.2.2.1 a && Nat.beq q.2.2.2.2 b)))
  | none => false
theorem xq_xl_at {MT : Nat → Option xq_M} {XL : List xq_X} {pl o idx k a b : Nat} (hX : ∀ q ∈ XL, xq_xm MT q) (h : xq_xl XL pl o idx k a b = true) : xq_xm MT (o, idx, k, a, b) := by
  unfold xq_xl at h
  split at h
  · rename_i q hq
    obtain ⟨q1, q2, q3, q4, q5⟩ := q
    rw [Bool.and_eq_true, Bool.and_eq_true, Bool.and_eq_true, Bool.and_eq_true] at h
    obtain ⟨h1, h2, h3, h4, h5⟩ := h
    have e1 : q1 = o := Nat.eq_of_beq_eq_true h1
    have e2 : q2 = idx := Nat.eq_of_beq_eq_true h2
    have e3 : q3 = k := Nat.eq_of_beq_eq_true h3
    have e4 : q4 = a := Nat.eq_of_beq_eq_true h4
    have e5 : q5 = b := Nat.eq_of_beq_eq_true h5
    subst e1; subst e2; subst e3; subst e4; subst e5
    exact hX _ (List.mem_of_getElem? hq)
  · cases h
def xq_ok2 (MT : Nat → Option xq_M) (XL : List xq_X) (o : Nat) (ini : Bool) (ret : Option FieldType) (pc : Nat) (i : Instr) (len a b e pl : Nat) (v : Value) : Bool := match i with
  | .iconst n => Nat.beq len 1 && decide (v = .int (Int32.ofInt n))
  | .bipush n => Nat.beq len 2 && decide (v = .int (Int8.ofInt n).toInt32)
  | .sipush n => Nat.beq len 3 && decide (v = .int (Int16.ofInt n).toInt32)
  | .lconst n => Nat.beq len 1 && decide (v = .long (Int64.ofNat (n : Nat)))
  | .ldc idx => Nat.beq len 2 && (match v with
    | .int x => xq_xl XL pl o idx 9 a b && decide (x = Int32.ofNat a)
    | .ref r => Nat.blt 2 r && (Nat.blt r 16 && decide ((xq_strs[r - 3]?).map (fun q => (q.1, q.2.1)) = some (xq_cn o, idx)))
    | _ => false)
  | .ldc_w idx => Nat.beq len 3 && (match v with
    | .int x => xq_xl XL pl o idx 9 a b && decide (x = Int32.ofNat a)
    | _ => false)
  | .ldc2_w idx => Nat.beq len 3 && (match v with
    | .long x => xq_xl XL pl o idx 10 a b && decide (x = bif Nat.beq b 0 then Int64.ofNat a else -(Int64.ofNat a))
    | _ => false)
  | .aconst_null => Nat.beq len 1
  | .getstatic idx => Nat.beq len 3 && ((decide (v = .ref 1) && decide ((.fieldLinkNest (xq_cn o) idx RX8 "ABOVE" "[I" RX8 : Jvm.Cond) ∈ xq_nw)) || (decide (v = .ref 2) && decide ((.fieldLinkNest (xq_cn o) idx RX8 "IN_THREES" "[I" RX8 : Jvm.Cond) ∈ xq_nw)))
  | .iload j => Nat.beq len 2 && Nat.beq a j
  | .iload_n j => Nat.beq len 1 && Nat.beq a j
  | .lload j => Nat.beq len 2 && Nat.beq a j
  | .lload_n j => Nat.beq len 1 && Nat.beq a j
  | .aload j => Nat.beq len 2 && Nat.beq a j
  | .aload_n j => Nat.beq len 1 && Nat.beq a j
  | .istore j => Nat.beq len 2 && Nat.beq a j
  | .istore_n j => Nat.beq len 1 && Nat.beq a j
  | .lstore j => Nat.beq len 2 && Nat.beq a j
  | .lstore_n j => Nat.beq len 1 && Nat.beq a j
  | .astore j => Nat.beq len 2 && Nat.beq a j
  | .astore_n j => Nat.beq len 1 && Nat.beq a j
  | .iinc j _ => Nat.beq len 3 && Nat.beq a j
  | .ifCond _ off => Nat.beq len 3 && decide ((pc : Int) + off = (a : Int))
  | .if_icmp _ off => Nat.beq len 3 && decide ((pc : Int) + off = (a : Int))
  | .ifnull off => Nat.beq len 3 && decide ((pc : Int) + off = (a : Int))
  | .ifnonnull off => Nat.beq len 3 && decide ((pc : Int) + off = (a : Int))
  | .goto off => Nat.beq len 3 && decide ((pc : Int) + off = (a : Int))
  | .tableswitch dflt _ _ offs => decide (0 ≤ (pc : Int) + dflt) && offs.toList.all (fun o => decide (0 ≤ (pc : Int) + o))
  | .lookupswitch dflt ps => decide ((ps.toList.zip (ps.toList.drop 1)).all (fun (a, next) => a.1 < next.1) = true) && (decide (0 ≤ (pc : Int) + dflt) && ps.toList.all (fun o => decide (0 ≤ (pc : Int) + o.2)))
  | .newarray t => Nat.beq len 2 && (match t with
    | .int => Nat.beq a 0
    | .boolean => Nat.beq a 1
    | .char => Nat.beq a 2
    | _ => false)
  | .anewarray idx => Nat.beq len 3 && ((Nat.beq a 4 && xq_xl XL pl o idx 6 5 0) || (Nat.beq a 5 && xq_xl XL pl o idx 6 7 0))
  | .multianewarray idx k => Nat.beq len 4 && (Nat.beq k 2 && xq_xl XL pl o idx 8 0 0)
  | .new idx => Nat.beq len 3 && xq_xl XL pl o idx 6 a 0
  | .getfield idx => Nat.beq len 3 && xq_xl XL pl o idx 0 a b
  | .putfield idx => Nat.beq len 3 && (xq_xl XL pl o idx 0 a b && (Nat.beq e (xq_tk (xq_ty a b)) && (match vwCl[a]? with
    | some q => !(q.2.1 b).2.2.2 || (ini && Nat.beq a o)
    | none => false)))
  | .checkcast idx => Nat.beq len 3 && xq_xl XL pl o idx 7 0 0
  | .invokespecial idx => Nat.beq len 3 && (bif Nat.beq e 2 then xq_xl XL pl o idx 3 0 0 else (match MT a with
    | some M => Nat.beq M.2.2.2.2.1 2 && (Nat.beq b M.2.2.2.2.2 && (xq_xl XL pl o idx 1 a 0 || xq_xl XL pl o idx 2 a 0))
    | none => false))
  | .invokestatic idx => Nat.beq len 3 && (bif Nat.beq e 2 then xq_xl XL pl o idx 4 0 0 else bif Nat.beq e 3 then xq_xl XL pl o idx 11 a 0 else (match MT a with
    | some M => Nat.beq M.2.2.2.2.1 0 && (Nat.beq b M.2.2.2.2.2 && xq_xl XL pl o idx 1 a 0)
    | none => false))
  | .invokevirtual idx => Nat.beq len 3 && (bif Nat.beq e 20 then xq_xl XL pl o idx 5 0 0 else (match MT a with
    | some M => Nat.beq M.2.2.2.2.1 1 && (Nat.beq b M.2.2.2.2.2 && (xq_xl XL pl o idx 1 a 0 && ((Nat.beq e 10 && decide (M.1.cls = "java/lang/String")) || (match vwCl[e]? with
      | some q => decide (q.1 = M.1.cls)
      | none => false))))
    | none => false))
  | .ireturn => Nat.beq len 1 && ((Nat.beq a 0 && decide (ret = some .int)) || (Nat.beq a 1 && decide (ret = some .boolean)))
  | .lreturn => Nat.beq len 1 && decide (ret = some .long)
  | .areturn => Nat.beq len 1 && (match ret with
    | some (.object _) => true
    | some (.array _) => true
    | _ => false)
  | .return_ => Nat.beq len 1 && decide (ret = none)
  | _ => Nat.beq len 1
def xq_ok (MT : Nat → Option xq_M) (XL : List xq_X) (o : Nat) (ini : Bool) (ret : Option FieldType) (bytes : ByteArray) (pc : Nat) (I : xq_I) : Bool := match I with
  | (i, len, a, b, e, pl, v) => decide (decode bytes pc = .ok (i, len)) && xq_ok2 MT XL o ini ret pc i len a b e pl v
section XQ10
variable {p : Program} {l : Launch} {e : Env} {R : Room} {s : State} {m : MethodId} {args : Array Value} {below : List Frame} {meth : Method} {c : Code} {Q : State → Prop} {D : va_G} {cid : Nat → ClassId} {rt adV : Nat → Nat} {ro : Nat → Option xq_C} {base l0 z0 nL d : Nat} {bytes : ByteArray} {own : String} {E : Prop} {pc : Nat} {L : List (Option Value)} {st : List Value} {h : xq_H}
theorem xq_sound1 {MT : Nat → Option xq_M} {XL : List xq_X} {o : Nat} (ho : own = xq_cn o) (hX : ∀ q ∈ XL, xq_xm MT q) {F : xq_F} {ini : Bool} {ret : Option FieldType} {I : xq_I} (hB : xq_B p R s m args c bytes own nL d D cid ro rt adV base l0) (hMT : ∀ (k : Nat) (M : xq_M), MT k = some M → xq_mf M) (hF : ∀ (k : Nat) (M : xq_M), MT k = some M → ∀ (as : List Value) (h : xq_H) (r : Option Value) (h' : xq_H), F k as h = some (r, h') → xq_Mt l D cid ro rt adV base d M as h r h') (hini : ini = true → meth.name = "<init>") (hok : xq_ok MT XL o ini ret bytes pc I = true) (hst : xq_T (fun pc' L' st' h' => (h'.length ≤ l0 + R.cells ∧ xq_z h' ≤ z0 + R.slots) ∧ xq_G p l e R s m args below meth c Q D cid rt base l0 z0 nL pc' L' st' h') E (xq_step ro xq_df F pc L st h I)) : E ∨ xq_G p l e R s m args below meth c Q D cid rt base l0 z0 nL pc L st h := by
  subst ho
  obtain ⟨i, len, a, b, e', pl, v⟩ := I
  replace hok : (decide (decode bytes pc = .ok (i, len)) && xq_ok2 MT XL o ini ret pc i len a b e' pl v) = true := hok
  rw [Bool.and_eq_true] at hok
  obtain ⟨hdc0, hok⟩ := hok
  have hdc := of_decide_eq_true hdc0
  clear hdc0
  have hB0 := hB
  obtain ⟨hx, hb, hml, hown, hts, hE, hsz, hfr, hlo⟩ := hB
  have tl : ∀ {x : Bool} {k : Nat}, (Nat.beq len k && x) = true → len = k ∧ x = true := fun h => by
    rw [Bool.and_eq_true] at h
    exact ⟨Nat.eq_of_beq_eq_true h.1, h.2⟩
  cases i with
  | iconst n =>
    obtain ⟨hl0, hk0⟩ := tl hok
    clear hok
    subst hl0
    have hok := hk0
    clear hk0
    have hv := of_decide_eq_true hok
    subst hv
    refine xq_s_push (k := 1) ?_ hst
    exact fun _ w => lv_iconst hx hb hdc rfl w
  | bipush n =>
    obtain ⟨hl0, hk0⟩ := tl hok
    clear hok
    subst hl0
    have hok := hk0
    clear hk0
    have hv := of_decide_eq_true hok
    subst hv
    refine xq_s_push (k := 2) ?_ hst
    exact fun _ w => lv_bipush hx hb hdc rfl w
  | sipush n =>
    obtain ⟨hl0, hk0⟩ := tl hok
    clear hok
    subst hl0
    have hok := hk0
    clear hk0
    have hv := of_decide_eq_true hok
    subst hv
    refine xq_s_push (k := 3) ?_ hst
    exact fun _ w => lv_sipush hx hb hdc rfl w
  | lconst n =>
    obtain ⟨hl0, hk0⟩ := tl hok
    clear hok
    subst hl0
    have hok := hk0
    clear hk0
    have hv := of_decide_eq_true hok
    subst hv
    refine xq_s_push (k := 1) ?_ hst
    exact fun _ w => lv_lconst hx hb hdc rfl w
  | ldc idx =>
    obtain ⟨hl0, hk0⟩ := tl hok
    clear hok
    subst hl0
    have hok := hk0
    clear hk0
    cases v <;> try exact absurd hok (by intro q; cases q)
    · replace hok := (Bool.and_eq_true _ _).mp hok
      have hv := of_decide_eq_true hok.2
      subst hv
      refine xq_s_push (k := 2) ?_ hst
      exact fun _ w => lv_ldc hx hb hown (hts _ (xq_xl_at hX hok.1)) hdc w
    · rename_i r
      replace hok : (Nat.blt 2 r && (Nat.blt r 16 && decide ((xq_strs[r - 3]?).map (fun q => (q.1, q.2.1)) = some (xq_cn o, idx)))) = true := hok
      rw [Bool.and_eq_true, Bool.and_eq_true] at hok
      obtain ⟨k1, k2, k3⟩ := hok
      have k3 := of_decide_eq_true k3
      obtain ⟨j, hj⟩ : ∃ j : Nat, 3 + j = r := ⟨(r : Nat) - 3, Nat.add_sub_cancel' (Nat.le_of_lt_succ (Nat.succ_lt_succ (xq_blt_t k1)))⟩
      subst hj
      rw [Nat.add_sub_cancel_left] at k3
      cases hq : xq_strs[j]? with
      | none => rw [hq] at k3; cases k3
      | some q =>
        rw [hq, Option.map_some] at k3
        have k4 := Option.some.inj k3
        have k5 : q.1 = xq_cn o := congrArg Prod.fst k4
        have k6 : q.2.1 = idx := congrArg Prod.snd k4
        have hR := hE.2.2.2.2.1 j q hq
        rw [k5, k6] at hR
        refine xq_s_push (k := 2) ?_ hst
        intro _ _ _ _ _ _ _ w
        refine va_ldcS hx hb hown hR hdc ?_
        have ev : xq_v (xq_am rt base) (.ref (3 + j)) = .ref (rt (3 + j)) := by
          show Value.ref (xq_am rt base (3 + j)) = _
          rw [xq_am_lo (xq_blt_t (show Nat.blt (3 + j) 64 = true from Nat.blt_eq.mpr (Nat.lt_trans (xq_blt_t k2) (by decide))))]
        rw [ev] at w
        exact w
  | ldc_w idx =>
    obtain ⟨hl0, hk0⟩ := tl hok
    clear hok
    subst hl0
    have hok := hk0
    clear hk0
    cases v <;> try exact absurd hok (by intro q; cases q)
    replace hok := (Bool.and_eq_true _ _).mp hok
    have hv := of_decide_eq_true hok.2
    subst hv
    refine xq_s_push (k := 3) ?_ hst
    exact fun _ w => lv_ldcw hx hb hown (hts _ (xq_xl_at hX hok.1)) hdc w
  | ldc2_w idx =>
    obtain ⟨hl0, hk0⟩ := tl hok
    clear hok
    subst hl0
    have hok := hk0
    clear hk0
    cases v <;> try exact absurd hok (by intro q; cases q)
    replace hok := (Bool.and_eq_true _ _).mp hok
    have hv := of_decide_eq_true hok.2
    subst hv
    refine xq_s_push (k := 3) ?_ hst
    exact fun _ w => lv_ldc2 hx hb hown (hts _ (xq_xl_at hX hok.1)) hdc w
  | aconst_null =>
    have hl := Nat.eq_of_beq_eq_true hok
    subst hl
    refine xq_s_push (v := .null) (k := 1) ?_ hst
    exact fun _ w => lv_null hx hb hdc w
  | getstatic idx =>
    obtain ⟨hl0, hk0⟩ := tl hok
    clear hok
    subst hl0
    have hok := hk0
    clear hk0
    rw [Bool.or_eq_true, Bool.and_eq_true, Bool.and_eq_true] at hok
    rcases hok with ⟨k1, k2⟩ | ⟨k1, k2⟩
    · have hv := of_decide_eq_true k1
      subst hv
      refine xq_s_push (k := 3) ?_ hst
      exact fun hS w => va_getsN hx hb hE.2.2.1 hS hown (va_Nw.use rfl (hE.2.2.2.2.2.2.1 _ (of_decide_eq_true k2))) (fun x hx => hx) hdc w
    · have hv := of_decide_eq_true k1
      subst hv
      refine xq_s_push (k := 3) ?_ hst
      exact fun hS w => va_getsN hx hb hE.2.2.2.1 hS hown (va_Nw.use rfl (hE.2.2.2.2.2.2.1 _ (of_decide_eq_true k2))) (fun x hx => hx) hdc w
  | iload j =>
    obtain ⟨hl0, hk0⟩ := tl hok
    clear hok
    subst hl0
    have hok := hk0
    clear hk0
    have ha := Nat.eq_of_beq_eq_true hok
    subst ha
    dsimp only [xq_step] at hst
    split at hst
    · rename_i x hx0
      obtain ⟨hz, kk⟩ := hst
      exact Or.inr fun H locs ls cells slots hP hD hS hL e1 e2 => lv_iload hx hb hdc (xq_ld_at hL hx0) (kk H locs ls cells slots hP hD hS hL e1 e2)
    · exact hst.elim
  | iload_n j =>
    obtain ⟨hl0, hk0⟩ := tl hok
    clear hok
    subst hl0
    have hok := hk0
    clear hk0
    have ha := Nat.eq_of_beq_eq_true hok
    subst ha
    dsimp only [xq_step] at hst
    split at hst
    · rename_i x hx0
      obtain ⟨hz, kk⟩ := hst
      exact Or.inr fun H locs ls cells slots hP hD hS hL e1 e2 => lv_iload_n hx hb hdc rfl (xq_ld_at hL hx0) (kk H locs ls cells slots hP hD hS hL e1 e2)
    · exact hst.elim
  | lload j =>
    obtain ⟨hl0, hk0⟩ := tl hok
    clear hok
    subst hl0
    have hok := hk0
    clear hk0
    have ha := Nat.eq_of_beq_eq_true hok
    subst ha
    dsimp only [xq_step] at hst
    split at hst
    · rename_i x hx0
      obtain ⟨hz, kk⟩ := hst
      exact Or.inr fun H locs ls cells slots hP hD hS hL e1 e2 => lv_lload hx hb hdc (xq_ld_at hL hx0) (kk H locs ls cells slots hP hD hS hL e1 e2)
    · exact hst.elim
  | lload_n j =>
    obtain ⟨hl0, hk0⟩ := tl hok
    clear hok
    subst hl0
    have hok := hk0
    clear hk0
    have ha := Nat.eq_of_beq_eq_true hok
    subst ha
    dsimp only [xq_step] at hst
    split at hst
    · rename_i x hx0
      obtain ⟨hz, kk⟩ := hst
      exact Or.inr fun H locs ls cells slots hP hD hS hL e1 e2 => lv_lload_n hx hb hdc rfl (xq_ld_at hL hx0) (kk H locs ls cells slots hP hD hS hL e1 e2)
    · exact hst.elim
  | aload j =>
    obtain ⟨hl0, hk0⟩ := tl hok
    clear hok
    subst hl0
    have hok := hk0
    clear hk0
    have ha := Nat.eq_of_beq_eq_true hok
    subst ha
    dsimp only [xq_step] at hst
    split at hst
    · rename_i x hx0
      obtain ⟨hz, kk⟩ := hst
      exact Or.inr fun H locs ls cells slots hP hD hS hL e1 e2 => lv_aload hx hb hdc (xq_ld_at hL hx0) (kk H locs ls cells slots hP hD hS hL e1 e2)
    · rename_i hx0
      obtain ⟨hz, kk⟩ := hst
      exact Or.inr fun H locs ls cells slots hP hD hS hL e1 e2 => lv_aloadN hx hb hdc (xq_ld_at hL hx0) (kk H locs ls cells slots hP hD hS hL e1 e2)
    · exact hst.elim
  | aload_n j =>
    obtain ⟨hl0, hk0⟩ := tl hok
    clear hok
    subst hl0
    have hok := hk0
    clear hk0
    have ha := Nat.eq_of_beq_eq_true hok
    subst ha
    dsimp only [xq_step] at hst
    split at hst
    · rename_i x hx0
      obtain ⟨hz, kk⟩ := hst
      exact Or.inr fun H locs ls cells slots hP hD hS hL e1 e2 => lv_aload_n hx hb hdc rfl (xq_ld_at hL hx0) (kk H locs ls cells slots hP hD hS hL e1 e2)
    · rename_i hx0
      obtain ⟨hz, kk⟩ := hst
      exact Or.inr fun H locs ls cells slots hP hD hS hL e1 e2 => lv_aload_nN hx hb hdc rfl (xq_ld_at hL hx0) (kk H locs ls cells slots hP hD hS hL e1 e2)
    · exact hst.elim
  | istore j =>
    obtain ⟨hl0, hk0⟩ := tl hok
    clear hok
    subst hl0
    have hok := hk0
    clear hk0
    have ha := Nat.eq_of_beq_eq_true hok
    subst ha
    dsimp only [xq_step] at hst
    split at hst
    · refine xq_s_st1 (k := 2) ?_ hst
      exact fun hl hn w => lv_istore hx hb hdc hl hn rfl w
    · exact hst.elim
  | istore_n j =>
    obtain ⟨hl0, hk0⟩ := tl hok
    clear hok
    subst hl0
    have hok := hk0
    clear hk0
    have ha := Nat.eq_of_beq_eq_true hok
    subst ha
    dsimp only [xq_step] at hst
    split at hst
    · refine xq_s_st1 (k := 1) ?_ hst
      exact fun hl hn w => lv_istore_n hx hb hdc rfl hl hn rfl w
    · exact hst.elim
  | lstore j =>
    obtain ⟨hl0, hk0⟩ := tl hok
    clear hok
    subst hl0
    have hok := hk0
    clear hk0
    have ha := Nat.eq_of_beq_eq_true hok
    subst ha
    dsimp only [xq_step] at hst
    split at hst
    · refine xq_s_st2 (k := 2) ?_ hst
      exact fun hl hn w => lv_lstore hx hb hdc hl hn rfl w
    · exact hst.elim
  | lstore_n j =>
    obtain ⟨hl0, hk0⟩ := tl hok
    clear hok
    subst hl0
    have hok := hk0
    clear hk0
    have ha := Nat.eq_of_beq_eq_true hok
    subst ha
    dsimp only [xq_step] at hst
    split at hst
    · refine xq_s_st2 (k := 1) ?_ hst
      exact fun hl hn w => lv_lstore_n hx hb hdc rfl hl hn rfl w
    · exact hst.elim
  | astore j =>
    obtain ⟨hl0, hk0⟩ := tl hok
    clear hok
    subst hl0
    have hok := hk0
    clear hk0
    have ha := Nat.eq_of_beq_eq_true hok
    subst ha
    dsimp only [xq_step] at hst
    split at hst
    · refine xq_s_st1 (k := 2) ?_ hst
      exact fun hl hn w => lv_astore hx hb hdc hl hn rfl w
    · refine xq_s_st1 (k := 2) ?_ hst
      exact fun hl hn w => lv_astoreN hx hb hdc hl hn rfl w
    · exact hst.elim
  | astore_n j =>
    obtain ⟨hl0, hk0⟩ := tl hok
    clear hok
    subst hl0
    have hok := hk0
    clear hk0
    have ha := Nat.eq_of_beq_eq_true hok
    subst ha
    dsimp only [xq_step] at hst
    split at hst
    · refine xq_s_st1 (k := 1) ?_ hst
      exact fun hl hn w => lv_astore_n hx hb hdc rfl hl hn rfl w
    · refine xq_s_st1 (k := 1) ?_ hst
      exact fun hl hn w => lv_astore_nN hx hb hdc rfl hl hn rfl w
    · exact hst.elim
  | iinc j n =>
    obtain ⟨hl0, hk0⟩ := tl hok
    clear hok
    subst hl0
    have hok := hk0
    clear hk0
    have ha := Nat.eq_of_beq_eq_true hok
    subst ha
    exact xq_s_inc hx hb hdc hst
  | iadd =>
    have hl := Nat.eq_of_beq_eq_true hok
    subst hl
    refine xq_s_i2 ?_ hst
    exact fun w => lv_iadd hx hb hdc w
  | isub =>
    have hl := Nat.eq_of_beq_eq_true hok
    subst hl
    refine xq_s_i2 ?_ hst
    exact fun w => lv_isub hx hb hdc w
  | imul =>
    have hl := Nat.eq_of_beq_eq_true hok
    subst hl
    refine xq_s_i2 ?_ hst
    exact fun w => lv_imul hx hb hdc w
  | iand =>
    have hl := Nat.eq_of_beq_eq_true hok
    subst hl
    refine xq_s_i2 ?_ hst
    exact fun w => lv_iand hx hb hdc w
  | ior =>
    have hl := Nat.eq_of_beq_eq_true hok
    subst hl
    refine xq_s_i2 ?_ hst
    exact fun w => lv_ior hx hb hdc w
  | ixor =>
    have hl := Nat.eq_of_beq_eq_true hok
    subst hl
    refine xq_s_i2 ?_ hst
    exact fun w => lv_ixor hx hb hdc w
  | ishl =>
    have hl := Nat.eq_of_beq_eq_true hok
    subst hl
    refine xq_s_i2 ?_ hst
    exact fun w => lv_ishl hx hb hdc w
  | ishr =>
    have hl := Nat.eq_of_beq_eq_true hok
    subst hl
    refine xq_s_i2 ?_ hst
    exact fun w => lv_ishr hx hb hdc w
  | iushr =>
    have hl := Nat.eq_of_beq_eq_true hok
    subst hl
    refine xq_s_i2 ?_ hst
    exact fun w => lv_iushr hx hb hdc rfl w
  | idiv =>
    have hl := Nat.eq_of_beq_eq_true hok
    subst hl
    dsimp only [xq_step] at hst
    split at hst
    · refine xq_s_div (o := none) ?_ hst
      exact fun h0 w => lv_idiv hx hb hdc h0 w
    · exact hst.elim
  | irem =>
    have hl := Nat.eq_of_beq_eq_true hok
    subst hl
    dsimp only [xq_step] at hst
    split at hst
    · refine xq_s_div (o := none) ?_ hst
      exact fun h0 w => lv_irem hx hb hdc h0 w
    · exact hst.elim
  | ldiv =>
    have hl := Nat.eq_of_beq_eq_true hok
    subst hl
    dsimp only [xq_step] at hst
    split at hst
    · refine xq_s_ldiv ?_ hst
      exact fun h0 w => lv_ldiv hx hb hdc h0 w
    · exact hst.elim
  | lrem =>
    have hl := Nat.eq_of_beq_eq_true hok
    subst hl
    dsimp only [xq_step] at hst
    split at hst
    · refine xq_s_ldiv ?_ hst
      exact fun h0 w => lv_lrem hx hb hdc h0 w
    · exact hst.elim
  | ineg =>
    have hl := Nat.eq_of_beq_eq_true hok
    subst hl
    refine xq_s_i1 (fun _ => rfl) ?_ hst
    exact fun w => lv_ineg hx hb hdc w
  | i2l =>
    have hl := Nat.eq_of_beq_eq_true hok
    subst hl
    refine xq_s_i1 (fun _ => rfl) ?_ hst
    exact fun w => lv_i2l hx hb hdc rfl w
  | i2b =>
    have hl := Nat.eq_of_beq_eq_true hok
    subst hl
    refine xq_s_i1 (fun _ => rfl) ?_ hst
    exact fun w => lv_i2b hx hb hdc rfl w
  | i2s =>
    have hl := Nat.eq_of_beq_eq_true hok
    subst hl
    refine xq_s_i1 (fun _ => rfl) ?_ hst
    exact fun w => lv_i2s hx hb hdc rfl w
  | l2i =>
    have hl := Nat.eq_of_beq_eq_true hok
    subst hl
    dsimp only [xq_step] at hst
    split at hst
    · obtain ⟨hz, kk⟩ := hst
      exact Or.inr fun H locs ls cells slots hP hD hS hL e1 e2 => lv_l2i hx hb hdc rfl (kk H locs ls cells slots hP hD hS hL e1 e2)
    · exact hst.elim
  | ladd =>
    have hl := Nat.eq_of_beq_eq_true hok
    subst hl
    refine xq_s_l2 (fun _ _ => rfl) ?_ hst
    exact fun w => lv_ladd hx hb hdc w
  | lmul =>
    have hl := Nat.eq_of_beq_eq_true hok
    subst hl
    refine xq_s_l2 (fun _ _ => rfl) ?_ hst
    exact fun w => lv_lmul hx hb hdc w
  | land =>
    have hl := Nat.eq_of_beq_eq_true hok
    subst hl
    refine xq_s_l2 (fun _ _ => rfl) ?_ hst
    exact fun w => lv_land hx hb hdc w
  | lcmp =>
    have hl := Nat.eq_of_beq_eq_true hok
    subst hl
    refine xq_s_l2 (fun _ _ => rfl) ?_ hst
    exact fun w => W.lcmp hx hb hdc w
  | dup =>
    have hl := Nat.eq_of_beq_eq_true hok
    subst hl
    dsimp only [xq_step] at hst
    split at hst
    · obtain ⟨hz, kk⟩ := hst
      exact Or.inr fun H locs ls cells slots hP hD hS hL e1 e2 => lv_dup hx hb hdc rfl (kk H locs ls cells slots hP hD hS hL e1 e2)
    · obtain ⟨hz, kk⟩ := hst
      exact Or.inr fun H locs ls cells slots hP hD hS hL e1 e2 => lv_dup hx hb hdc rfl (kk H locs ls cells slots hP hD hS hL e1 e2)
    · exact hst.elim
  | dup2 =>
    have hl := Nat.eq_of_beq_eq_true hok
    subst hl
    dsimp only [xq_step] at hst
    split at hst
    · obtain ⟨hz, kk⟩ := hst
      exact Or.inr fun H locs ls cells slots hP hD hS hL e1 e2 => lv_dup2_11 hx hb hdc rfl rfl (kk H locs ls cells slots hP hD hS hL e1 e2)
    · obtain ⟨hz, kk⟩ := hst
      exact Or.inr fun H locs ls cells slots hP hD hS hL e1 e2 => lv_dup2_11 hx hb hdc rfl rfl (kk H locs ls cells slots hP hD hS hL e1 e2)
    · exact hst.elim
  | pop =>
    have hl := Nat.eq_of_beq_eq_true hok
    subst hl
    dsimp only [xq_step] at hst
    split at hst
    · obtain ⟨hz, kk⟩ := hst
      exact Or.inr fun H locs ls cells slots hP hD hS hL e1 e2 => lv_pop hx hb hdc rfl (kk H locs ls cells slots hP hD hS hL e1 e2)
    · obtain ⟨hz, kk⟩ := hst
      exact Or.inr fun H locs ls cells slots hP hD hS hL e1 e2 => lv_pop hx hb hdc rfl (kk H locs ls cells slots hP hD hS hL e1 e2)
    · obtain ⟨hz, kk⟩ := hst
      exact Or.inr fun H locs ls cells slots hP hD hS hL e1 e2 => lv_pop hx hb hdc rfl (kk H locs ls cells slots hP hD hS hL e1 e2)
    · exact hst.elim
  | ifCond k off =>
    obtain ⟨hl0, hk0⟩ := tl hok
    clear hok
    subst hl0
    have hok := hk0
    clear hk0
    have ht := of_decide_eq_true hok
    dsimp only [xq_step] at hst
    split at hst
    · rename_i x t
      cases k
      · refine xq_s_br (C := x = 0) (by simp [xq_cmp]) ?_ hst
        exact fun kt kf => lv_if_eq hx hb hdc ht kt kf
      · refine xq_s_br (C := ¬ x = 0) (by simp [xq_cmp]) ?_ hst
        exact fun kt kf => lv_if_ne hx hb hdc ht kt (fun q => kf (fun z => z q))
      · refine xq_s_br (C := x < 0) (by simp [xq_cmp]) ?_ hst
        exact fun kt kf => lv_if_lt hx hb hdc ht kt kf
      · refine xq_s_br (C := 0 ≤ x) (by simp [xq_cmp]) ?_ hst
        exact fun kt kf => lv_if_ge hx hb hdc ht kt kf
      · refine xq_s_br (C := 0 < x) (by simp [xq_cmp]) ?_ hst
        exact fun kt kf => lv_if_gt hx hb hdc ht kt kf
      · refine xq_s_br (C := x ≤ 0) (by simp [xq_cmp]) ?_ hst
        exact fun kt kf => lv_if_le hx hb hdc ht kt kf
    · exact hst.elim
  | if_icmp k off =>
    obtain ⟨hl0, hk0⟩ := tl hok
    clear hok
    subst hl0
    have hok := hk0
    clear hk0
    have ht := of_decide_eq_true hok
    dsimp only [xq_step] at hst
    split at hst
    · rename_i y x t
      cases k
      · refine xq_s_br (C := x = y) (by simp [xq_cmp]) ?_ hst
        exact fun kt kf => lv_icmp_eq hx hb hdc ht kt kf
      · refine xq_s_br (C := ¬ x = y) (by simp [xq_cmp]) ?_ hst
        exact fun kt kf => lv_icmp_ne hx hb hdc ht kt (fun q => kf (fun z => z q))
      · refine xq_s_br (C := x < y) (by simp [xq_cmp]) ?_ hst
        exact fun kt kf => lv_icmp_lt hx hb hdc ht kt kf
      · refine xq_s_br (C := y ≤ x) (by simp [xq_cmp]) ?_ hst
        exact fun kt kf => lv_icmp_ge hx hb hdc ht kt kf
      · refine xq_s_br (C := y < x) (by simp [xq_cmp]) ?_ hst
        exact fun kt kf => lv_icmp_gt hx hb hdc ht kt kf
      · refine xq_s_br (C := x ≤ y) (by simp [xq_cmp]) ?_ hst
        exact fun kt kf => lv_icmp_le hx hb hdc ht kt kf
    · exact hst.elim
  | ifnull off =>
    obtain ⟨hl0, hk0⟩ := tl hok
    clear hok
    subst hl0
    have hok := hk0
    clear hk0
    have ht := of_decide_eq_true hok
    dsimp only [xq_step] at hst
    split at hst
    · obtain ⟨hz, kk⟩ := hst
      exact Or.inr fun H locs ls cells slots hP hD hS hL e1 e2 => lv_ifnull hx hb hdc (kk H locs ls cells slots hP hD hS hL e1 e2)
    · obtain ⟨hz, kk⟩ := hst
      exact Or.inr fun H locs ls cells slots hP hD hS hL e1 e2 => lv_ifnullN hx hb hdc ht (kk H locs ls cells slots hP hD hS hL e1 e2)
    · exact hst.elim
  | ifnonnull off =>
    obtain ⟨hl0, hk0⟩ := tl hok
    clear hok
    subst hl0
    have hok := hk0
    clear hk0
    have ht := of_decide_eq_true hok
    dsimp only [xq_step] at hst
    split at hst
    · obtain ⟨hz, kk⟩ := hst
      exact Or.inr fun H locs ls cells slots hP hD hS hL e1 e2 => lv_ifnonnull hx hb hdc ht (kk H locs ls cells slots hP hD hS hL e1 e2)
    · obtain ⟨hz, kk⟩ := hst
      exact Or.inr fun H locs ls cells slots hP hD hS hL e1 e2 => lv_ifnonnullN hx hb hdc (kk H locs ls cells slots hP hD hS hL e1 e2)
    · exact hst.elim
  | goto off =>
    obtain ⟨hl0, hk0⟩ := tl hok
    clear hok
    subst hl0
    have hok := hk0
    clear hk0
    have ht := of_decide_eq_true hok
    obtain ⟨hz, kk⟩ := hst
    exact Or.inr fun H locs ls cells slots hP hD hS hL e1 e2 => lv_goto hx hb hdc ht (kk H locs ls cells slots hP hD hS hL e1 e2)
  | tableswitch dflt lo hi offs =>
    replace hok : (decide (0 ≤ (pc : Int) + dflt) && offs.toList.all (fun o => decide (0 ≤ (pc : Int) + o))) = true := hok
    rw [Bool.and_eq_true, List.all_eq_true] at hok
    exact xq_s_tab hx hb hdc (of_decide_eq_true hok.1) (fun o ho => of_decide_eq_true (hok.2 o ho)) hst
  | lookupswitch dflt ps =>
    have k1 := (Bool.and_eq_true _ _).mp hok
    have k2 := (Bool.and_eq_true _ _).mp k1.2
    exact xq_s_lsw hx hb hdc (of_decide_eq_true k1.1) (of_decide_eq_true k2.1) (fun o ho => of_decide_eq_true (List.all_eq_true.mp k2.2 o ho)) hst
  | iaload =>
    have hl := Nat.eq_of_beq_eq_true hok
    subst hl
    exact xq_s_ald (k := 0) hB0 (fun hP hw hin w => va_iald hx hb hE.1 hP _ 0 hw rfl hin hdc w) (fun _ => hdc) hst
  | baload =>
    have hl := Nat.eq_of_beq_eq_true hok
    subst hl
    exact xq_s_ald (k := 1) hB0 (fun hP hw hin w => va_zald hx hb hE.1 hP _ 1 hw rfl hin hdc w) (fun q => absurd q (by decide)) hst
  | caload =>
    have hl := Nat.eq_of_beq_eq_true hok
    subst hl
    exact xq_s_ald (k := 2) hB0 (fun hP hw hin w => va_cald hx hb hE.1 hP _ 2 hw rfl hin hdc w) (fun q => absurd q (by decide)) hst
  | aaload =>
    have hl := Nat.eq_of_beq_eq_true hok
    subst hl
    exact xq_s_aldr hB0 hdc hst
  | iastore =>
    have hl := Nat.eq_of_beq_eq_true hok
    subst hl
    exact xq_s_asti (k := 0) (nar := fun x => x) (fun hP hD hS hw hin w => va_iast hx hb hE.1 hP hD hS _ 0 hw rfl hin hdc w) hst
  | bastore =>
    have hl := Nat.eq_of_beq_eq_true hok
    subst hl
    exact xq_s_asti (k := 1) (nar := fun x => vp_nar .boolean x) (fun hP hD hS hw hin w => va_zast hx hb hE.1 hP hD hS _ 1 hw rfl hin hdc w) hst
  | castore =>
    have hl := Nat.eq_of_beq_eq_true hok
    subst hl
    exact xq_s_asti (k := 2) (nar := fun x => vp_nar .char x) (fun hP hD hS hw hin w => va_cast hx hb hE.1 hP hD hS _ 2 hw rfl hin hdc w) hst
  | aastore =>
    have hl := Nat.eq_of_beq_eq_true hok
    subst hl
    exact xq_s_astr hB0 hdc hst
  | arraylength =>
    have hl := Nat.eq_of_beq_eq_true hok
    subst hl
    exact xq_s_alen hB0 hdc hst
  | newarray t =>
    obtain ⟨hl0, hk0⟩ := tl hok
    clear hok
    subst hl0
    have hok := hk0
    clear hk0
    cases t <;> try exact absurd hok (by intro q; cases q)
    · have ha := Nat.eq_of_beq_eq_true hok
      subst ha
      exact xq_s_newi (ty := .boolean) hB0 rfl rfl (fun _ _ => rfl) (by decide) xq_f_az hdc hst
    · have ha := Nat.eq_of_beq_eq_true hok
      subst ha
      exact xq_s_newi (ty := .char) hB0 rfl rfl (fun _ _ => rfl) (by decide) xq_f_ac hdc hst
    · have ha := Nat.eq_of_beq_eq_true hok
      subst ha
      exact xq_s_newi (ty := .int) hB0 rfl rfl (fun _ _ => rfl) (by decide) xq_f_ai hdc hst
  | anewarray idx =>
    obtain ⟨hl0, hk0⟩ := tl hok
    clear hok
    subst hl0
    have hok := hk0
    clear hk0
    rw [Bool.or_eq_true, Bool.and_eq_true, Bool.and_eq_true] at hok
    rcases hok with ⟨k1, k2⟩ | ⟨k1, k2⟩
    · have ha := Nat.eq_of_beq_eq_true k1
      subst ha
      obtain ⟨c0, h1, h2, -, -⟩ := xq_xl_at hX k2
      cases h1
      exact xq_s_newr (C := RX5) hB0 rfl hE.2.2.2.2.2.2.2.1 h2 hdc hst
    · have ha := Nat.eq_of_beq_eq_true k1
      subst ha
      obtain ⟨c0, h1, h2, -, -⟩ := xq_xl_at hX k2
      cases h1
      exact xq_s_newr (C := RX7) hB0 rfl hE.2.2.2.2.2.2.2.2.1 h2 hdc hst
  | multianewarray idx k =>
    obtain ⟨hl0, hk0⟩ := tl hok
    clear hok
    subst hl0
    have hok := hk0
    clear hk0
    rw [Bool.and_eq_true] at hok
    have hk := Nat.eq_of_beq_eq_true hok.1
    subst hk
    exact xq_s_newg hB0 (xq_xl_at hX hok.2) xq_f_ai hdc hst
  | new idx =>
    obtain ⟨hl0, hk0⟩ := tl hok
    clear hok
    subst hl0
    have hok := hk0
    clear hk0
    obtain ⟨q, h1, h2, h3, h4⟩ := xq_xl_at hX hok
    exact xq_s_new hB0 h1 h2 h3 h4 hdc hst
  | getfield idx =>
    obtain ⟨hl0, hk0⟩ := tl hok
    clear hok
    subst hl0
    have hok := hk0
    clear hk0
    obtain ⟨q, h1, h2, h3, h4⟩ := xq_xl_at hX hok
    exact xq_s_get hB0 h1 h2 h3 h4 hdc hst
  | putfield idx =>
    obtain ⟨hl0, hk0⟩ := tl hok
    clear hok
    subst hl0
    have hok := hk0
    clear hk0
    replace hok := (Bool.and_eq_true _ _).mp hok
    obtain ⟨q, h1, h2, h3, h4⟩ := xq_xl_at hX hok.1
    have k2 := (Bool.and_eq_true _ _).mp hok.2
    have he := Nat.eq_of_beq_eq_true k2.1
    subst he
    have h1 : vwCl[a]? = some q := h1
    have k3 := k2.2
    rw [h1] at k3
    refine xq_s_put hB0 h1 h2 h3 h4 (fun hf => ?_) hdc hst
    have h5 : (!(q.2.1 b).2.2.2 || (ini && Nat.beq a o)) = true := k3
    have hf : (q.2.1 b).2.2.2 = true := hf
    rw [hf, Bool.not_true, Bool.false_or, Bool.and_eq_true] at h5
    have hao := Nat.eq_of_beq_eq_true h5.2
    subst hao
    refine ⟨hini h5.1, ?_⟩
    have : ∀ (a : Nat) (q : vw_C), vwCl[a]? = some q → q.1 = xq_cn a := by
      intro a q h
      match a, h with
      | 0, h => cases h; rfl
      | 1, h => cases h; rfl
      | 2, h => cases h; rfl
      | 3, h => cases h; rfl
      | 4, h => cases h; rfl
      | 5, h => cases h; rfl
      | 6, h => cases h; rfl
      | 7, h => cases h; rfl
      | 8, h => cases h; rfl
      | 9, h => cases h; rfl
      | k + 10, h => simp [vwCl] at h
    exact this a q h1
  | checkcast idx =>
    obtain ⟨hl0, hk0⟩ := tl hok
    clear hok
    subst hl0
    have hok := hk0
    clear hk0
    exact xq_s_cast hB0 (xq_xl_at hX hok) hdc hst
  | invokespecial idx =>
    obtain ⟨hl0, hk0⟩ := tl hok
    clear hok
    subst hl0
    have hok := hk0
    clear hk0
    dsimp only [xq_step] at hst
    cases he : Nat.beq e' 2 with
    | true =>
      rw [he, cond_true] at hok hst
      exact xq_s_obj hB0 (xq_xl_at hX hok) xq_f_oi xq_f_oc hdc hst
    | false =>
      rw [he, cond_false] at hok hst
      cases hm : MT a with
      | none => rw [hm] at hok; exact absurd hok (by intro q; cases q)
      | some M =>
        rw [hm] at hok
        replace hok : (Nat.beq M.2.2.2.2.1 2 && (Nat.beq b M.2.2.2.2.2 && (xq_xl XL pl o idx 1 a 0 || xq_xl XL pl o idx 2 a 0))) = true := hok
        rw [Bool.and_eq_true, Bool.and_eq_true, Bool.or_eq_true] at hok
        have hbn := Nat.eq_of_beq_eq_true hok.2.1
        subst hbn
        refine xq_s_call2 hB0 (hMT a M hm) (Nat.eq_of_beq_eq_true hok.1) ?_ (hF a M hm) hdc hst
        rcases hok.2.2 with q | q
        · obtain ⟨M', g1, g2⟩ := xq_xl_at hX q
          cases hm.symm.trans g1
          exact Or.inl g2
        · obtain ⟨M', g1, g2⟩ := xq_xl_at hX q
          cases hm.symm.trans g1
          exact Or.inr g2
  | invokestatic idx =>
    obtain ⟨hl0, hk0⟩ := tl hok
    clear hok
    subst hl0
    have hok := hk0
    clear hk0
    dsimp only [xq_step] at hst
    cases he : Nat.beq e' 2 with
    | true =>
      rw [he, cond_true] at hok hst
      exact xq_s_copy hB0 (xq_xl_at hX hok) xq_f_cn xq_f_cs xq_f_ci hdc hst
    | false =>
      rw [he, cond_false] at hok hst
      cases he3 : Nat.beq e' 3 with
      | true =>
        rw [he3, cond_true] at hok hst
        rcases a with _ | a
        · exact xq_s_min hB0 (xq_xl_at hX hok) xq_f_ms xq_f_mi xq_f_mc hdc hst
        · exact xq_s_max hB0 (xq_xl_at hX hok) xq_f_xs xq_f_mi xq_f_xc hdc hst
      | false =>
      rw [he3, cond_false] at hok hst
      cases hm : MT a with
      | none => rw [hm] at hok; exact absurd hok (by intro q; cases q)
      | some M =>
        rw [hm] at hok
        replace hok : (Nat.beq M.2.2.2.2.1 0 && (Nat.beq b M.2.2.2.2.2 && xq_xl XL pl o idx 1 a 0)) = true := hok
        rw [Bool.and_eq_true, Bool.and_eq_true] at hok
        have hbn := Nat.eq_of_beq_eq_true hok.2.1
        subst hbn
        obtain ⟨M', g1, g2⟩ := xq_xl_at hX hok.2.2
        cases hm.symm.trans g1
        exact xq_s_call0 hB0 (hMT a M hm) (Nat.eq_of_beq_eq_true hok.1) g2 (hF a M hm) hdc hst
  | invokevirtual idx =>
    obtain ⟨hl0, hk0⟩ := tl hok
    clear hok
    subst hl0
    have hok := hk0
    clear hk0
    dsimp only [xq_step] at hst
    cases he : Nat.beq e' 20 with
    | true =>
      rw [he, cond_true] at hok hst
      exact xq_s_clone hB0 (xq_xl_at hX hok) xq_f_l2 xq_f_l3 xq_f_l4 xq_f_l5 xq_f_l6 hdc hst
    | false =>
      rw [he, cond_false] at hok hst
      cases hrc : xq_recv h e' b st with
      | false => rw [hrc] at hst; exact hst.elim
      | true =>
        rw [hrc, cond_true] at hst
        cases hm : MT a with
        | none => rw [hm] at hok; exact absurd hok (by intro q; cases q)
        | some M =>
          rw [hm] at hok
          replace hok : (Nat.beq M.2.2.2.2.1 1 && (Nat.beq b M.2.2.2.2.2 && (xq_xl XL pl o idx 1 a 0 && ((Nat.beq e' 10 && decide (M.1.cls = "java/lang/String")) || (match vwCl[e']? with | some q => decide (q.1 = M.1.cls) | none => false))))) = true := hok
          rw [Bool.and_eq_true, Bool.and_eq_true, Bool.and_eq_true, Bool.or_eq_true] at hok
          have hbn := Nat.eq_of_beq_eq_true hok.2.1
          subst hbn
          obtain ⟨M', g1, g2⟩ := xq_xl_at hX hok.2.2.1
          cases hm.symm.trans g1
          refine xq_s_call1 hB0 (hMT a M hm) (Nat.eq_of_beq_eq_true hok.1) g2 ?_ (hF a M hm) hdc hrc hst
          rcases hok.2.2.2 with q | q
          · rw [Bool.and_eq_true] at q
            exact Or.inl ⟨Nat.eq_of_beq_eq_true q.1, of_decide_eq_true q.2⟩
          · cases hv : vwCl[e']? with
            | none => rw [hv] at q; cases q
            | some q0 => rw [hv] at q; exact Or.inr ⟨q0, rfl, of_decide_eq_true q⟩
  | ireturn =>
    dsimp only [xq_step] at hst
    split at hst
    · rename_i x
      cases hq : (Nat.beq a 0 || decide (x = 0) || decide (x = 1)) with
      | false => rw [hq] at hst; exact hst.elim
      | true => rw [hq] at hst; exact Or.inl hst
    · exact hst.elim
  | lreturn =>
    dsimp only [xq_step] at hst
    split at hst
    · exact Or.inl hst
    · exact hst.elim
  | areturn =>
    dsimp only [xq_step] at hst
    split at hst
    · exact Or.inl hst
    · exact Or.inl hst
    · exact hst.elim
  | return_ =>
    dsimp only [xq_step] at hst
    split at hst
    · exact Or.inl hst
    · exact hst.elim
  | _ => exact hst.elim
end XQ10
