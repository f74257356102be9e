/-! THE SMALL MACHINE. A pure reader of the bytecode over pure data: cells are numbered, a reference is a number; numbers below 64 are cells that were there before (the script, two constant rows, the texts), 64 and on the cells that the law's run makes, in the order of their making.
A cell: an array (kind, length, ints or references), or an object (number in vwCl, fields). Kinds of arrays: 0 int, 1 boolean, 2 char, 3 int[], 4 Sheet, 5 Text. -/
abbrev xq_C : Type := (Nat × Nat × ((Nat → Int32) ⊕ (Nat → Option Nat))) ⊕ (Nat × List Value)
abbrev xq_H : Type := List xq_C
/-- an instruction, its length, four numbers (what it means by program: a place, a class, a field, a method, a jump; the last one the place of its link word), a constant -/
abbrev xq_I : Type := Instr × Nat × Nat × Nat × Nat × Nat × Value
abbrev xq_S : Type := Nat × List (Option Value) × List Value × xq_H
abbrev xq_R : Type := Option Value × xq_H
abbrev xq_F : Type := Nat → List Value → xq_H → Option xq_R
abbrev xq_O : Type := Option (xq_S ⊕ xq_R)
def xq_at (ro : Nat → Option xq_C) (h : xq_H) (r : Nat) : Option xq_C := bif Nat.blt r 64 then ro r else h[r - 64]?
/-- the size of a cell, of all cells -/
def xq_zc : xq_C → Nat
  | .inl a => a.2.1
  | .inr o => o.2.length
def xq_z : xq_H → Nat
  | [] => 0
  | c :: t => xq_zc c + xq_z t
def xq_ld (L : List (Option Value)) (i : Nat) : Option Value := match L[i]? with
  | some (some v) => some v
  | _ => none
def xq_is2 : Option (Option Value) → Bool
  | some (some (.long _)) => true
  | some (some (.double _)) => true
  | _ => false
def xq_kill (L : List (Option Value)) : Nat → List (Option Value)
  | 0 => L
  | j + 1 => bif xq_is2 L[j]? then L.set j none else L
def xq_st1 (L : List (Option Value)) (i : Nat) (v : Value) : Option (List (Option Value)) := bif Nat.blt i L.length then some ((xq_kill L i).set i (some v)) else none
def xq_st2 (L : List (Option Value)) (i : Nat) (v : Value) : Option (List (Option Value)) := bif Nat.blt (i + 1) L.length then some (((xq_kill L i).set i (some v)).set (i + 1) none) else none
def xq_go (pc : Nat) (L : List (Option Value)) (st : List Value) (h : xq_H) : xq_O := some (.inl (pc, L, st, h))
def xq_i1 (pc : Nat) (L : List (Option Value)) (st : List Value) (h : xq_H) (f : Int32 → Value) : xq_O := match st with
  | .int x :: t => xq_go (pc + 1) L (f x :: t) h
  | _ => none
def xq_i2 (pc : Nat) (L : List (Option Value)) (st : List Value) (h : xq_H) (f : Int32 → Int32 → Int32) : xq_O := match st with
  | .int y :: .int x :: t => xq_go (pc + 1) L (.int (f x y) :: t) h
  | _ => none
def xq_l2 (pc : Nat) (L : List (Option Value)) (st : List Value) (h : xq_H) (f : Int64 → Int64 → Value) : xq_O := match st with
  | .long y :: .long x :: t => xq_go (pc + 1) L (f x y :: t) h
  | _ => none
def xq_cmp (k : ClassFile.Cond) (x y : Int32) : Bool := match k with
  | .eq => decide (x = y)
  | .ne => !decide (x = y)
  | .lt => decide (x < y)
  | .ge => decide (y ≤ x)
  | .gt => decide (y < x)
  | .le => decide (x ≤ y)
def xq_br (c : Bool) (t f : Nat) (L : List (Option Value)) (st : List Value) (h : xq_H) : xq_O := bif c then xq_go t L st h else xq_go f L st h
/-- is i a place of a row of n -/
def xq_in (i : Int32) (n : Nat) : Bool := !decide (i < 0) && Nat.blt i.toNatClampNeg n
def xq_ref : Option Nat → Value
  | none => .null
  | some r => .ref r
def xq_sum : List Value → Nat
  | [] => 0
  | v :: t => v.category + xq_sum t
/-- an array read: of ints (kind k) or of references (kinds 3, 4, 5) -/
def xq_aldi (ro : Nat → Option xq_C) (k : Nat) (pc : Nat) (L : List (Option Value)) (st : List Value) (h : xq_H) : xq_O := match st with
  | .int i :: .ref r :: t => match xq_at ro h r with
    | some (.inl (k', n, .inl f)) => bif Nat.beq k k' && xq_in i n then xq_go (pc + 1) L (.int (f i.toNatClampNeg) :: t) h else none
    | _ => none
  | _ => none
def xq_aldr (ro : Nat → Option xq_C) (pc : Nat) (L : List (Option Value)) (st : List Value) (h : xq_H) : xq_O := match st with
  | .int i :: .ref r :: t => bif Nat.blt r 64 then none else match h[r - 64]? with
    | some (.inl (k', n, .inr f)) => bif Nat.blt 2 k' && Nat.blt k' 6 && xq_in i n then xq_go (pc + 1) L (xq_ref (f i.toNatClampNeg) :: t) h else none
    | _ => none
  | _ => none
/-- an array write; nar: what is kept of a number -/
def xq_asti (k : Nat) (nar : Int32 → Int32) (pc : Nat) (L : List (Option Value)) (st : List Value) (h : xq_H) : xq_O := match st with
  | .int x :: .int i :: .ref r :: t => bif Nat.blt r 64 then none else match h[r - 64]? with
    | some (.inl (k', n, .inl f)) => bif Nat.beq k k' && xq_in i n then xq_go (pc + 1) L t (h.set (r - 64) (.inl (k', n, .inl (upd f i.toNatClampNeg (nar x))))) else none
    | _ => none
  | _ => none
/-- the class (number in vwCl) of what an array of kind 4, 5 holds -/
def xq_kc : Nat → Nat
  | 4 => 5
  | 5 => 7
  | _ => 99
def xq_astr (pc : Nat) (L : List (Option Value)) (st : List Value) (h : xq_H) : xq_O := match st with
  | .ref q :: .int i :: .ref r :: t => bif Nat.blt r 64 || Nat.blt q 64 then none else match h[r - 64]?, h[q - 64]? with
    | some (.inl (k', n, .inr f)), some (.inr (ci, _)) => bif Nat.beq ci (xq_kc k') && xq_in i n then xq_go (pc + 1) L t (h.set (r - 64) (.inl (k', n, .inr (va_up f i.toNatClampNeg (some q))))) else none
    | _, _ => none
  | _ => none
def xq_alen (ro : Nat → Option xq_C) (pc : Nat) (L : List (Option Value)) (st : List Value) (h : xq_H) : xq_O := match st with
  | .ref r :: t => match xq_at ro h r with
    | some (.inl (k', n, _)) => bif Nat.blt k' 6 then xq_go (pc + 1) L (.int (Int32.ofNat n) :: t) h else none
    | _ => none
  | _ => none
def xq_newi (k : Nat) (pc : Nat) (L : List (Option Value)) (st : List Value) (h : xq_H) : xq_O := match st with
  | .int n :: t => bif !decide (n < 0) && Nat.ble n.toNatClampNeg 100000 then xq_go (pc + 2) L (.ref (64 + h.length) :: t) (h ++ [.inl (k, n.toNatClampNeg, .inl (fun _ => 0))]) else none
  | _ => none
def xq_newr (k : Nat) (pc : Nat) (L : List (Option Value)) (st : List Value) (h : xq_H) : xq_O := match st with
  | .int n :: t => bif !decide (n < 0) && Nat.ble n.toNatClampNeg 100000 && Nat.blt 3 k && Nat.blt k 6 then xq_go (pc + 3) L (.ref (64 + h.length) :: t) (h ++ [.inl (k, n.toNatClampNeg, .inr (fun _ => none))]) else none
  | _ => none
/-- new int[N][M]: the outer row, then the inner ones -/
def xq_newg (pc : Nat) (L : List (Option Value)) (st : List Value) (h : xq_H) : xq_O := match st with
  | .int m :: .int n :: t => bif !decide (n < 0) && Nat.ble n.toNatClampNeg 1000 && !decide (m < 0) && Nat.ble m.toNatClampNeg 1000 then
      xq_go (pc + 4) L (.ref (64 + h.length) :: t) (h ++ (.inl (3, n.toNatClampNeg, .inr (fun i => if i < n.toNatClampNeg then some (65 + h.length + i) else none)) :: List.replicate n.toNatClampNeg (.inl (0, m.toNatClampNeg, .inl (fun _ => 0))))) else none
  | _ => none
def xq_get (ci k : Nat) (pc : Nat) (L : List (Option Value)) (st : List Value) (h : xq_H) : xq_O := match st with
  | .ref r :: t => bif Nat.blt r 64 then none else match h[r - 64]? with
    | some (.inr (ci', fs)) => bif Nat.beq ci ci' then (match fs[k]? with
      | some v => xq_go (pc + 3) L (v :: t) h
      | none => none) else none
    | _ => none
  | _ => none
/-- may v be put into a field of the type: 0 int, 1 boolean, 2 a reference -/
def xq_fit (ty : Nat) (v : Value) : Bool := match ty, v with
  | 0, .int _ => true
  | 1, .int x => decide (x = 0) || decide (x = 1)
  | 2, .ref _ => true
  | 2, .null => true
  | _, _ => false
def xq_put (ci k ty : Nat) (pc : Nat) (L : List (Option Value)) (st : List Value) (h : xq_H) : xq_O := match st with
  | v :: .ref r :: t => bif Nat.blt r 64 then none else match h[r - 64]? with
    | some (.inr (ci', fs)) => bif Nat.beq ci ci' && Nat.blt k fs.length && xq_fit ty v then xq_go (pc + 3) L t (h.set (r - 64) (.inr (ci', fs.set k v))) else none
    | _ => none
  | _ => none
/-- a call of method k with n arguments (and, where recv, an object of class ci ahead of them) -/
def xq_call (F : xq_F) (k n : Nat) (pc : Nat) (L : List (Option Value)) (st : List Value) (h : xq_H) : xq_O :=
  bif Nat.ble n st.length && Nat.ble (xq_sum (st.drop n)) 8 then (match F k (st.take n).reverse h with
    | some (r, h') => xq_go (pc + 3) L (r.toList ++ st.drop n) h'
    | none => none) else none
def xq_recv (h : xq_H) (ci n : Nat) (st : List Value) : Bool := match st[n]? with
  | some (.ref r) => bif Nat.blt r 64 then Nat.beq ci 10 && Nat.blt 2 r && Nat.blt r 16 else match h[r - 64]? with
    | some (.inr (ci', _)) => Nat.beq ci ci'
    | _ => false
  | _ => false
def xq_copy (pc : Nat) (L : List (Option Value)) (st : List Value) (h : xq_H) : xq_O := match st with
  | .int n :: .int dp :: .ref d :: .int sp :: .ref r :: t => bif Nat.blt d 64 || Nat.blt r 64 then none else match h[r - 64]?, h[d - 64]? with
    | some (.inl (0, n0, .inl f)), some (.inl (0, n1, .inl g)) => bif !decide (sp < 0) && !decide (dp < 0) && !decide (n < 0) && Nat.ble (sp.toNatClampNeg + n.toNatClampNeg) n0 && Nat.ble (dp.toNatClampNeg + n.toNatClampNeg) n1 && Nat.ble (xq_sum t) 8 then
        xq_go (pc + 3) L t (h.set (d - 64) (.inl (0, n1, .inl (va_cpy f g sp.toNatClampNeg dp.toNatClampNeg n.toNatClampNeg)))) else none
    | _, _ => none
  | _ => none
def xq_clone (pc : Nat) (L : List (Option Value)) (st : List Value) (h : xq_H) : xq_O := match st with
  | .ref r :: t => bif Nat.blt r 64 then none else match h[r - 64]? with
    | some (.inl (0, n, .inl f)) => bif Nat.ble (xq_sum t) 8 then xq_go (pc + 3) L (.ref (64 + h.length) :: t) (h ++ [.inl (0, n, .inl f)]) else none
    | _ => none
  | _ => none
/-- Math.min (0), Math.max -/
def xq_mm (a : Nat) (x y : Int32) : Int32 := match a with
  | 0 => bif decide (y < x) then y else x
  | _ => bif decide (x < y) then y else x
def xq_min (a pc : Nat) (L : List (Option Value)) (st : List Value) (h : xq_H) : xq_O := match st with
  | .int y :: .int x :: t => bif Nat.ble (xq_sum t) 8 then xq_go (pc + 3) L (.int (xq_mm a x y) :: t) h else none
  | _ => none
def xq_tab (pc : Nat) (dflt lo hi : Int) (offs : Array Int) (L : List (Option Value)) (st : List Value) (h : xq_H) : xq_O := match st with
  | .int x :: t => bif decide (x.toInt < lo) || decide (hi < x.toInt) then xq_go ((pc : Int) + dflt).toNat L t h else (match offs.toList[(x.toInt - lo).toNat]? with
    | some o => xq_go ((pc : Int) + o).toNat L t h
    | none => none)
  | _ => none
def xq_lsw (pc : Nat) (dflt : Int) (ps : Array (Int × Int)) (L : List (Option Value)) (st : List Value) (h : xq_H) : xq_O := match st with
  | .int x :: t => xq_go ((pc : Int) + Op.lookupswitch.offset ps.toList dflt x.toInt).toNat L t h
  | _ => none
/-- one instruction; df: the default fields of a new object of class a -/
def xq_step (ro : Nat → Option xq_C) (df : Nat → List Value) (F : xq_F) (pc : Nat) (L : List (Option Value)) (st : List Value) (h : xq_H) (I : xq_I) : xq_O := match I with
  | (i, len, a, b, e, _, v) => match i with
    | .iconst _ => xq_go (pc + 1) L (v :: st) h
    | .bipush _ => xq_go (pc + 2) L (v :: st) h
    | .sipush _ => xq_go (pc + 3) L (v :: st) h
    | .lconst _ => xq_go (pc + 1) L (v :: st) h
    | .ldc _ => xq_go (pc + 2) L (v :: st) h
    | .ldc_w _ => xq_go (pc + 3) L (v :: st) h
    | .ldc2_w _ => xq_go (pc + 3) L (v :: st) h
    | .aconst_null => xq_go (pc + 1) L (.null :: st) h
    | .getstatic _ => xq_go (pc + 3) L (v :: st) h
    | .iload _ => (match xq_ld L a with
      | some (.int x) => xq_go (pc + 2) L (.int x :: st) h
      | _ => none)
    | .iload_n _ => (match xq_ld L a with
      | some (.int x) => xq_go (pc + 1) L (.int x :: st) h
      | _ => none)
    | .lload _ => (match xq_ld L a with
      | some (.long x) => xq_go (pc + 2) L (.long x :: st) h
      | _ => none)
    | .lload_n _ => (match xq_ld L a with
      | some (.long x) => xq_go (pc + 1) L (.long x :: st) h
      | _ => none)
    | .aload _ => (match xq_ld L a with
      | some (.ref x) => xq_go (pc + 2) L (.ref x :: st) h
      | some .null => xq_go (pc + 2) L (.null :: st) h
      | _ => none)
    | .aload_n _ => (match xq_ld L a with
      | some (.ref x) => xq_go (pc + 1) L (.ref x :: st) h
      | some .null => xq_go (pc + 1) L (.null :: st) h
      | _ => none)
    | .istore _ => (match st with
      | .int x :: t => (match xq_st1 L a (.int x) with
        | some L' => xq_go (pc + 2) L' t h
        | none => none)
      | _ => none)
    | .istore_n _ => (match st with
      | .int x :: t => (match xq_st1 L a (.int x) with
        | some L' => xq_go (pc + 1) L' t h
        | none => none)
      | _ => none)
    | .lstore _ => (match st with
      | .long x :: t => (match xq_st2 L a (.long x) with
        | some L' => xq_go (pc + 2) L' t h
        | none => none)
      | _ => none)
    | .lstore_n _ => (match st with
      | .long x :: t => (match xq_st2 L a (.long x) with
        | some L' => xq_go (pc + 1) L' t h
        | none => none)
      | _ => none)
    | .astore _ => (match st with
      | .ref x :: t => (match xq_st1 L a (.ref x) with
        | some L' => xq_go (pc + 2) L' t h
        | none => none)
      | .null :: t => (match xq_st1 L a .null with
        | some L' => xq_go (pc + 2) L' t h
        | none => none)
      | _ => none)
    | .astore_n _ => (match st with
      | .ref x :: t => (match xq_st1 L a (.ref x) with
        | some L' => xq_go (pc + 1) L' t h
        | none => none)
      | .null :: t => (match xq_st1 L a .null with
        | some L' => xq_go (pc + 1) L' t h
        | none => none)
      | _ => none)
    | .iinc _ n => (match xq_ld L a with
      | some (.int x) => (match xq_st1 L a (.int (x + Int32.ofInt n)) with
        | some L' => xq_go (pc + 3) L' st h
        | none => none)
      | _ => none)
    | .iadd => xq_i2 pc L st h (fun x y => x + y)
    | .isub => xq_i2 pc L st h (fun x y => x - y)
    | .imul => xq_i2 pc L st h (fun x y => x * y)
    | .iand => xq_i2 pc L st h (fun x y => x &&& y)
    | .ior => xq_i2 pc L st h (fun x y => x ||| y)
    | .ixor => xq_i2 pc L st h (fun x y => x ^^^ y)
    | .ishl => xq_i2 pc L st h (fun x y => x <<< (y &&& 31))
    | .ishr => xq_i2 pc L st h (fun x y => x >>> (y &&& 31))
    | .iushr => xq_i2 pc L st h (fun x y => (x.toUInt32 >>> (y.toUInt32 &&& Int32.toUInt32 31)).toInt32)
    | .idiv => (match st with
      | .int y :: .int x :: t => bif decide (y = 0) then none else xq_go (pc + 1) L (.int (x / y) :: t) h
      | _ => none)
    | .irem => (match st with
      | .int y :: .int x :: t => bif decide (y = 0) then none else xq_go (pc + 1) L (.int (x - x / y * y) :: t) h
      | _ => none)
    | .ineg => xq_i1 pc L st h (fun x => .int (-x))
    | .i2l => xq_i1 pc L st h (fun x => .long x.toInt64)
    | .i2b => xq_i1 pc L st h (fun x => .int x.toInt8.toInt32)
    | .i2s => xq_i1 pc L st h (fun x => .int x.toInt16.toInt32)
    | .l2i => (match st with
      | .long x :: t => xq_go (pc + 1) L (.int x.toInt32 :: t) h
      | _ => none)
    | .ladd => xq_l2 pc L st h (fun x y => .long (x + y))
    | .lmul => xq_l2 pc L st h (fun x y => .long (x * y))
    | .land => xq_l2 pc L st h (fun x y => .long (x &&& y))
    | .ldiv => (match st with
      | .long y :: .long x :: t => bif decide (y = 0) then none else xq_go (pc + 1) L (.long (x / y) :: t) h
      | _ => none)
    | .lrem => (match st with
      | .long y :: .long x :: t => bif decide (y = 0) then none else xq_go (pc + 1) L (.long (x - x / y * y) :: t) h
      | _ => none)
    | .lcmp => xq_l2 pc L st h (fun x y => .int (lg_cmp x y))
    | .dup => (match st with
      | .int x :: t => xq_go (pc + 1) L (.int x :: .int x :: t) h
      | .ref x :: t => xq_go (pc + 1) L (.ref x :: .ref x :: t) h
      | _ => none)
    | .dup2 => (match st with
      | .int x :: .ref y :: t => xq_go (pc + 1) L (.int x :: .ref y :: .int x :: .ref y :: t) h
      | .int x :: .int y :: t => xq_go (pc + 1) L (.int x :: .int y :: .int x :: .int y :: t) h
      | _ => none)
    | .pop => (match st with
      | .int _ :: t => xq_go (pc + 1) L t h
      | .ref _ :: t => xq_go (pc + 1) L t h
      | .null :: t => xq_go (pc + 1) L t h
      | _ => none)
    | .ifCond k _ => (match st with
      | .int x :: t => xq_br (xq_cmp k x 0) a (pc + 3) L t h
      | _ => none)
    | .if_icmp k _ => (match st with
      | .int y :: .int x :: t => xq_br (xq_cmp k x y) a (pc + 3) L t h
      | _ => none)
    | .ifnull _ => (match st with
      | .ref _ :: t => xq_go (pc + 3) L t h
      | .null :: t => xq_go a L t h
      | _ => none)
    | .ifnonnull _ => (match st with
      | .ref _ :: t => xq_go a L t h
      | .null :: t => xq_go (pc + 3) L t h
      | _ => none)
    | .goto _ => xq_go a L st h
    | .tableswitch dflt lo hi offs => xq_tab pc dflt lo hi offs L st h
    | .lookupswitch dflt ps => xq_lsw pc dflt ps L st h
    | .iaload => xq_aldi ro 0 pc L st h
    | .baload => xq_aldi ro 1 pc L st h
    | .caload => xq_aldi ro 2 pc L st h
    | .aaload => xq_aldr ro pc L st h
    | .iastore => xq_asti 0 (fun x => x) pc L st h
    | .bastore => xq_asti 1 (fun x => vp_nar .boolean x) pc L st h
    | .castore => xq_asti 2 (fun x => vp_nar .char x) pc L st h
    | .aastore => xq_astr pc L st h
    | .arraylength => xq_alen ro pc L st h
    | .newarray _ => xq_newi a pc L st h
    | .anewarray _ => xq_newr a pc L st h
    | .multianewarray _ _ => xq_newg pc L st h
    | .new _ => xq_go (pc + 3) L (.ref (64 + h.length) :: st) (h ++ [.inr (a, df a)])
    | .getfield _ => xq_get a b pc L st h
    | .putfield _ => xq_put a b e pc L st h
    | .checkcast _ => (match st with
      | .ref r :: t => bif Nat.blt r 64 then none else (match h[r - 64]? with
        | some (.inl (0, _, .inl _)) => xq_go (pc + 3) L (.ref r :: t) h
        | _ => none)
      | _ => none)
    | .invokespecial _ => bif Nat.beq e 2 then (match st with
      | .ref _ :: t => bif Nat.ble (xq_sum t) 8 then xq_go (pc + 3) L t h else none
      | _ => none) else (match st[b]? with
      | some (.ref _) => xq_call F a (b + 1) pc L st h
      | _ => none)
    | .invokestatic _ => bif Nat.beq e 2 then xq_copy pc L st h else bif Nat.beq e 3 then xq_min a pc L st h else xq_call F a b pc L st h
    | .invokevirtual _ => bif Nat.beq e 20 then xq_clone pc L st h else bif xq_recv h e b st then xq_call F a (b + 1) pc L st h else none
    | .ireturn => (match st with
      | [.int x] => bif Nat.beq a 0 || decide (x = 0) || decide (x = 1) then some (.inr (some (.int x), h)) else none
      | _ => none)
    | .lreturn => (match st with
      | [.long x] => some (.inr (some (.long x), h))
      | _ => none)
    | .areturn => (match st with
      | [.ref x] => some (.inr (some (.ref x), h))
      | [.null] => some (.inr (some .null, h))
      | _ => none)
    | .return_ => (match st with
      | [] => some (.inr (none, h))
      | _ => none)
    | _ => none
def xq_run (ro : Nat → Option xq_C) (df : Nat → List Value) (F : xq_F) (co : Nat → Option xq_I) : Nat → Nat → List (Option Value) → List Value → xq_H → Option xq_R
  | 0, _, _, _, _ => none
  | n + 1, pc, L, st, h => match co pc with
    | none => none
    | some I => match xq_step ro df F pc L st h I with
      | none => none
      | some (.inl (pc', L', st', h')) => xq_run ro df F co n pc' L' st' h'
      | some (.inr r) => some r
/-- the locals at a method's start -/
def xq_lo (as : List Value) (nl : Nat) : List (Option Value) := as.map some ++ List.replicate (nl - as.length) none
/-- methods by number: their code, their locals; what isn't there is done by pr -/
def xq_ex (ro : Nat → Option xq_C) (df : Nat → List Value) (P : Nat → Option ((Nat → Option xq_I) × Nat)) (pr : xq_F) : Nat → Nat → xq_F
  | 0, _ => fun _ _ _ => none
  | d + 1, n => fun k as h => match P k with
    | none => bif Nat.ble 8 d then pr k as h else none
    | some (co, nl) => bif as.all (fun v => Nat.beq v.category 1) && Nat.ble as.length nl then xq_run ro df (xq_ex ro df P pr d n) co n 0 (xq_lo as nl) [] h else none
