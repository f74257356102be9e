def fX9_done (l0 : Int32) (l1 : Int32) (l2 : Int32) (A V : xM) : Option (Int32) := if (decide (l0.toInt < 11) || decide (17 < l0.toInt)) = true then (if l1 = 0 then (if l2 = 0 then (some (0 : Int32)) else (some (1 : Int32))) else (some (1 : Int32))) else (if l0.toInt - 11 = 0 then (if l1 = 0 then (some (0 : Int32)) else (if l2 = 0 then (some (0 : Int32)) else (some (1 : Int32)))) else (if l0.toInt - 11 = 1 then (if l1 = 0 then (if l2 = 0 then (some (0 : Int32)) else (some (1 : Int32))) else (some (1 : Int32))) else (if l0.toInt - 11 = 2 then (if l2 ≤ l1 then (some (0 : Int32)) else (some (1 : Int32))) else (if l0.toInt - 11 = 3 then (if l1 = l2 then (some (1 : Int32)) else (some (0 : Int32))) else (if l0.toInt - 11 = 4 then (some (l1 + l2)) else (if l0.toInt - 11 = 5 then (some (l1 - l2)) else (if l0.toInt - 11 = 6 then (some (l1 * l2)) else (none))))))))
def fX9_says_L12 (l3 : Int32) (ex : xM → xM → Value → Option (Int32 × xS)) : Nat → Int32 → Int32 → xM → xM → Value → Option (Int32 × xS)
  | 0, _, _, _, _, _ => none
  | n + 1, l4, l5, A, V, cu => bC (xq_in l3 18) (if (A 145 l3.toNatClampNeg) ≤ l5 then (ex  A V cu) else (bC (xq_in (((160 : Int32) * l3) + l5) 2880) (if 0 ≤ (A 144 (((160 : Int32) * l3) + l5).toNatClampNeg) then (if (6 : Int32) ≤ (A 144 (((160 : Int32) * l3) + l5).toNatClampNeg) then (if (A 144 (((160 : Int32) * l3) + l5).toNatClampNeg) = (12 : Int32) then (bC (xq_in (l4 - (1 : Int32)) 170) (if (A 150 (l4 - (1 : Int32)).toNatClampNeg) = 0 then (fX9_says_L12 l3 ex n l4 (l5 + Int32.ofInt 1) (aw A 150 (l4 - (1 : Int32)) (1 : Int32)) V cu) else (fX9_says_L12 l3 ex n l4 (l5 + Int32.ofInt 1) (aw A 150 (l4 - (1 : Int32)) (0 : Int32)) V cu))) else (if (A 144 (((160 : Int32) * l3) + l5).toNatClampNeg) = (18 : Int32) then (bC (xq_in (l4 - (1 : Int32)) 170) (fX9_says_L12 l3 ex n l4 (l5 + Int32.ofInt 1) (aw A 150 (l4 - (1 : Int32)) (-(A 150 (l4 - (1 : Int32)).toNatClampNeg))) V cu)) else (bC (xq_in ((l4 + Int32.ofInt (-1)) - (1 : Int32)) 170) (bC (xq_in (l4 + Int32.ofInt (-1)) 170) (bI (fX9_done (A 144 (((160 : Int32) * l3) + l5).toNatClampNeg) (A 150 ((l4 + Int32.ofInt (-1)) - (1 : Int32)).toNatClampNeg) (A 150 (l4 + Int32.ofInt (-1)).toNatClampNeg) A V) (fun x13 => fX9_says_L12 l3 ex n (l4 + Int32.ofInt (-1)) (l5 + Int32.ofInt 1) (aw A 150 ((l4 + Int32.ofInt (-1)) - (1 : Int32)) x13) V cu)))))) else (bC (xq_in (A 144 (((160 : Int32) * l3) + l5).toNatClampNeg) 6) (bC (xq_in l4 170) (fX9_says_L12 l3 ex n (l4 + Int32.ofInt 1) (l5 + Int32.ofInt 1) (aw A 150 l4 (A 151 (A 144 (((160 : Int32) * l3) + l5).toNatClampNeg).toNatClampNeg)) V cu)))) else (bC (xq_in l4 170) (fX9_says_L12 l3 ex n (l4 + Int32.ofInt 1) (l5 + Int32.ofInt 1) (aw A 150 l4 ((-1 : Int32) - (A 144 (((160 : Int32) * l3) + l5).toNatClampNeg))) V cu)))))
def fX9_says (l1 : Int32) (l2 : Int32) (A V : xM) (cu : Value) : Option (Int32 × xS) := fX9_says_L12 (((3 : Int32) * l1) + l2) (fun (A24 V25 : xM) (c26 : Value) => if (A24 150 (0 : Int32).toNatClampNeg) = 0 then (some ((0 : Int32), A24, V25, c26)) else (some ((1 : Int32), A24, V25, c26))) FU (0 : Int32) (0 : Int32) A V cu
def fX9_asks (l1 : Int32) (l2 : Int32) (l3 : Int32) (l4 : Int32) (A V : xM) (cu : Value) : Option (Int32 × xS) := if l1 < (0 : Int32) then (some ((-2 : Int32), A, V, cu)) else (if (2 : Int32) < l1 then (some ((-2 : Int32), A, V, cu)) else (if l2 < (0 : Int32) then (some ((-2 : Int32), A, V, cu)) else (if (999 : Int32) < l2 then (some ((-2 : Int32), A, V, cu)) else (if l3 < (0 : Int32) then (some ((-2 : Int32), A, V, cu)) else (if (59 : Int32) < l3 then (some ((-2 : Int32), A, V, cu)) else (if (4 : Int32) ≤ (l3 - l3 / (10 : Int32) * (10 : Int32)) then (some ((-2 : Int32), A, V, cu)) else (if l4 < (0 : Int32) then (some ((-2 : Int32), A, V, cu)) else (if (99 : Int32) < l4 then (some ((-2 : Int32), A, V, cu)) else (bX (fX9_says (V 132 16) l1 (aw (aw (aw (aw (aw (aw A 151 (0 : Int32) (l2 / (100 : Int32))) 151 (1 : Int32) ((l2 / (10 : Int32)) - (l2 / (10 : Int32)) / (10 : Int32) * (10 : Int32))) 151 (2 : Int32) (l2 - l2 / (10 : Int32) * (10 : Int32))) 151 (3 : Int32) (l3 / (10 : Int32))) 151 (4 : Int32) (l3 - l3 / (10 : Int32) * (10 : Int32))) 151 (5 : Int32) l4) V cu) (fun x10 A11 V12 c13 => if x10 = 0 then (some ((0 : Int32), A11, V12, c13)) else (some ((1 : Int32), A11, V12, c13))))))))))))
def fX9_person (l1 : Int32) (l2 : Int32) (l3 : Int32) (A V : xM) (cu : Value) : Option (Int32 × xS) := if l1 < (0 : Int32) then (some ((-2 : Int32), A, V, cu)) else (if (5 : Int32) < l1 then (some ((-2 : Int32), A, V, cu)) else (if l2 < (0 : Int32) then (some ((-2 : Int32), A, V, cu)) else (if (100 : Int32) < l2 then (some ((-2 : Int32), A, V, cu)) else (if l3 < (0 : Int32) then (some ((-2 : Int32), A, V, cu)) else (if (9 : Int32) < l3 then (some ((-2 : Int32), A, V, cu)) else (if (V 132 4) = (5 : Int32) then (some ((-4 : Int32), A, V, cu)) else (bC (xq_in (V 132 4) 5) (some ((((up2 V 132 4 ((V 132 4) + (1 : Int32))) 132 4) - (1 : Int32)), (aw (aw (aw A 136 (V 132 4) l1) 137 (V 132 4) l2) 138 (V 132 4) l3), (up2 V 132 4 ((V 132 4) + (1 : Int32))), cu)))))))))
def fX9_size_L4 (l0 : Int32) (A V : xM) (ex : Int32 → Option (Int32)) : Nat → Int32 → Int32 → Option (Int32)
  | 0, _, _ => none
  | n + 1, l1, l2 => if (5 : Int32) ≤ l2 then (ex l1) else (fX9_size_L4 l0 A V ex n (l1 + ((l0 >>> (l2 &&& 31)) &&& (1 : Int32))) (l2 + Int32.ofInt 1))
def fX9_size (l0 : Int32) (A V : xM) : Option (Int32) := fX9_size_L4 l0 A V (fun (l1_2 : Int32) => some l1_2) FU (0 : Int32) (0 : Int32)
def fX9_may_L23 (l1 : Int32) (l2 : Int32) (l3 : Int32) (l4 : Int32) (l5 : Int32) (l6 : Int32) (ex : Int32 → xM → xM → Value → Option (Int32 × xS)) : Nat → Int32 → Int32 → xM → xM → Value → Option (Int32 × xS)
  | 0, _, _, _, _, _ => none
  | n + 1, l7, l8, A, V, cu => if (V 132 4) ≤ l8 then (ex l7 A V cu) else (if ((l4 >>> (l8 &&& 31)) &&& (1 : Int32)) = (1 : Int32) then (bC (xq_in l8 5) (if (A 152 l8.toNatClampNeg) ≤ (1 : Int32) then (fX9_may_L23 l1 l2 l3 l4 l5 l6 ex n l7 (l8 + Int32.ofInt 1) A V cu) else (if (A 136 l8.toNatClampNeg) = (2 : Int32) then (fX9_may_L23 l1 l2 l3 l4 l5 l6 ex n (l7 + Int32.ofInt 1) (l8 + Int32.ofInt 1) A V cu) else (if (A 136 l8.toNatClampNeg) = (1 : Int32) then (if (A 138 l8.toNatClampNeg) < (l6 - (1 : Int32)) then (fX9_may_L23 l1 l2 l3 l4 l5 l6 ex n (l7 + Int32.ofInt 1) (l8 + Int32.ofInt 1) A V cu) else (if ((up2 V 132 35 ((V 132 35) ||| ((1 : Int32) <<< (l8 &&& 31)))) 132 36) = 0 then (if (A 136 l8.toNatClampNeg) = (5 : Int32) then (fX9_may_L23 l1 l2 l3 l4 l5 l6 ex n (l7 + Int32.ofInt 1) (l8 + Int32.ofInt 1) A (up2 (up2 V 132 35 ((V 132 35) ||| ((1 : Int32) <<< (l8 &&& 31)))) 132 36 (1 : Int32)) cu) else (if (A 152 l8.toNatClampNeg) = (3 : Int32) then (fX9_may_L23 l1 l2 l3 l4 l5 l6 ex n (l7 + Int32.ofInt 1) (l8 + Int32.ofInt 1) A (up2 (up2 V 132 35 ((V 132 35) ||| ((1 : Int32) <<< (l8 &&& 31)))) 132 36 (1 : Int32)) cu) else (fX9_may_L23 l1 l2 l3 l4 l5 l6 ex n (l7 + Int32.ofInt 1) (l8 + Int32.ofInt 1) A (up2 (up2 V 132 35 ((V 132 35) ||| ((1 : Int32) <<< (l8 &&& 31)))) 132 36 (0 : Int32)) cu))) else (fX9_may_L23 l1 l2 l3 l4 l5 l6 ex n (l7 + Int32.ofInt 1) (l8 + Int32.ofInt 1) A (up2 (up2 V 132 35 ((V 132 35) ||| ((1 : Int32) <<< (l8 &&& 31)))) 132 36 (1 : Int32)) cu))) else (if ((up2 V 132 35 ((V 132 35) ||| ((1 : Int32) <<< (l8 &&& 31)))) 132 36) = 0 then (if (A 136 l8.toNatClampNeg) = (5 : Int32) then (fX9_may_L23 l1 l2 l3 l4 l5 l6 ex n (l7 + Int32.ofInt 1) (l8 + Int32.ofInt 1) A (up2 (up2 V 132 35 ((V 132 35) ||| ((1 : Int32) <<< (l8 &&& 31)))) 132 36 (1 : Int32)) cu) else (if (A 152 l8.toNatClampNeg) = (3 : Int32) then (fX9_may_L23 l1 l2 l3 l4 l5 l6 ex n (l7 + Int32.ofInt 1) (l8 + Int32.ofInt 1) A (up2 (up2 V 132 35 ((V 132 35) ||| ((1 : Int32) <<< (l8 &&& 31)))) 132 36 (1 : Int32)) cu) else (fX9_may_L23 l1 l2 l3 l4 l5 l6 ex n (l7 + Int32.ofInt 1) (l8 + Int32.ofInt 1) A (up2 (up2 V 132 35 ((V 132 35) ||| ((1 : Int32) <<< (l8 &&& 31)))) 132 36 (0 : Int32)) cu))) else (fX9_may_L23 l1 l2 l3 l4 l5 l6 ex n (l7 + Int32.ofInt 1) (l8 + Int32.ofInt 1) A (up2 (up2 V 132 35 ((V 132 35) ||| ((1 : Int32) <<< (l8 &&& 31)))) 132 36 (1 : Int32)) cu)))))) else (fX9_may_L23 l1 l2 l3 l4 l5 l6 ex n l7 (l8 + Int32.ofInt 1) A V cu))
def fX9_may (l1 : Int32) (l2 : Int32) (l3 : Int32) (l4 : Int32) (l5 : Int32) (A V : xM) (cu : Value) : Option (Int32 × xS) := bI (fX9_size l4 A V) (fun x14 => fX9_may_L23 l1 l2 l3 l4 l5 x14 (fun (l7_16 : Int32) (A19 V20 : xM) (c21 : Value) => bI (fX9_size (V20 132 35) (aw A19 151 (0 : Int32) l7_16) V20) (fun x22 => bX (fX9_says l1 (0 : Int32) (aw (aw (aw (aw (aw (aw A19 151 (0 : Int32) l7_16) 151 (1 : Int32) x22) 151 (2 : Int32) x14) 151 (3 : Int32) l2) 151 (4 : Int32) l3) 151 (5 : Int32) l5) V20 c21) (fun x24 A25 V26 c27 => bC (decide (x24 = 0) || decide (x24 = 1)) (some (x24, A25, V26, c27))))) FU (0 : Int32) (0 : Int32) A (up2 (up2 V 132 35 (0 : Int32)) 132 36 (0 : Int32)) cu)
def fX9_heard (l0 : Int32) (l1 : Int32) (l2 : Int32) (A V : xM) : Option (Int32) := if (decide (l0.toInt < 3) || decide (5 < l0.toInt)) = true then (if l2 = 0 then (if l1 = (1 : Int32) then (some (2 : Int32)) else (some (1 : Int32))) else (some (2 : Int32))) else (if l0.toInt - 3 = 0 then (some l1) else (if l0.toInt - 3 = 1 then (if l2 = 0 then (some l1) else (some (bif decide ((l1 + (1 : Int32)) < (2 : Int32)) then (l1 + (1 : Int32)) else (2 : Int32)))) else (if l0.toInt - 3 = 2 then (if l2 = 0 then (some l1) else (some (bif decide ((l1 + (1 : Int32)) < (2 : Int32)) then (l1 + (1 : Int32)) else (2 : Int32)))) else (none))))
def fX9_begin_L60 (l7 : Int32) (l8 : Int32) (l9 : Int32) (ex : xM → xM → Value → Option (Int32 × xS)) : Nat → Int32 → xM → xM → Value → Option (Int32 × xS)
  | 0, _, _, _, _ => none
  | n + 1, l10, A, V, cu => if (V 132 4) ≤ l10 then (ex  A V cu) else (if ((l8 >>> (l10 &&& 31)) &&& (1 : Int32)) = (1 : Int32) then (bC (xq_in l10 5) (if (2 : Int32) ≤ (A 152 l10.toNatClampNeg) then (fX9_begin_L60 l7 l8 l9 ex n (l10 + Int32.ofInt 1) A V cu) else (if ((l7 >>> (l10 &&& 31)) &&& (1 : Int32)) = (1 : Int32) then (bI (fX9_heard (A 136 l10.toNatClampNeg) (A 152 l10.toNatClampNeg) (1 : Int32) A V) (fun x6 => if x6 = (2 : Int32) then (if (V 132 36) = 0 then (fX9_begin_L60 l7 l8 l9 ex n (l10 + Int32.ofInt 1) (aw A 152 l10 x6) V cu) else (fX9_begin_L60 l7 l8 l9 ex n (l10 + Int32.ofInt 1) (aw A 152 l10 (3 : Int32)) V cu)) else (fX9_begin_L60 l7 l8 l9 ex n (l10 + Int32.ofInt 1) (aw A 152 l10 x6) V cu))) else (fX9_begin_L60 l7 l8 l9 ex n (l10 + Int32.ofInt 1) A V cu)))) else (bC (xq_in l10 5) (if (2 : Int32) ≤ (A 152 l10.toNatClampNeg) then (fX9_begin_L60 l7 l8 l9 ex n (l10 + Int32.ofInt 1) A V cu) else (if ((l7 >>> (l10 &&& 31)) &&& (1 : Int32)) = (1 : Int32) then (if ((l9 >>> (l10 &&& 31)) &&& (1 : Int32)) = (1 : Int32) then (bI (fX9_heard (A 136 l10.toNatClampNeg) (A 152 l10.toNatClampNeg) (0 : Int32) A V) (fun x14 => if x14 = (2 : Int32) then (if (V 132 36) = 0 then (fX9_begin_L60 l7 l8 l9 ex n (l10 + Int32.ofInt 1) (aw A 152 l10 x14) V cu) else (fX9_begin_L60 l7 l8 l9 ex n (l10 + Int32.ofInt 1) (aw A 152 l10 (3 : Int32)) V cu)) else (fX9_begin_L60 l7 l8 l9 ex n (l10 + Int32.ofInt 1) (aw A 152 l10 x14) V cu))) else (fX9_begin_L60 l7 l8 l9 ex n (l10 + Int32.ofInt 1) A V cu)) else (fX9_begin_L60 l7 l8 l9 ex n (l10 + Int32.ofInt 1) A V cu)))))
def fX9_begin (l1 : Int32) (l2 : Int32) (l3 : Int32) (l4 : Int32) (l5 : Int32) (l6 : Int32) (l7 : Int32) (A V : xM) (cu : Value) : Option (Int32 × xS) := bX (fX9_may l1 l2 l3 l4 l6 A V cu) (fun x18 A19 V20 c21 => if x18 = 0 then (some ((0 : Int32), A19, V20, c21)) else (if (V20 132 35) = 0 then (some ((1 : Int32), A19, V20, c21)) else (bX (fX9_says l1 (1 : Int32) A19 V20 c21) (fun x25 A26 V27 c28 => if x25 = 0 then (bX (fX9_says l1 (2 : Int32) A26 V27 c28) (fun x31 A32 V33 c34 => if x31 = 0 then (fX9_begin_L60 l7 (0 : Int32) (0 : Int32) (fun (A50 V51 : xM) (c52 : Value) => some ((1 : Int32), A50, V51, c52)) FU (0 : Int32) A32 V33 c34) else (fX9_begin_L60 l7 (0 : Int32) l5 (fun (A66 V67 : xM) (c68 : Value) => some ((1 : Int32), A66, V67, c68)) FU (0 : Int32) A32 V33 c34))) else (bX (fX9_says l1 (2 : Int32) A26 V27 c28) (fun x69 A70 V71 c72 => if x69 = 0 then (fX9_begin_L60 l7 l4 (0 : Int32) (fun (A88 V89 : xM) (c90 : Value) => some ((1 : Int32), A88, V89, c90)) FU (0 : Int32) A70 V71 c72) else (fX9_begin_L60 l7 l4 l5 (fun (A104 V105 : xM) (c106 : Value) => some ((1 : Int32), A104, V105, c106)) FU (0 : Int32) A70 V71 c72)))))))
def fX9_whoHas_L5 (l1 : Nat) (l2 : Int32) (A V : xM) (ex : Int32 → Option (Int32)) : Nat → Int32 → Int32 → Option (Int32)
  | 0, _, _ => none
  | n + 1, l3, l4 => if (V 132 4) ≤ l4 then (ex l3) else (bC (xq_in l2 6) (if (A 135 l2.toNatClampNeg) < 0 then (fX9_whoHas_L5 l1 l2 A V ex n (l3 ||| ((1 : Int32) <<< (l4 &&& 31))) (l4 + Int32.ofInt 1)) else (bC (xq_in (((6 : Int32) * l4) + (A 135 l2.toNatClampNeg)) 30) (if (A l1 (((6 : Int32) * l4) + (A 135 l2.toNatClampNeg)).toNatClampNeg) ≤ (1 : Int32) then (fX9_whoHas_L5 l1 l2 A V ex n (l3 ||| (0 : Int32)) (l4 + Int32.ofInt 1)) else (fX9_whoHas_L5 l1 l2 A V ex n (l3 ||| ((1 : Int32) <<< (l4 &&& 31))) (l4 + Int32.ofInt 1))))))
def fX9_whoHas (l1 : Nat) (l2 : Int32) (A V : xM) : Option (Int32) := fX9_whoHas_L5 l1 l2 A V (fun (l3_6 : Int32) => some l3_6) FU (0 : Int32) (0 : Int32)
def fX9_take_L2 (l1 : Nat) (l2 : Int32) (ex : xM → xM → Value → Option (xS)) : Nat → Int32 → xM → xM → Value → Option (xS)
  | 0, _, _, _, _ => none
  | n + 1, l3, A, V, cu => if (V 132 4) ≤ l3 then (ex  A V cu) else (bC (xq_in (((6 : Int32) * l3) + l2) 30) (bC (xq_in l3 5) (fX9_take_L2 l1 l2 ex n (l3 + Int32.ofInt 1) (aw A 152 l3 (A l1 (((6 : Int32) * l3) + l2).toNatClampNeg)) V cu)))
def fX9_take (l1 : Nat) (l2 : Int32) (A V : xM) (cu : Value) : Option (xS) := fX9_take_L2 l1 l2 (fun (A8 V9 : xM) (c10 : Value) => some (A8, V9, c10)) FU (0 : Int32) A V cu
def fX9_replay_L5 (l1 : Int32) (l2 : Int32) (l3 : Int32) (ex : xM → xM → Value → Option (Int32 × xS)) : Nat → Int32 → xM → xM → Value → Option (Int32 × xS)
  | 0, _, _, _, _ => none
  | n + 1, l4, A, V, cu => if (30 : Int32) ≤ l4 then (ex  A V cu) else (bC (xq_in l4 30) (fX9_replay_L5 l1 l2 l3 ex n (l4 + Int32.ofInt 1) (aw A 153 l4 (A 139 l4.toNatClampNeg)) V cu))
def fX9_replay_L214 (l1 : Int32) (l2 : Int32) (l3 : Int32) (l4 : Int32) (l5 : Int32) (ex : xM → xM → Value → Option (Int32 × xS)) : Nat → Int32 → xM → xM → Value → Option (Int32 × xS)
  | 0, _, _, _, _ => none
  | n + 1, l9, A, V, cu => if (V 132 4) ≤ l9 then (ex  A V cu) else (bC (xq_in l9 5) (bC (xq_in (((6 : Int32) * l9) + l5) 30) (fX9_replay_L214 l1 l2 l3 l4 l5 ex n (l9 + Int32.ofInt 1) (aw A 153 (((6 : Int32) * l9) + l5) (A 152 l9.toNatClampNeg)) V cu)))
def fX9_replay_L59 (l1 : Int32) (l2 : Int32) (l3 : Int32) (l4 : Int32) (l5 : Int32) (A V : xM) (cu : Value) (ex : Int32 → Int32 → Option (Int32 × xS)) : Nat → Int32 → Int32 → Int32 → Option (Int32 × xS)
  | 0, _, _, _ => none
  | n + 1, l6, l7, l8 => if (V 132 4) ≤ l8 then (ex l6 l7) else (bC (xq_in (((5 : Int32) * l4) + l8) 60) (bC (xq_in l4 12) (if (A 142 (((5 : Int32) * l4) + l8).toNatClampNeg) = (A 141 l4.toNatClampNeg) then (if (A 142 (((5 : Int32) * l4) + l8).toNatClampNeg) < 0 then (fX9_replay_L59 l1 l2 l3 l4 l5 A V cu ex n (l6 ||| ((1 : Int32) <<< (l8 &&& 31))) (l7 ||| (0 : Int32)) (l8 + Int32.ofInt 1)) else (bC (xq_in (((4 : Int32) * (A 142 (((5 : Int32) * l4) + l8).toNatClampNeg)) + (A 141 l4.toNatClampNeg)) 16) (if (A 133 (((4 : Int32) * (A 142 (((5 : Int32) * l4) + l8).toNatClampNeg)) + (A 141 l4.toNatClampNeg)).toNatClampNeg) = (1 : Int32) then (fX9_replay_L59 l1 l2 l3 l4 l5 A V cu ex n (l6 ||| ((1 : Int32) <<< (l8 &&& 31))) (l7 ||| ((1 : Int32) <<< (l8 &&& 31))) (l8 + Int32.ofInt 1)) else (fX9_replay_L59 l1 l2 l3 l4 l5 A V cu ex n (l6 ||| ((1 : Int32) <<< (l8 &&& 31))) (l7 ||| (0 : Int32)) (l8 + Int32.ofInt 1))))) else (if (A 142 (((5 : Int32) * l4) + l8).toNatClampNeg) < 0 then (fX9_replay_L59 l1 l2 l3 l4 l5 A V cu ex n (l6 ||| (0 : Int32)) (l7 ||| (0 : Int32)) (l8 + Int32.ofInt 1)) else (bC (xq_in (((4 : Int32) * (A 142 (((5 : Int32) * l4) + l8).toNatClampNeg)) + (A 141 l4.toNatClampNeg)) 16) (if (A 133 (((4 : Int32) * (A 142 (((5 : Int32) * l4) + l8).toNatClampNeg)) + (A 141 l4.toNatClampNeg)).toNatClampNeg) = (1 : Int32) then (fX9_replay_L59 l1 l2 l3 l4 l5 A V cu ex n (l6 ||| (0 : Int32)) (l7 ||| ((1 : Int32) <<< (l8 &&& 31))) (l8 + Int32.ofInt 1)) else (fX9_replay_L59 l1 l2 l3 l4 l5 A V cu ex n (l6 ||| (0 : Int32)) (l7 ||| (0 : Int32)) (l8 + Int32.ofInt 1))))))))
def fX9_replay_L35 (l1 : Int32) (l2 : Int32) (ex : Int32 → xM → xM → Value → Option (Int32 × xS)) : Nat → Int32 → Int32 → xM → xM → Value → Option (Int32 × xS)
  | 0, _, _, _, _, _ => none
  | n + 1, l3, l4, A, V, cu => if l1 ≤ l4 then (ex l3 A V cu) else (bC (xq_in l4 12) (fX9_replay_L59 l1 l2 l3 l4 (A 140 l4.toNatClampNeg) A V cu (fun (l6_18 : Int32) (l7_19 : Int32) => bS (fX9_take 153 (A 140 l4.toNatClampNeg) A V cu) (fun A23 V24 c25 => bI (fX9_whoHas 153 (A 140 l4.toNatClampNeg) A23 V24) (fun x27 => bX (fX9_begin l2 (A 140 l4.toNatClampNeg) (A23 141 l4.toNatClampNeg) l6_18 l7_19 l4 x27 A23 V24 c25) (fun x29 A30 V31 c32 => if l3 = (-1 : Int32) then (if x29 = 0 then (fX9_replay_L214 l1 l2 l4 l4 (A 140 l4.toNatClampNeg) (fun (A41 V42 : xM) (c43 : Value) => fX9_replay_L35 l1 l2 ex n l4 (l4 + Int32.ofInt 1) A41 V42 c43) FU (0 : Int32) A30 V31 c32) else (fX9_replay_L214 l1 l2 l3 l4 (A 140 l4.toNatClampNeg) (fun (A49 V50 : xM) (c51 : Value) => fX9_replay_L35 l1 l2 ex n l3 (l4 + Int32.ofInt 1) A49 V50 c51) FU (0 : Int32) A30 V31 c32)) else (fX9_replay_L214 l1 l2 l3 l4 (A 140 l4.toNatClampNeg) (fun (A57 V58 : xM) (c59 : Value) => fX9_replay_L35 l1 l2 ex n l3 (l4 + Int32.ofInt 1) A57 V58 c59) FU (0 : Int32) A30 V31 c32))))) FU (0 : Int32) (0 : Int32) (0 : Int32)))
def fX9_replay (l1 : Int32) (l2 : Int32) (A V : xM) (cu : Value) : Option (Int32 × xS) := fX9_replay_L5 l1 l2 (-1 : Int32) (fun (A66 V67 : xM) (c68 : Value) => fX9_replay_L35 l1 l2 (fun (l3_69 : Int32) (A79 V80 : xM) (c81 : Value) => some (l3_69, A79, V80, c81)) FU (-1 : Int32) (0 : Int32) A66 V67 c68) FU (0 : Int32) A V cu
def fX9_evening_L58 (l1 : Int32) (l2 : Int32) (l3 : Int32) (A V : xM) (cu : Value) (ex : Option (Int32 × xS)) : Nat → Int32 → Option (Int32 × xS)
  | 0, _ => none
  | n + 1, l4 => if (V 132 4) ≤ l4 then (ex) else (bC (xq_in (((40 : Int32) * l3) + l4) 160) (if (A 162 (((40 : Int32) * l3) + l4).toNatClampNeg) < (-1 : Int32) then (some ((-2 : Int32), A, V, cu)) else (if (3 : Int32) < (A 162 (((40 : Int32) * l3) + l4).toNatClampNeg) then (some ((-2 : Int32), A, V, cu)) else (fX9_evening_L58 l1 l2 l3 A V cu ex n (l4 + Int32.ofInt 1)))))
def fX9_evening_L111 (l1 : Int32) (l2 : Int32) (l3 : Int32) (l4 : Int32) (A V : xM) (cu : Value) (ex : Int32 → Option (Int32 × xS)) : Nat → Int32 → Int32 → Option (Int32 × xS)
  | 0, _, _ => none
  | n + 1, l5, l6 => if (V 132 4) ≤ l6 then (ex l5) else (bC (xq_in (((40 : Int32) * l3) + l6) 160) (if (A 162 (((40 : Int32) * l3) + l6).toNatClampNeg) = l4 then (fX9_evening_L111 l1 l2 l3 l4 A V cu ex n (l5 + (1 : Int32)) (l6 + Int32.ofInt 1)) else (fX9_evening_L111 l1 l2 l3 l4 A V cu ex n (l5 + (0 : Int32)) (l6 + Int32.ofInt 1))))
def fX9_evening_L209 (l3 : Int32) (ex : xM → xM → Value → Option (Int32 × xS)) : Nat → Int32 → xM → xM → Value → Option (Int32 × xS)
  | 0, _, _, _, _ => none
  | n + 1, l4, A, V, cu => if (5 : Int32) ≤ l4 then (ex  A V cu) else (if (V 132 4) ≤ l4 then (bC (xq_in (((5 : Int32) * (V 132 9)) + l4) 60) (fX9_evening_L209 l3 ex n (l4 + Int32.ofInt 1) (aw A 142 (((5 : Int32) * (V 132 9)) + l4) (-1 : Int32)) V cu)) else (bC (xq_in (((40 : Int32) * l3) + l4) 160) (bC (xq_in (((5 : Int32) * (V 132 9)) + l4) 60) (fX9_evening_L209 l3 ex n (l4 + Int32.ofInt 1) (aw A 142 (((5 : Int32) * (V 132 9)) + l4) (A 162 (((40 : Int32) * l3) + l4).toNatClampNeg)) V cu))))
def fX9_evening_L99 (l1 : Int32) (l2 : Int32) (l3 : Int32) (A V : xM) (cu : Value) (ex : Option (Int32 × xS)) : Nat → Int32 → Option (Int32 × xS)
  | 0, _ => none
  | n + 1, l4 => if (4 : Int32) ≤ l4 then (ex) else (fX9_evening_L111 l1 l2 l3 l4 A V cu (fun (l5_14 : Int32) => bC (xq_in l4 4) (if l5_14 ≤ (A 134 l4.toNatClampNeg) then (fX9_evening_L99 l1 l2 l3 A V cu ex n (l4 + Int32.ofInt 1)) else (some ((-3 : Int32), A, V, cu)))) FU (0 : Int32) (0 : Int32))
def fX9_evening (l1 : Int32) (l2 : Int32) (l3 : Int32) (A V : xM) (cu : Value) : Option (Int32 × xS) := if l1 < (0 : Int32) then (some ((-2 : Int32), A, V, cu)) else (if ((V 132 2) - (1 : Int32)) < l1 then (some ((-2 : Int32), A, V, cu)) else (if l2 < (0 : Int32) then (some ((-2 : Int32), A, V, cu)) else (if (3 : Int32) < l2 then (some ((-2 : Int32), A, V, cu)) else (if l3 < (0 : Int32) then (some ((-2 : Int32), A, V, cu)) else (if (3 : Int32) < l3 then (some ((-2 : Int32), A, V, cu)) else (bC (xq_in l3 4) (if 0 ≤ (A 160 l3.toNatClampNeg) then (if (A 161 l3.toNatClampNeg) = (V 132 4) then (fX9_evening_L58 l1 l2 l3 A V cu (fX9_evening_L99 l1 l2 l3 A V cu (if (V 132 9) = (12 : Int32) then (some ((-4 : Int32), A, V, cu)) else (bC (xq_in (V 132 9) 12) (fX9_evening_L209 l3 (fun (A41 V42 : xM) (c43 : Value) => some ((((up2 V42 132 9 ((V42 132 9) + (1 : Int32))) 132 9) - (1 : Int32)), A41, (up2 V42 132 9 ((V42 132 9) + (1 : Int32))), c43)) FU (0 : Int32) (aw (aw A 140 (V 132 9) l1) 141 (V 132 9) l2) V cu))) FU (0 : Int32)) FU (0 : Int32)) else (some ((-2 : Int32), A, V, cu))) else (some ((-11 : Int32), A, V, cu)))))))))
def fX9_knows (l1 : Int32) (l2 : Int32) (l3 : Int32) (A V : xM) (cu : Value) : Option (Int32 × xS) := if l1 < (0 : Int32) then (some ((-5 : Int32), A, V, cu)) else (if (V 132 9) < l1 then (some ((-5 : Int32), A, V, cu)) else (if l2 < (0 : Int32) then (some ((-5 : Int32), A, V, cu)) else (if ((V 132 4) - (1 : Int32)) < l2 then (some ((-5 : Int32), A, V, cu)) else (if l3 < (0 : Int32) then (some ((-5 : Int32), A, V, cu)) else (if ((V 132 2) - (1 : Int32)) < l3 then (some ((-5 : Int32), A, V, cu)) else (bX (fX9_replay l1 (V 132 16) A V cu) (fun x7 A8 V9 c10 => bC (xq_in (((6 : Int32) * l2) + l3) 30) (some ((A8 153 (((6 : Int32) * l2) + l3).toNatClampNeg), A8, V9, c10)))))))))
def fX9_isSo (l0 : Int32) (l1 : Int32) (A V : xM) : Option (Int32) := if l1 = 0 then (if l0 ≤ (1 : Int32) then (some (0 : Int32)) else (some (1 : Int32))) else (if l1 = (1 : Int32) then (if l0 = (1 : Int32) then (some (1 : Int32)) else (some (0 : Int32))) else (if l0 = (3 : Int32) then (some (1 : Int32)) else (some (0 : Int32))))
def fX9_all_L51 (l2 : Int32) (l3 : Int32) (A V : xM) (cu : Value) (ex : Int32 → Option (Int32 × xS)) : Nat → Int32 → Int32 → Option (Int32 × xS)
  | 0, _, _ => none
  | n + 1, l4, l5 => if (V 132 4) ≤ l5 then (ex l4) else (bC (xq_in (((6 : Int32) * l5) + l2) 30) (bI (fX9_isSo (A 153 (((6 : Int32) * l5) + l2).toNatClampNeg) l3 A V) (fun x3 => if x3 = 0 then (fX9_all_L51 l2 l3 A V cu ex n (l4 ||| (0 : Int32)) (l5 + Int32.ofInt 1)) else (fX9_all_L51 l2 l3 A V cu ex n (l4 ||| ((1 : Int32) <<< (l5 &&& 31))) (l5 + Int32.ofInt 1)))))
def fX9_all (l1 : Int32) (l2 : Int32) (l3 : Int32) (A V : xM) (cu : Value) : Option (Int32 × xS) := if l1 < (0 : Int32) then (some ((-5 : Int32), A, V, cu)) else (if (V 132 9) < l1 then (some ((-5 : Int32), A, V, cu)) else (if l2 < (0 : Int32) then (some ((-5 : Int32), A, V, cu)) else (if ((V 132 2) - (1 : Int32)) < l2 then (some ((-5 : Int32), A, V, cu)) else (if l3 < (0 : Int32) then (some ((-7 : Int32), A, V, cu)) else (if (2 : Int32) < l3 then (some ((-7 : Int32), A, V, cu)) else (bX (fX9_replay l1 (V 132 16) A V cu) (fun x12 A13 V14 c15 => fX9_all_L51 l2 l3 A13 V14 c15 (fun (l4_17 : Int32) => some (l4_17, A13, V14, c15)) FU (0 : Int32) (0 : Int32))))))))
def fX9_judge (A V : xM) (cu : Value) : Option (Int32 × xS) := bX (fX9_replay (V 132 9) (V 132 16) A V cu) (fun x1 A2 V3 c4 => some (x1, A2, V3, c4))
def fX9_laws_L4 (ex : Int32 → xM → xM → Value → Option (Int32 × xS)) : Nat → Int32 → Int32 → xM → xM → Value → Option (Int32 × xS)
  | 0, _, _, _, _, _ => none
  | n + 1, l1, l2, A, V, cu => if (V 132 15) ≤ l2 then (ex l1 A V cu) else (bX (fX9_replay (V 132 9) l2 A V cu) (fun x2 A3 V4 c5 => if x2 = (-1 : Int32) then (fX9_laws_L4 ex n (l1 ||| ((1 : Int32) <<< (l2 &&& 31))) (l2 + Int32.ofInt 1) A3 V4 c5) else (fX9_laws_L4 ex n (l1 ||| (0 : Int32)) (l2 + Int32.ofInt 1) A3 V4 c5)))
def fX9_laws (A V : xM) (cu : Value) : Option (Int32 × xS) := fX9_laws_L4 (fun (l1_8 : Int32) (A11 V12 : xM) (c13 : Value) => some (l1_8, A11, V12, c13)) FU (0 : Int32) (0 : Int32) A V cu
def fX9_mayBefore (l1 : Int32) (l2 : Int32) (l3 : Int32) (A V : xM) (cu : Value) : Option (Int32 × xS) := bS (fX9_take 139 l1 A V cu) (fun A2 V3 c4 => bX (fX9_may (V3 132 16) l1 l2 l3 (0 : Int32) A2 V3 c4) (fun x6 A7 V8 c9 => bC (decide (x6 = 0) || decide (x6 = 1)) (some (x6, A7, V8, c9))))
def fX9_feast_L25 (l1 : Int32) (l2 : Int32) (ex : Int32 → xM → xM → Value → Option (Int32 × xS)) : Nat → Int32 → Int32 → xM → xM → Value → Option (Int32 × xS)
  | 0, _, _, _, _, _ => none
  | n + 1, l3, l4, A, V, cu => if (V 132 2) ≤ l4 then (ex l3 A V cu) else (bX (fX9_mayBefore l4 l1 l2 A V cu) (fun x2 A3 V4 c5 => if x2 = 0 then (fX9_feast_L25 l1 l2 ex n (l3 ||| (0 : Int32)) (l4 + Int32.ofInt 1) A3 V4 c5) else (fX9_feast_L25 l1 l2 ex n (l3 ||| ((1 : Int32) <<< (l4 &&& 31))) (l4 + Int32.ofInt 1) A3 V4 c5)))
def fX9_feast (l1 : Int32) (l2 : Int32) (A V : xM) (cu : Value) : Option (Int32 × xS) := if l1 < (0 : Int32) then (some ((-2 : Int32), A, V, cu)) else (if (3 : Int32) < l1 then (some ((-2 : Int32), A, V, cu)) else (if l2 < 0 then (some ((-2 : Int32), A, V, cu)) else (if ((1 : Int32) <<< ((V 132 4) &&& 31)) ≤ l2 then (some ((-2 : Int32), A, V, cu)) else (fX9_feast_L25 l1 l2 (fun (l3_12 : Int32) (A17 V18 : xM) (c19 : Value) => some (l3_12, A17, V18, c19)) FU (0 : Int32) (0 : Int32) A V cu))))
def fX9_leave_L46 (l1 : Int32) (l2 : Int32) (l3 : Int32) (l4 : Int32) (ex : xM → xM → Value → Option (Int32 × xS)) : Nat → Int32 → xM → xM → Value → Option (Int32 × xS)
  | 0, _, _, _, _ => none
  | n + 1, l5, A, V, cu => if l3 < l5 then (ex  A V cu) else (if (l5 &&& l3) = l5 then (bI (fX9_size l5 A V) (fun x3 => if x3 = l4 then (bX (fX9_mayBefore l1 l2 (l3 &&& (l5 ^^^ (-1 : Int32))) A V cu) (fun x6 A7 V8 c9 => if x6 = 0 then (fX9_leave_L46 l1 l2 l3 l4 ex n (l5 + Int32.ofInt 1) A7 V8 c9) else (some (l5, A7, V8, c9)))) else (fX9_leave_L46 l1 l2 l3 l4 ex n (l5 + Int32.ofInt 1) A V cu))) else (fX9_leave_L46 l1 l2 l3 l4 ex n (l5 + Int32.ofInt 1) A V cu))
def fX9_leave_L34 (l1 : Int32) (l2 : Int32) (l3 : Int32) (ex : xM → xM → Value → Option (Int32 × xS)) : Nat → Int32 → xM → xM → Value → Option (Int32 × xS)
  | 0, _, _, _, _ => none
  | n + 1, l4, A, V, cu => bI (fX9_size l3 A V) (fun x12 => if x12 < l4 then (ex  A V cu) else (fX9_leave_L46 l1 l2 l3 l4 (fun (A16 V17 : xM) (c18 : Value) => fX9_leave_L34 l1 l2 l3 ex n (l4 + Int32.ofInt 1) A16 V17 c18) FU (0 : Int32) A V cu))
def fX9_leave (l1 : Int32) (l2 : Int32) (l3 : Int32) (A V : xM) (cu : Value) : Option (Int32 × xS) := if l1 < (0 : Int32) then (some ((-5 : Int32), A, V, cu)) else (if ((V 132 2) - (1 : Int32)) < l1 then (some ((-5 : Int32), A, V, cu)) else (if l2 < (0 : Int32) then (some ((-7 : Int32), A, V, cu)) else (if (3 : Int32) < l2 then (some ((-7 : Int32), A, V, cu)) else (if l3 < 0 then (some ((-7 : Int32), A, V, cu)) else (if ((1 : Int32) <<< ((V 132 4) &&& 31)) ≤ l3 then (some ((-7 : Int32), A, V, cu)) else (fX9_leave_L34 l1 l2 l3 (fun (A31 V32 : xM) (c33 : Value) => some ((-1 : Int32), A31, V32, c33)) FU (0 : Int32) A V cu))))))
def fX9_bars_L49 (l1 : Int32) (l2 : Int32) (l3 : Int32) (ex : Int32 → xM → xM → Value → Option (Int32 × xS)) : Nat → Int32 → Int32 → xM → xM → Value → Option (Int32 × xS)
  | 0, _, _, _, _, _ => none
  | n + 1, l4, l5, A, V, cu => if (V 132 4) ≤ l5 then (ex l4 A V cu) else (if ((l3 >>> (l5 &&& 31)) &&& (1 : Int32)) = (1 : Int32) then (bX (fX9_mayBefore l1 l2 (l3 &&& (((1 : Int32) <<< (l5 &&& 31)) ^^^ (-1 : Int32))) A V cu) (fun x3 A4 V5 c6 => if x3 = 0 then (fX9_bars_L49 l1 l2 l3 ex n (l4 ||| (0 : Int32)) (l5 + Int32.ofInt 1) A4 V5 c6) else (fX9_bars_L49 l1 l2 l3 ex n (l4 ||| ((1 : Int32) <<< (l5 &&& 31))) (l5 + Int32.ofInt 1) A4 V5 c6))) else (fX9_bars_L49 l1 l2 l3 ex n (l4 ||| (0 : Int32)) (l5 + Int32.ofInt 1) A V cu))
def fX9_bars (l1 : Int32) (l2 : Int32) (l3 : Int32) (A V : xM) (cu : Value) : Option (Int32 × xS) := if l1 < (0 : Int32) then (some ((-5 : Int32), A, V, cu)) else (if ((V 132 2) - (1 : Int32)) < l1 then (some ((-5 : Int32), A, V, cu)) else (if l2 < (0 : Int32) then (some ((-7 : Int32), A, V, cu)) else (if (3 : Int32) < l2 then (some ((-7 : Int32), A, V, cu)) else (if l3 < 0 then (some ((-7 : Int32), A, V, cu)) else (if ((1 : Int32) <<< ((V 132 4) &&& 31)) ≤ l3 then (some ((-7 : Int32), A, V, cu)) else (bX (fX9_mayBefore l1 l2 l3 A V cu) (fun x15 A16 V17 c18 => if x15 = 0 then (fX9_bars_L49 l1 l2 l3 (fun (l4_21 : Int32) (A28 V29 : xM) (c30 : Value) => some (l4_21, A28, V29, c30)) FU (0 : Int32) (0 : Int32) A16 V17 c18) else (some ((0 : Int32), A16, V17, c18)))))))))
def fX9_ends_L43 (l1 : Int32) (l2 : Int32) (l3 : Int32) (l4 : Int32) (ex : Int32 → xM → xM → Value → Option (Int32 × xS)) : Nat → Int32 → Int32 → xM → xM → Value → Option (Int32 × xS)
  | 0, _, _, _, _, _ => none
  | n + 1, l5, l6, A, V, cu => if ((1 : Int32) <<< ((V 132 4) &&& 31)) ≤ l6 then (ex l5 A V cu) else (if l5 = 0 then (if ((l6 >>> (l1 &&& 31)) &&& (1 : Int32)) = (1 : Int32) then (bI (fX9_size l6 A V) (fun x4 => bC (xq_in l2 4) (if (A 134 l2.toNatClampNeg) < x4 then (fX9_ends_L43 l1 l2 l3 l4 ex n (0 : Int32) (l6 + Int32.ofInt 1) A V cu) else (bX (fX9_mayBefore l4 l2 l6 A V cu) (fun x8 A9 V10 c11 => if x8 = 0 then (fX9_ends_L43 l1 l2 l3 l4 ex n (0 : Int32) (l6 + Int32.ofInt 1) A9 V10 c11) else (fX9_ends_L43 l1 l2 l3 l4 ex n (1 : Int32) (l6 + Int32.ofInt 1) A9 V10 c11)))))) else (fX9_ends_L43 l1 l2 l3 l4 ex n (0 : Int32) (l6 + Int32.ofInt 1) A V cu)) else (ex l5 A V cu))
def fX9_ends_L28 (l1 : Int32) (l2 : Int32) (ex : Int32 → xM → xM → Value → Option (Int32 × xS)) : Nat → Int32 → Int32 → xM → xM → Value → Option (Int32 × xS)
  | 0, _, _, _, _, _ => none
  | n + 1, l3, l4, A, V, cu => if (V 132 2) ≤ l4 then (ex l3 A V cu) else (fX9_ends_L43 l1 l2 l3 l4 (fun (l5_15 : Int32) (A17 V18 : xM) (c19 : Value) => if l5_15 = 0 then (fX9_ends_L28 l1 l2 ex n (l3 ||| ((1 : Int32) <<< (l4 &&& 31))) (l4 + Int32.ofInt 1) A17 V18 c19) else (fX9_ends_L28 l1 l2 ex n (l3 ||| (0 : Int32)) (l4 + Int32.ofInt 1) A17 V18 c19)) FU (0 : Int32) (1 : Int32) A V cu)
def fX9_ends (l1 : Int32) (l2 : Int32) (A V : xM) (cu : Value) : Option (Int32 × xS) := if l1 < (0 : Int32) then (some ((-5 : Int32), A, V, cu)) else (if ((V 132 4) - (1 : Int32)) < l1 then (some ((-5 : Int32), A, V, cu)) else (if l2 < (0 : Int32) then (some ((-7 : Int32), A, V, cu)) else (if (3 : Int32) < l2 then (some ((-7 : Int32), A, V, cu)) else (fX9_ends_L28 l1 l2 (fun (l3_25 : Int32) (A32 V33 : xM) (c34 : Value) => some (l3_25, A32, V33, c34)) FU (0 : Int32) (0 : Int32) A V cu))))
def fX9_state_L4 (A V : xM) (ex : Int32 → Option (Int32)) : Nat → Int32 → Int32 → Option (Int32)
  | 0, _, _ => none
  | n + 1, l1, l2 => if (V 132 4) ≤ l2 then (ex l1) else (bC (xq_in l2 5) (fX9_state_L4 A V ex n (l1 ||| ((A 152 l2.toNatClampNeg) <<< (((2 : Int32) * l2) &&& 31))) (l2 + Int32.ofInt 1)))
def fX9_state (A V : xM) : Option (Int32) := fX9_state_L4 A V (fun (l1_3 : Int32) => some l1_3) FU (0 : Int32) (0 : Int32)
def fX9_take__L2 (l1 : Int32) (ex : xM → xM → Value → Option (xS)) : Nat → Int32 → xM → xM → Value → Option (xS)
  | 0, _, _, _, _ => none
  | n + 1, l2, A, V, cu => if (V 132 4) ≤ l2 then (ex  A V cu) else (bC (xq_in l2 5) (fX9_take__L2 l1 ex n (l2 + Int32.ofInt 1) (aw A 152 l2 ((l1 >>> (((2 : Int32) * l2) &&& 31)) &&& (3 : Int32))) V cu))
def fX9_take_ (l1 : Int32) (A V : xM) (cu : Value) : Option (xS) := fX9_take__L2 l1 (fun (A6 V7 : xM) (c8 : Value) => some (A6, V7, c8)) FU (0 : Int32) A V cu
def fX9_much (l0 : Int32) (l1 : Int32) (A V : xM) : Option (Int32) := if ((l0 >>> (((2 : Int32) * l1) &&& 31)) &&& (3 : Int32)) ≤ (2 : Int32) then (some ((l0 >>> (((2 : Int32) * l1) &&& 31)) &&& (3 : Int32))) else (some (2 : Int32))
def fX9_isDone_L6 (l1 : Int32) (l2 : Int32) (l3 : Int32) (l4 : Int32) (A V : xM) (ex : Int32 → Option (Int32)) : Nat → Int32 → Int32 → Option (Int32)
  | 0, _, _ => none
  | n + 1, l5, l6 => if (V 132 4) ≤ l6 then (ex l5) else (if l5 = 0 then (fX9_isDone_L6 l1 l2 l3 l4 A V ex n (0 : Int32) (l6 + Int32.ofInt 1)) else (if ((l3 >>> (l6 &&& 31)) &&& (1 : Int32)) = 0 then (if ((l4 >>> (l6 &&& 31)) &&& (1 : Int32)) = 0 then (fX9_isDone_L6 l1 l2 l3 l4 A V ex n (1 : Int32) (l6 + Int32.ofInt 1)) else (bI (fX9_much l1 l6 A V) (fun x5 => bI (fX9_much l2 l6 A V) (fun x7 => if x5 = x7 then (fX9_isDone_L6 l1 l2 l3 l4 A V ex n (1 : Int32) (l6 + Int32.ofInt 1)) else (fX9_isDone_L6 l1 l2 l3 l4 A V ex n (0 : Int32) (l6 + Int32.ofInt 1)))))) else (bI (fX9_much l1 l6 A V) (fun x10 => if x10 = (2 : Int32) then (if ((l4 >>> (l6 &&& 31)) &&& (1 : Int32)) = 0 then (fX9_isDone_L6 l1 l2 l3 l4 A V ex n (1 : Int32) (l6 + Int32.ofInt 1)) else (bI (fX9_much l1 l6 A V) (fun x14 => bI (fX9_much l2 l6 A V) (fun x16 => if x14 = x16 then (fX9_isDone_L6 l1 l2 l3 l4 A V ex n (1 : Int32) (l6 + Int32.ofInt 1)) else (fX9_isDone_L6 l1 l2 l3 l4 A V ex n (0 : Int32) (l6 + Int32.ofInt 1)))))) else (fX9_isDone_L6 l1 l2 l3 l4 A V ex n (0 : Int32) (l6 + Int32.ofInt 1))))))
def fX9_isDone (l1 : Int32) (l2 : Int32) (l3 : Int32) (l4 : Int32) (A V : xM) : Option (Int32) := fX9_isDone_L6 l1 l2 l3 l4 A V (fun (l5_19 : Int32) => bC (decide (l5_19 = 0) || decide (l5_19 = 1)) (some l5_19)) FU (1 : Int32) (0 : Int32)
def fX9_plan_L29 (l1 : Int32) (l2 : Int32) (l3 : Int32) (l4 : Int32) (l5 : Int32) (l6 : Int32) (l7 : Int32) (ex : xM → xM → Value → Option (xS)) : Nat → Int32 → xM → xM → Value → Option (xS)
  | 0, _, _, _, _ => none
  | n + 1, l8, A, V, cu => if (1024 : Int32) ≤ l8 then (ex  A V cu) else (bC (xq_in l8 1024) (fX9_plan_L29 l1 l2 l3 l4 l5 l6 l7 ex n (l8 + Int32.ofInt 1) (aw A 155 l8 (-1 : Int32)) V cu))
def fX9_plan_L259 (l1 : Int32) (l2 : Int32) (l3 : Int32) (l4 : Int32) (l5 : Int32) (l6 : Int32) (l7 : Int32) (l8 : Int32) (l9 : Int32) (l10 : Int32) (l11 : Int32) (l12 : Int32) (l13 : Int32) (A V : xM) (cu : Value) (ex : Int32 → Option (xS)) : Nat → Int32 → Int32 → Option (xS)
  | 0, _, _ => none
  | n + 1, l14, l15 => if (V 132 4) ≤ l15 then (ex l14) else (if l14 = 0 then (bI (fX9_much l13 l15 A V) (fun x5 => bI (fX9_much l10 l15 A V) (fun x7 => if x5 ≤ x7 then (fX9_plan_L259 l1 l2 l3 l4 l5 l6 l7 l8 l9 l10 l11 l12 l13 A V cu ex n (0 : Int32) (l15 + Int32.ofInt 1)) else (fX9_plan_L259 l1 l2 l3 l4 l5 l6 l7 l8 l9 l10 l11 l12 l13 A V cu ex n (1 : Int32) (l15 + Int32.ofInt 1))))) else (fX9_plan_L259 l1 l2 l3 l4 l5 l6 l7 l8 l9 l10 l11 l12 l13 A V cu ex n (1 : Int32) (l15 + Int32.ofInt 1)))
def fX9_plan_L182 (l1 : Int32) (l2 : Int32) (l3 : Int32) (l4 : Int32) (l5 : Int32) (l6 : Int32) (l7 : Int32) (l9 : Int32) (l10 : Int32) (ex : Int32 → xM → xM → Value → Option (xS)) : Nat → Int32 → Int32 → xM → xM → Value → Option (xS)
  | 0, _, _, _, _, _ => none
  | n + 1, l8, l11, A, V, cu => if ((1 : Int32) <<< ((V 132 4) &&& 31)) ≤ l11 then (ex l8 A V cu) else (if (V 132 41) = (-1 : Int32) then (if (l11 &&& l5) = 0 then (bI (fX9_size l11 A V) (fun x13 => bC (xq_in l2 4) (if (A 134 l2.toNatClampNeg) < x13 then (fX9_plan_L182 l1 l2 l3 l4 l5 l6 l7 l9 l10 ex n l8 (l11 + Int32.ofInt 1) A V cu) else (bS (fX9_take_ l10 A V cu) (fun A18 V19 c20 => bX (fX9_begin (V19 132 16) l1 l2 l11 (0 : Int32) (0 : Int32) l6 A18 V19 c20) (fun x22 A23 V24 c25 => bI (fX9_state A23 V24) (fun x27 => fX9_plan_L259 l1 l2 l3 l4 l5 l6 l7 l8 l9 l10 l11 x22 x27 A23 V24 c25 (fun (l14_29 : Int32) => if x22 = 0 then (fX9_plan_L182 l1 l2 l3 l4 l5 l6 l7 l9 l10 ex n l8 (l11 + Int32.ofInt 1) A23 V24 c25) else (if l14_29 = 0 then (fX9_plan_L182 l1 l2 l3 l4 l5 l6 l7 l9 l10 ex n l8 (l11 + Int32.ofInt 1) A23 V24 c25) else (bC (xq_in l10 1024) (if (A23 155 l10.toNatClampNeg) = 0 then (bC (xq_in x27 1024) (if (A23 155 x27.toNatClampNeg) = (-1 : Int32) then (bC (xq_in l8 1024) (fX9_plan_L182 l1 l2 l3 l4 l5 l6 l7 l9 l10 ex n (l8 + Int32.ofInt 1) (l11 + Int32.ofInt 1) (aw (aw (aw A23 155 x27 ((A23 155 l10.toNatClampNeg) + (1 : Int32))) 156 x27 l11) 154 l8 x27) V24 c25)) else (if (A23 155 x27.toNatClampNeg) = ((A23 155 l10.toNatClampNeg) + (1 : Int32)) then (if (A23 156 x27.toNatClampNeg) ≤ l11 then (fX9_plan_L182 l1 l2 l3 l4 l5 l6 l7 l9 l10 ex n l8 (l11 + Int32.ofInt 1) A23 V24 c25) else (fX9_plan_L182 l1 l2 l3 l4 l5 l6 l7 l9 l10 ex n l8 (l11 + Int32.ofInt 1) (aw A23 156 x27 l11) V24 c25)) else (fX9_plan_L182 l1 l2 l3 l4 l5 l6 l7 l9 l10 ex n l8 (l11 + Int32.ofInt 1) A23 V24 c25)))) else (bC (xq_in x27 1024) (if (A23 155 x27.toNatClampNeg) = (-1 : Int32) then (bC (xq_in l8 1024) (fX9_plan_L182 l1 l2 l3 l4 l5 l6 l7 l9 l10 ex n (l8 + Int32.ofInt 1) (l11 + Int32.ofInt 1) (aw (aw (aw A23 155 x27 ((A23 155 l10.toNatClampNeg) + (1 : Int32))) 156 x27 (A23 156 l10.toNatClampNeg)) 154 l8 x27) V24 c25)) else (if (A23 155 x27.toNatClampNeg) = ((A23 155 l10.toNatClampNeg) + (1 : Int32)) then (if (A23 156 x27.toNatClampNeg) ≤ (A23 156 l10.toNatClampNeg) then (fX9_plan_L182 l1 l2 l3 l4 l5 l6 l7 l9 l10 ex n l8 (l11 + Int32.ofInt 1) A23 V24 c25) else (fX9_plan_L182 l1 l2 l3 l4 l5 l6 l7 l9 l10 ex n l8 (l11 + Int32.ofInt 1) (aw A23 156 x27 (A23 156 l10.toNatClampNeg)) V24 c25)) else (fX9_plan_L182 l1 l2 l3 l4 l5 l6 l7 l9 l10 ex n l8 (l11 + Int32.ofInt 1) A23 V24 c25)))))))) FU (0 : Int32) (0 : Int32)))))))) else (fX9_plan_L182 l1 l2 l3 l4 l5 l6 l7 l9 l10 ex n l8 (l11 + Int32.ofInt 1) A V cu)) else (ex l8 A V cu))
def fX9_plan_L91 (l1 : Int32) (l2 : Int32) (l3 : Int32) (l4 : Int32) (l5 : Int32) (l6 : Int32) (l7 : Int32) (ex : xM → xM → Value → Option (xS)) : Nat → Int32 → Int32 → xM → xM → Value → Option (xS)
  | 0, _, _, _, _, _ => none
  | n + 1, l8, l9, A, V, cu => if l8 ≤ l9 then (ex  A V cu) else (bC (xq_in l9 1024) (bI (fX9_isDone (A 154 l9.toNatClampNeg) l7 l3 l4 A V) (fun x47 => if x47 = 0 then (fX9_plan_L182 l1 l2 l3 l4 l5 l6 l7 l9 (A 154 l9.toNatClampNeg) (fun (l8_50 : Int32) (A57 V58 : xM) (c59 : Value) => fX9_plan_L91 l1 l2 l3 l4 l5 l6 l7 ex n l8_50 (l9 + Int32.ofInt 1) A57 V58 c59) FU l8 (1 : Int32) A V cu) else (if (V 132 41) = (-1 : Int32) then (bC (xq_in (A 154 l9.toNatClampNeg) 1024) (fX9_plan_L182 l1 l2 l3 l4 l5 l6 l7 l9 (A 154 l9.toNatClampNeg) (fun (l8_62 : Int32) (A69 V70 : xM) (c71 : Value) => fX9_plan_L91 l1 l2 l3 l4 l5 l6 l7 ex n l8_62 (l9 + Int32.ofInt 1) A69 V70 c71) FU l8 (1 : Int32) A (up2 (up2 V 132 41 (A 155 (A 154 l9.toNatClampNeg).toNatClampNeg)) 132 42 (A 156 (A 154 l9.toNatClampNeg).toNatClampNeg)) cu)) else (bC (xq_in (A 154 l9.toNatClampNeg) 1024) (if (A 155 (A 154 l9.toNatClampNeg).toNatClampNeg) = (V 132 41) then (if (V 132 42) ≤ (A 156 (A 154 l9.toNatClampNeg).toNatClampNeg) then (fX9_plan_L182 l1 l2 l3 l4 l5 l6 l7 l9 (A 154 l9.toNatClampNeg) (fun (l8_75 : Int32) (A82 V83 : xM) (c84 : Value) => fX9_plan_L91 l1 l2 l3 l4 l5 l6 l7 ex n l8_75 (l9 + Int32.ofInt 1) A82 V83 c84) FU l8 (1 : Int32) A V cu) else (fX9_plan_L182 l1 l2 l3 l4 l5 l6 l7 l9 (A 154 l9.toNatClampNeg) (fun (l8_85 : Int32) (A92 V93 : xM) (c94 : Value) => fX9_plan_L91 l1 l2 l3 l4 l5 l6 l7 ex n l8_85 (l9 + Int32.ofInt 1) A92 V93 c94) FU l8 (1 : Int32) A (up2 (up2 V 132 41 (A 155 (A 154 l9.toNatClampNeg).toNatClampNeg)) 132 42 (A 156 (A 154 l9.toNatClampNeg).toNatClampNeg)) cu)) else (fX9_plan_L182 l1 l2 l3 l4 l5 l6 l7 l9 (A 154 l9.toNatClampNeg) (fun (l8_95 : Int32) (A102 V103 : xM) (c104 : Value) => fX9_plan_L91 l1 l2 l3 l4 l5 l6 l7 ex n l8_95 (l9 + Int32.ofInt 1) A102 V103 c104) FU l8 (1 : Int32) A V cu)))))))
def fX9_plan (l1 : Int32) (l2 : Int32) (l3 : Int32) (l4 : Int32) (l5 : Int32) (A V : xM) (cu : Value) : Option (xS) := bI (fX9_whoHas 139 l1 A V) (fun x105 => bS (fX9_take 139 l1 A V cu) (fun A108 V109 c110 => bI (fX9_state A108 V109) (fun x112 => fX9_plan_L29 l1 l2 l3 l4 l5 x105 x112 (fun (A122 V123 : xM) (c124 : Value) => bC (xq_in x112 1024) (fX9_plan_L91 l1 l2 l3 l4 l5 x105 x112 (fun (A142 V143 : xM) (c144 : Value) => some (A142, V143, c144)) FU (1 : Int32) (0 : Int32) (aw (aw (aw A122 154 (0 : Int32) x112) 155 x112 (0 : Int32)) 156 x112 (-1 : Int32)) (up2 (up2 V123 132 41 (-1 : Int32)) 132 42 (-1 : Int32)) c124)) FU (0 : Int32) A108 V109 c110)))
def fX9_isAsked (l1 : Int32) (l2 : Int32) (l3 : Int32) (l4 : Int32) (A V : xM) : Option (Int32) := if l1 < (0 : Int32) then (some (0 : Int32)) else (if ((V 132 2) - (1 : Int32)) < l1 then (some (0 : Int32)) else (if l2 < (0 : Int32) then (some (0 : Int32)) else (if (3 : Int32) < l2 then (some (0 : Int32)) else (if l3 < 0 then (some (0 : Int32)) else (if ((1 : Int32) <<< ((V 132 4) &&& 31)) ≤ l3 then (some (0 : Int32)) else (if l4 < 0 then (some (0 : Int32)) else (if ((1 : Int32) <<< ((V 132 4) &&& 31)) ≤ l4 then (some (0 : Int32)) else (some (1 : Int32)))))))))
def fX9_least (l1 : Int32) (l2 : Int32) (l3 : Int32) (l4 : Int32) (l5 : Int32) (A V : xM) (cu : Value) : Option (Int32 × xS) := bI (fX9_isAsked l1 l2 l3 l4 A V) (fun x1 => if x1 = 0 then (some ((-5 : Int32), A, V, cu)) else (if l5 < (0 : Int32) then (some ((-7 : Int32), A, V, cu)) else (if (1 : Int32) < l5 then (some ((-7 : Int32), A, V, cu)) else (bS (fX9_plan l1 l2 l3 l4 (0 : Int32) A V cu) (fun A7 V8 c9 => if l5 = 0 then (some ((V8 132 41), A7, V8, c9)) else (some ((V8 132 42), A7, V8, c9)))))))
def fX9_why_L41 (l1 : Int32) (l2 : Int32) (l3 : Int32) (l4 : Int32) (ex : Int32 → xM → xM → Value → Option (Int32 × xS)) : Nat → Int32 → Int32 → xM → xM → Value → Option (Int32 × xS)
  | 0, _, _, _, _, _ => none
  | n + 1, l5, l6, A, V, cu => if (V 132 4) ≤ l6 then (ex l5 A V cu) else (bS (fX9_plan l1 l2 (l3 &&& (((1 : Int32) <<< (l6 &&& 31)) ^^^ (-1 : Int32))) l4 ((1 : Int32) <<< (l6 &&& 31)) A V cu) (fun A3 V4 c5 => if (V4 132 41) = (-1 : Int32) then (fX9_why_L41 l1 l2 l3 l4 ex n (l5 ||| (0 : Int32)) (l6 + Int32.ofInt 1) A3 V4 c5) else (fX9_why_L41 l1 l2 l3 l4 ex n (l5 ||| ((1 : Int32) <<< (l6 &&& 31))) (l6 + Int32.ofInt 1) A3 V4 c5)))
def fX9_why (l1 : Int32) (l2 : Int32) (l3 : Int32) (l4 : Int32) (A V : xM) (cu : Value) : Option (Int32 × xS) := bI (fX9_isAsked l1 l2 l3 l4 A V) (fun x8 => if x8 = 0 then (some ((-5 : Int32), A, V, cu)) else (bS (fX9_plan l1 l2 l3 l4 (0 : Int32) A V cu) (fun A12 V13 c14 => if (V13 132 41) = (-1 : Int32) then (fX9_why_L41 l1 l2 l3 l4 (fun (l5_17 : Int32) (A24 V25 : xM) (c26 : Value) => some (l5_17, A24, V25, c26)) FU (0 : Int32) (0 : Int32) A12 V13 c14) else (some ((0 : Int32), A12, V13, c14)))))
def fX9_place_L23 (l1 : Int32) (l2 : Int32) (l3 : Int32) (ex : Int32 → xM → xM → Value → Option (Int32 × xS)) : Nat → Int32 → Int32 → Int32 → xM → xM → Value → Option (Int32 × xS)
  | 0, _, _, _, _, _, _ => none
  | n + 1, l4, l5, l6, A, V, cu => if (4 : Int32) ≤ l6 then (ex l5 A V cu) else (bS (fX9_plan l1 l6 l2 l3 (0 : Int32) A V cu) (fun A3 V4 c5 => if (V4 132 41) = (-1 : Int32) then (fX9_place_L23 l1 l2 l3 ex n l4 l5 (l6 + Int32.ofInt 1) A3 V4 c5) else (if l4 = (-1 : Int32) then (fX9_place_L23 l1 l2 l3 ex n (V4 132 41) l6 (l6 + Int32.ofInt 1) A3 V4 c5) else (if l4 ≤ (V4 132 41) then (fX9_place_L23 l1 l2 l3 ex n l4 l5 (l6 + Int32.ofInt 1) A3 V4 c5) else (fX9_place_L23 l1 l2 l3 ex n (V4 132 41) l6 (l6 + Int32.ofInt 1) A3 V4 c5)))))
def fX9_place (l1 : Int32) (l2 : Int32) (l3 : Int32) (A V : xM) (cu : Value) : Option (Int32 × xS) := bI (fX9_isAsked l1 (0 : Int32) l2 l3 A V) (fun x10 => if x10 = 0 then (some ((-5 : Int32), A, V, cu)) else (fX9_place_L23 l1 l2 l3 (fun (l5_13 : Int32) (A20 V21 : xM) (c22 : Value) => some (l5_13, A20, V21, c22)) FU (-1 : Int32) (-1 : Int32) (0 : Int32) A V cu))
def fX9_whole_L25 (l1 : Int32) (l2 : Int32) (ex : Int32 → xM → xM → Value → Option (Int32 × xS)) : Nat → Int32 → Int32 → xM → xM → Value → Option (Int32 × xS)
  | 0, _, _, _, _, _ => none
  | n + 1, l3, l4, A, V, cu => if (V 132 2) ≤ l4 then (ex l3 A V cu) else (bS (fX9_plan l4 l1 l2 (0 : Int32) (0 : Int32) A V cu) (fun A3 V4 c5 => if (V4 132 41) = (-1 : Int32) then (some ((-1 : Int32), A3, V4, c5)) else (fX9_whole_L25 l1 l2 ex n (l3 + (V4 132 41)) (l4 + Int32.ofInt 1) A3 V4 c5)))
def fX9_whole (l1 : Int32) (l2 : Int32) (A V : xM) (cu : Value) : Option (Int32 × xS) := if l1 < (0 : Int32) then (some ((-5 : Int32), A, V, cu)) else (if (3 : Int32) < l1 then (some ((-5 : Int32), A, V, cu)) else (if l2 < 0 then (some ((-5 : Int32), A, V, cu)) else (if ((1 : Int32) <<< ((V 132 4) &&& 31)) ≤ l2 then (some ((-5 : Int32), A, V, cu)) else (fX9_whole_L25 l1 l2 (fun (l3_12 : Int32) (A17 V18 : xM) (c19 : Value) => some (l3_12, A17, V18, c19)) FU (0 : Int32) (0 : Int32) A V cu))))
def fX9_was_L156 (l1 : Int32) (l2 : Int32) (l3 : Int32) (l4 : Int32) (l5 : Int32) (l6 : Int32) (l7 : Int32) (l8 : Int32) (l9 : Int32) (A V : xM) (cu : Value) (ex : Int32 → Option (Int32 × xS)) : Nat → Int32 → Int32 → Option (Int32 × xS)
  | 0, _, _ => none
  | n + 1, l10, l11 => if (V 132 4) ≤ l11 then (ex l10) else (if l10 = 0 then (fX9_was_L156 l1 l2 l3 l4 l5 l6 l7 l8 l9 A V cu ex n (0 : Int32) (l11 + Int32.ofInt 1)) else (bC (xq_in (((40 : Int32) * l3) + l11) 160) (bC (xq_in l11 5) (if (A 162 (((40 : Int32) * l3) + l11).toNatClampNeg) = (bif decide ((A 152 l11.toNatClampNeg) < (2 : Int32)) then (A 152 l11.toNatClampNeg) else (2 : Int32)) then (fX9_was_L156 l1 l2 l3 l4 l5 l6 l7 l8 l9 A V cu ex n (1 : Int32) (l11 + Int32.ofInt 1)) else (fX9_was_L156 l1 l2 l3 l4 l5 l6 l7 l8 l9 A V cu ex n (0 : Int32) (l11 + Int32.ofInt 1))))))
def fX9_was_L101 (l1 : Int32) (l2 : Int32) (l3 : Int32) (l4 : Int32) (l5 : Int32) (ex : Int32 → Int32 → Int32 → xM → xM → Value → Option (Int32 × xS)) : Nat → Int32 → Int32 → Int32 → Int32 → xM → xM → Value → Option (Int32 × xS)
  | 0, _, _, _, _, _, _, _ => none
  | n + 1, l6, l7, l8, l9, A, V, cu => if ((1 : Int32) <<< ((V 132 4) &&& 31)) ≤ l9 then (ex l6 l7 l8 A V cu) else (bI (fX9_size l9 A V) (fun x7 => bC (xq_in l2 4) (if (A 134 l2.toNatClampNeg) < x7 then (fX9_was_L101 l1 l2 l3 l4 l5 ex n l6 l7 l8 (l9 + Int32.ofInt 1) A V cu) else (bS (fX9_take 139 l1 A V cu) (fun A12 V13 c14 => bX (fX9_begin (V13 132 16) l1 l2 l9 (0 : Int32) (0 : Int32) l5 A12 V13 c14) (fun x16 A17 V18 c19 => fX9_was_L156 l1 l2 l3 l4 l5 l6 l7 l8 l9 A17 V18 c19 (fun (l10_21 : Int32) => if l10_21 = 0 then (fX9_was_L101 l1 l2 l3 l4 l5 ex n l6 l7 l8 (l9 + Int32.ofInt 1) A17 V18 c19) else (fX9_was_L101 l1 l2 l3 l4 l5 ex n (l6 + Int32.ofInt 1) (l7 &&& l9) (l8 ||| l9) (l9 + Int32.ofInt 1) A17 V18 c19)) FU x16 (0 : Int32)))))))
def fX9_was (l1 : Int32) (l2 : Int32) (l3 : Int32) (l4 : Int32) (A V : xM) (cu : Value) : Option (Int32 × xS) := if l1 < (0 : Int32) then (some ((-5 : Int32), A, V, cu)) else (if ((V 132 2) - (1 : Int32)) < l1 then (some ((-5 : Int32), A, V, cu)) else (if l2 < (0 : Int32) then (some ((-7 : Int32), A, V, cu)) else (if (3 : Int32) < l2 then (some ((-7 : Int32), A, V, cu)) else (if l4 < (0 : Int32) then (some ((-7 : Int32), A, V, cu)) else (if (2 : Int32) < l4 then (some ((-7 : Int32), A, V, cu)) else (if l3 < (0 : Int32) then (some ((-2 : Int32), A, V, cu)) else (if (3 : Int32) < l3 then (some ((-2 : Int32), A, V, cu)) else (bC (xq_in l3 4) (if 0 ≤ (A 160 l3.toNatClampNeg) then (if (A 161 l3.toNatClampNeg) = (V 132 4) then (bI (fX9_whoHas 139 l1 A V) (fun x35 => fX9_was_L101 l1 l2 l3 l4 x35 (fun (l6_37 : Int32) (l7_38 : Int32) (l8_39 : Int32) (A48 V49 : xM) (c50 : Value) => if l4 = 0 then (some (l6_37, A48, V49, c50)) else (if l4 = (1 : Int32) then (if l6_37 = 0 then (some ((0 : Int32), A48, V49, c50)) else (some (l7_38, A48, V49, c50))) else (some (l8_39, A48, V49, c50)))) FU (0 : Int32) (((1 : Int32) <<< ((V 132 4) &&& 31)) - (1 : Int32)) (0 : Int32) (0 : Int32) A V cu)) else (some ((-2 : Int32), A, V, cu))) else (some ((-11 : Int32), A, V, cu)))))))))))
def fX9_parts_L7 (l1 : Int32) (l2 : Int32) (A V : xM) (ex : Int64 → Option (Int64)) : Nat → Int64 → Int32 → Option (Int64)
  | 0, _, _ => none
  | n + 1, l3, l5 => if (V 132 4) ≤ l5 then (ex l3) else (if ((l2 >>> (l5 &&& 31)) &&& (1 : Int32)) = (1 : Int32) then (bC (xq_in l5 5) (fX9_parts_L7 l1 l2 A V ex n ((l3 * (A 137 l5.toNatClampNeg).toInt64) / (100 : Int64)) (l5 + Int32.ofInt 1))) else (bC (xq_in (((6 : Int32) * l5) + l1) 30) (if (A 139 (((6 : Int32) * l5) + l1).toNatClampNeg) ≤ (1 : Int32) then (fX9_parts_L7 l1 l2 A V ex n l3 (l5 + Int32.ofInt 1)) else (bC (xq_in l5 5) (fX9_parts_L7 l1 l2 A V ex n ((l3 * (A 137 l5.toNatClampNeg).toInt64) / (100 : Int64)) (l5 + Int32.ofInt 1))))))
def fX9_parts (l1 : Int32) (l2 : Int32) (A V : xM) : Option (Int64) := fX9_parts_L7 l1 l2 A V (fun (l3_7 : Int64) => some l3_7) FU (1000000000 : Int64) (0 : Int32)
def fX9_lost (l1 : Int32) (l2 : Int32) (A V : xM) : Option (Int64) := if l1 < (0 : Int32) then (some (-4611686018427387904 : Int64)) else (if ((V 132 2) - (1 : Int32)) < l1 then (some (-4611686018427387904 : Int64)) else (if l2 < 0 then (some (-4611686018427387904 : Int64)) else (if ((1 : Int32) <<< ((V 132 4) &&& 31)) ≤ l2 then (some (-4611686018427387904 : Int64)) else (bI (fX9_parts l1 l2 A V) (fun x5 => some x5)))))
def fX9_keep_L38 (l1 : Int32) (l2 : Int32) (l3 : Int32) (A V : xM) (ex : Option (Int32)) : Nat → Int32 → Option (Int32)
  | 0, _ => none
  | n + 1, l4 => if ((1 : Int32) <<< ((V 132 4) &&& 31)) ≤ l4 then (ex) else (bI (fX9_size l4 A V) (fun x2 => if x2 = l3 then (bI (fX9_parts l1 l4 A V) (fun x5 => if 0 < (lg_cmp x5 (l2.toInt64 * (1000000 : Int64))) then (fX9_keep_L38 l1 l2 l3 A V ex n (l4 + Int32.ofInt 1)) else (some l4))) else (fX9_keep_L38 l1 l2 l3 A V ex n (l4 + Int32.ofInt 1))))
def fX9_keep_L27 (l1 : Int32) (l2 : Int32) (A V : xM) (ex : Option (Int32)) : Nat → Int32 → Option (Int32)
  | 0, _ => none
  | n + 1, l3 => if (V 132 4) < l3 then (ex) else (fX9_keep_L38 l1 l2 l3 A V (fX9_keep_L27 l1 l2 A V ex n (l3 + Int32.ofInt 1)) FU (0 : Int32))
def fX9_keep (l1 : Int32) (l2 : Int32) (A V : xM) : Option (Int32) := if l1 < (0 : Int32) then (some (-5 : Int32)) else (if ((V 132 2) - (1 : Int32)) < l1 then (some (-5 : Int32)) else (if l2 < (0 : Int32) then (some (-7 : Int32)) else (if (1000 : Int32) < l2 then (some (-7 : Int32)) else (fX9_keep_L27 l1 l2 A V (some (-1 : Int32)) FU (0 : Int32)))))
def fX9_rarest_L9 (A V : xM) (ex : Int32 → Option (Int32)) : Nat → Int32 → Int64 → Int32 → Option (Int32)
  | 0, _, _, _ => none
  | n + 1, l1, l2, l4 => if (V 132 2) ≤ l4 then (ex l1) else (bI (fX9_parts l4 (0 : Int32) A V) (fun x2 => if (lg_cmp x2 l2) ≤ 0 then (fX9_rarest_L9 A V ex n l1 l2 (l4 + Int32.ofInt 1)) else (bI (fX9_parts l4 (0 : Int32) A V) (fun x5 => fX9_rarest_L9 A V ex n l4 x5 (l4 + Int32.ofInt 1)))))
def fX9_rarest (A V : xM) : Option (Int32) := fX9_rarest_L9 A V (fun (l1_7 : Int32) => some l1_7) FU (-1 : Int32) (-1 : Int64) (0 : Int32)
def fX9_draw_L42 (l2 : Int32) (l3 : Int32) (l4 : Int32) (l7 : Int32) (l8 : Int32) (A V : xM) (cu : Value) (ex : Int64 → Int32 → Option (xS)) : Nat → Int64 → Int32 → Int32 → Option (xS)
  | 0, _, _, _ => none
  | n + 1, l5, l9, l10 => if (V 132 4) ≤ l10 then (ex l5 l9) else (if (lg_cmp (((l5 * (48271 : Int64)) - (l5 * (48271 : Int64)) / (2147483647 : Int64) * (2147483647 : Int64)) - ((l5 * (48271 : Int64)) - (l5 * (48271 : Int64)) / (2147483647 : Int64) * (2147483647 : Int64)) / (2 : Int64) * (2 : Int64)) (1 : Int64)) = 0 then (bI (fX9_size l9 A V) (fun x3 => bC (xq_in l3 4) (if (A 134 l3.toNatClampNeg) ≤ x3 then (fX9_draw_L42 l2 l3 l4 l7 l8 A V cu ex n ((l5 * (48271 : Int64)) - (l5 * (48271 : Int64)) / (2147483647 : Int64) * (2147483647 : Int64)) l9 (l10 + Int32.ofInt 1)) else (fX9_draw_L42 l2 l3 l4 l7 l8 A V cu ex n ((l5 * (48271 : Int64)) - (l5 * (48271 : Int64)) / (2147483647 : Int64) * (2147483647 : Int64)) (l9 ||| ((1 : Int32) <<< (l10 &&& 31))) (l10 + Int32.ofInt 1))))) else (fX9_draw_L42 l2 l3 l4 l7 l8 A V cu ex n ((l5 * (48271 : Int64)) - (l5 * (48271 : Int64)) / (2147483647 : Int64) * (2147483647 : Int64)) l9 (l10 + Int32.ofInt 1)))
def fX9_draw_L29 (l2 : Int32) (l3 : Int32) (l4 : Int32) (l7 : Int32) (ex : xM → xM → Value → Option (xS)) : Nat → Int64 → Int32 → xM → xM → Value → Option (xS)
  | 0, _, _, _, _, _ => none
  | n + 1, l5, l8, A, V, cu => if l4 ≤ l8 then (ex  A V cu) else (fX9_draw_L42 l2 l3 l4 l7 l8 A V cu (fun (l5_8 : Int64) (l9_9 : Int32) => bX (fX9_begin (V 132 16) l2 l3 l9_9 (0 : Int32) l8 l7 A V cu) (fun x12 A13 V14 c15 => fX9_draw_L29 l2 l3 l4 l7 ex n l5_8 (l8 + Int32.ofInt 1) A13 V14 c15)) FU l5 (0 : Int32) (0 : Int32))
def fX9_draw (l1 : Int32) (l2 : Int32) (l3 : Int32) (l4 : Int32) (A V : xM) (cu : Value) : Option (xS) := bI (fX9_whoHas 139 l2 A V) (fun x17 => bS (fX9_take 139 l2 A V cu) (fun A20 V21 c22 => fX9_draw_L29 l2 l3 l4 x17 (fun (A35 V36 : xM) (c37 : Value) => some (A35, V36, c37)) FU (l1.toInt64 + (1 : Int64)) (0 : Int32) A20 V21 c22))
def fX9_drawn_L62 (l4 : Int32) (A V : xM) (cu : Value) (ex : Int32 → Option (Int32 × xS)) : Nat → Int32 → Int32 → Option (Int32 × xS)
  | 0, _, _ => none
  | n + 1, l5, l6 => if (V 132 4) ≤ l6 then (ex l5) else (bC (xq_in l6 5) (bI (fX9_isSo (A 152 l6.toNatClampNeg) l4 A V) (fun x3 => if x3 = 0 then (fX9_drawn_L62 l4 A V cu ex n (l5 ||| (0 : Int32)) (l6 + Int32.ofInt 1)) else (fX9_drawn_L62 l4 A V cu ex n (l5 ||| ((1 : Int32) <<< (l6 &&& 31))) (l6 + Int32.ofInt 1)))))
def fX9_drawn (l1 : Int32) (l2 : Int32) (l3 : Int32) (l4 : Int32) (A V : xM) (cu : Value) : Option (Int32 × xS) := if l2 < (0 : Int32) then (some ((-5 : Int32), A, V, cu)) else (if ((V 132 2) - (1 : Int32)) < l2 then (some ((-5 : Int32), A, V, cu)) else (if l1 < (0 : Int32) then (some ((-7 : Int32), A, V, cu)) else (if (99999 : Int32) < l1 then (some ((-7 : Int32), A, V, cu)) else (if l3 < (0 : Int32) then (some ((-7 : Int32), A, V, cu)) else (if (399 : Int32) < l3 then (some ((-7 : Int32), A, V, cu)) else (if (30 : Int32) < (l3 - l3 / (100 : Int32) * (100 : Int32)) then (some ((-7 : Int32), A, V, cu)) else (if l4 < (0 : Int32) then (some ((-7 : Int32), A, V, cu)) else (if (2 : Int32) < l4 then (some ((-7 : Int32), A, V, cu)) else (bS (fX9_draw l1 l2 (l3 / (100 : Int32)) (l3 - l3 / (100 : Int32) * (100 : Int32)) A V cu) (fun A16 V17 c18 => fX9_drawn_L62 l4 A16 V17 c18 (fun (l5_20 : Int32) => some (l5_20, A16, V17, c18)) FU (0 : Int32) (0 : Int32)))))))))))
def fX9_divisor_L4 (A V : xM) (ex : Int32 → Option (Int32)) : Nat → Int32 → Int32 → Option (Int32)
  | 0, _, _ => none
  | n + 1, l2, l3 => if l3 = 0 then (ex l2) else (bC (!decide (l3 = 0)) (fX9_divisor_L4 A V ex n l3 (l2 - l2 / l3 * l3)))
def fX9_divisor (l0 : Int32) (l1 : Int32) (A V : xM) : Option (Int32) := fX9_divisor_L4 A V (fun (l2_3 : Int32) => some l2_3) FU l0 l1
def fX9_odds_L79 (l1 : Int32) (l2 : Int32) (l3 : Int32) (l4 : Int32) (l5 : Int32) (l6 : Int32) (ex : Int32 → xM → xM → Value → Option (Int64 × xS)) : Nat → Int32 → Int32 → xM → xM → Value → Option (Int64 × xS)
  | 0, _, _, _, _, _ => none
  | n + 1, l7, l8, A, V, cu => if l6 ≤ l8 then (ex l7 A V cu) else (bS (fX9_draw (l2 + l8) l3 (l4 / (100 : Int32)) (l4 - l4 / (100 : Int32) * (100 : Int32)) A V cu) (fun A3 V4 c5 => bC (xq_in (l1 / (100 : Int32)) 5) (if (A3 152 (l1 / (100 : Int32)).toNatClampNeg) ≤ (1 : Int32) then (fX9_odds_L79 l1 l2 l3 l4 l5 l6 ex n (l7 + (0 : Int32)) (l8 + Int32.ofInt 1) A3 V4 c5) else (fX9_odds_L79 l1 l2 l3 l4 l5 l6 ex n (l7 + (1 : Int32)) (l8 + Int32.ofInt 1) A3 V4 c5))))
def fX9_odds (l1 : Int32) (l2 : Int32) (l3 : Int32) (l4 : Int32) (l5 : Int32) (A V : xM) (cu : Value) : Option (Int64 × xS) := if l1 < 0 then (some ((-4611686018427387904 : Int64), A, V, cu)) else (if (l1 / (100 : Int32)) < (0 : Int32) then (some ((-4611686018427387904 : Int64), A, V, cu)) else (if ((V 132 4) - (1 : Int32)) < (l1 / (100 : Int32)) then (some ((-4611686018427387904 : Int64), A, V, cu)) else (if (l1 - l1 / (100 : Int32) * (100 : Int32)) < (1 : Int32) then (some ((-4611686018427387904 : Int64), A, V, cu)) else (if (50 : Int32) < (l1 - l1 / (100 : Int32) * (100 : Int32)) then (some ((-4611686018427387904 : Int64), A, V, cu)) else (if l2 < (0 : Int32) then (some ((-4611686018427387904 : Int64), A, V, cu)) else (if (99999 : Int32) < l2 then (some ((-4611686018427387904 : Int64), A, V, cu)) else (if l3 < (0 : Int32) then (some ((-4611686018427387904 : Int64), A, V, cu)) else (if ((V 132 2) - (1 : Int32)) < l3 then (some ((-4611686018427387904 : Int64), A, V, cu)) else (if l4 < (0 : Int32) then (some ((-4611686018427387904 : Int64), A, V, cu)) else (if (399 : Int32) < l4 then (some ((-4611686018427387904 : Int64), A, V, cu)) else (if (30 : Int32) < (l4 - l4 / (100 : Int32) * (100 : Int32)) then (some ((-4611686018427387904 : Int64), A, V, cu)) else (if l5 < (0 : Int32) then (some ((-4611686018427387904 : Int64), A, V, cu)) else (if (1 : Int32) < l5 then (some ((-4611686018427387904 : Int64), A, V, cu)) else (fX9_odds_L79 l1 l2 l3 l4 l5 (l1 - l1 / (100 : Int32) * (100 : Int32)) (fun (l7_23 : Int32) (A30 V31 : xM) (c32 : Value) => bI (fX9_divisor l7_23 (l1 - l1 / (100 : Int32) * (100 : Int32)) A30 V31) (fun x33 => if l5 = 0 then (bC (!decide (x33 = 0)) (some ((l7_23 / x33).toInt64, A30, V31, c32))) else (bC (!decide (x33 = 0)) (some (((l1 - l1 / (100 : Int32) * (100 : Int32)) / x33).toInt64, A30, V31, c32))))) FU (0 : Int32) (0 : Int32) A V cu))))))))))))))
def fX9_copy_L2 (l0 : Nat) (l1 : Nat) (ex : xM → xM → Value → Option (xS)) : Nat → Int32 → xM → xM → Value → Option (xS)
  | 0, _, _, _, _ => none
  | n + 1, l2, A, V, cu => if (Int32.ofNat (ysz l0)) ≤ l2 then (ex  A V cu) else (bC (xq_in l2 (ysz l0)) (bC (xq_in l2 (ysz l1)) (fX9_copy_L2 l0 l1 ex n (l2 + Int32.ofInt 1) (aw A l1 l2 (A l0 l2.toNatClampNeg)) V cu)))
def fX9_copy (l0 : Nat) (l1 : Nat) (A V : xM) (cu : Value) : Option (xS) := fX9_copy_L2 l0 l1 (fun (A7 V8 : xM) (c9 : Value) => some (A7, V8, c9)) FU (0 : Int32) A V cu
def fX9_image (A V : xM) (cu : Value) : Option (Int32 × xS) := bS (fX9_copy 133 157 A (up2 V 132 43 (1 : Int32)) cu) (fun A2 V3 c4 => bS (fX9_copy 134 158 A2 V3 c4) (fun A7 V8 c9 => bS (fX9_copy 139 159 A7 V8 c9) (fun A12 V13 c14 => some (((up2 (up2 (up2 (up2 V13 132 47 (V13 132 4)) 132 48 ((up2 V13 132 47 (V13 132 4)) 132 2)) 132 49 ((up2 (up2 V13 132 47 (V13 132 4)) 132 48 ((up2 V13 132 47 (V13 132 4)) 132 2)) 132 9)) 132 50 ((up2 (up2 (up2 V13 132 47 (V13 132 4)) 132 48 ((up2 V13 132 47 (V13 132 4)) 132 2)) 132 49 ((up2 (up2 V13 132 47 (V13 132 4)) 132 48 ((up2 V13 132 47 (V13 132 4)) 132 2)) 132 9)) 132 16)) 132 9), A12, (up2 (up2 (up2 (up2 V13 132 47 (V13 132 4)) 132 48 ((up2 V13 132 47 (V13 132 4)) 132 2)) 132 49 ((up2 (up2 V13 132 47 (V13 132 4)) 132 48 ((up2 V13 132 47 (V13 132 4)) 132 2)) 132 9)) 132 50 ((up2 (up2 (up2 V13 132 47 (V13 132 4)) 132 48 ((up2 V13 132 47 (V13 132 4)) 132 2)) 132 49 ((up2 (up2 V13 132 47 (V13 132 4)) 132 48 ((up2 V13 132 47 (V13 132 4)) 132 2)) 132 9)) 132 16)), c14))))
def fX9_back_L44 (l1 : Int32) (ex : xM → xM → Value → Option (Int32 × xS)) : Nat → Int32 → xM → xM → Value → Option (Int32 × xS)
  | 0, _, _, _, _ => none
  | n + 1, l2, A, V, cu => if (6 : Int32) ≤ l2 then (ex  A V cu) else (if (V 132 48) ≤ l2 then (bC (xq_in (((6 : Int32) * l1) + l2) 30) (fX9_back_L44 l1 ex n (l2 + Int32.ofInt 1) (aw A 139 (((6 : Int32) * l1) + l2) (0 : Int32)) V cu)) else (bC (xq_in (((6 : Int32) * l1) + l2) 30) (fX9_back_L44 l1 ex n (l2 + Int32.ofInt 1) (aw A 139 (((6 : Int32) * l1) + l2) (A 159 (((6 : Int32) * l1) + l2).toNatClampNeg)) V cu)))
def fX9_back_L34 (ex : xM → xM → Value → Option (Int32 × xS)) : Nat → Int32 → xM → xM → Value → Option (Int32 × xS)
  | 0, _, _, _, _ => none
  | n + 1, l1, A, V, cu => if (V 132 47) ≤ l1 then (ex  A V cu) else (fX9_back_L44 l1 (fun (A7 V8 : xM) (c9 : Value) => fX9_back_L34 ex n (l1 + Int32.ofInt 1) A7 V8 c9) FU (0 : Int32) A V cu)
def fX9_back (A V : xM) (cu : Value) : Option (Int32 × xS) := if (V 132 43) = 0 then (some ((-3 : Int32), A, V, cu)) else (bS (fX9_copy 157 133 A V cu) (fun A12 V13 c14 => bS (fX9_copy 158 134 A12 V13 c14) (fun A17 V18 c19 => fX9_back_L34 (fun (A23 V24 : xM) (c25 : Value) => some (((up2 (up2 V24 132 9 (bif decide ((V24 132 49) < (V24 132 9)) then (V24 132 49) else (V24 132 9))) 132 16 ((up2 V24 132 9 (bif decide ((V24 132 49) < (V24 132 9)) then (V24 132 49) else (V24 132 9))) 132 50)) 132 9), A23, (up2 (up2 V24 132 9 (bif decide ((V24 132 49) < (V24 132 9)) then (V24 132 49) else (V24 132 9))) 132 16 ((up2 V24 132 9 (bif decide ((V24 132 49) < (V24 132 9)) then (V24 132 49) else (V24 132 9))) 132 50)), c25)) FU (0 : Int32) A17 V18 c19)))
def fX9_sheet_L65 (l1 : Int32) (ex : xM → xM → Value → Option (Int32 × xS)) : Nat → Int32 → xM → xM → Value → Option (Int32 × xS)
  | 0, _, _, _, _ => none
  | n + 1, l4, A, V, cu => if (40 : Int32) ≤ l4 then (ex  A V cu) else (bC (xq_in (((40 : Int32) * l1) + l4) 160) (fX9_sheet_L65 l1 ex n (l4 + Int32.ofInt 1) (aw A 162 (((40 : Int32) * l1) + l4) (0 : Int32)) V cu))
def fX9_sheet (l1 : Int32) (l2 : Int32) (l3 : Int32) (A V : xM) (cu : Value) : Option (Int32 × xS) := if l1 < (0 : Int32) then (some ((-2 : Int32), A, V, cu)) else (if (3 : Int32) < l1 then (some ((-2 : Int32), A, V, cu)) else (if l2 < (-1 : Int32) then (some ((-2 : Int32), A, V, cu)) else (if (2 : Int32) < l2 then (some ((-2 : Int32), A, V, cu)) else (if l2 < 0 then (bC (xq_in l1 4) (if 0 ≤ l2 then (fX9_sheet_L65 l1 (fun (A15 V16 : xM) (c17 : Value) => some ((1 : Int32), A15, V16, c17)) FU (0 : Int32) (aw (aw A 160 l1 l2) 161 l1 l3) V cu) else (fX9_sheet_L65 l1 (fun (A23 V24 : xM) (c25 : Value) => some ((1 : Int32), A23, V24, c25)) FU (0 : Int32) (aw (aw A 160 l1 l2) 161 l1 (0 : Int32)) V cu))) else (if l3 ≤ (40 : Int32) then (if 0 ≤ l3 then (bC (xq_in l1 4) (if 0 ≤ l2 then (fX9_sheet_L65 l1 (fun (A35 V36 : xM) (c37 : Value) => some ((1 : Int32), A35, V36, c37)) FU (0 : Int32) (aw (aw A 160 l1 l2) 161 l1 l3) V cu) else (fX9_sheet_L65 l1 (fun (A43 V44 : xM) (c45 : Value) => some ((1 : Int32), A43, V44, c45)) FU (0 : Int32) (aw (aw A 160 l1 l2) 161 l1 (0 : Int32)) V cu))) else (some ((-14 : Int32), A, V, cu))) else (some ((-2 : Int32), A, V, cu)))))))
def fX9_copy__L103 (l1 : Int32) (l2 : Int32) (l3 : Int32) (l4 : Int32) (l5 : Int32) (ex : xM → xM → Value → Option (Int32 × xS)) : Nat → Int32 → xM → xM → Value → Option (Int32 × xS)
  | 0, _, _, _, _ => none
  | n + 1, l6, A, V, cu => if l5 ≤ l6 then (ex  A V cu) else (bC (xq_in ((((40 : Int32) * l1) + l2) + l6) 160) (bC (xq_in l6 40) (fX9_copy__L103 l1 l2 l3 l4 l5 ex n (l6 + Int32.ofInt 1) (aw A 163 l6 (A 162 ((((40 : Int32) * l1) + l2) + l6).toNatClampNeg)) V cu)))
def fX9_copy__L140 (l3 : Int32) (l4 : Int32) (l5 : Int32) (ex : xM → xM → Value → Option (Int32 × xS)) : Nat → Int32 → xM → xM → Value → Option (Int32 × xS)
  | 0, _, _, _, _ => none
  | n + 1, l6, A, V, cu => if l5 ≤ l6 then (ex  A V cu) else (bC (xq_in l6 40) (bC (xq_in ((((40 : Int32) * l3) + l4) + l6) 160) (fX9_copy__L140 l3 l4 l5 ex n (l6 + Int32.ofInt 1) (aw A 162 ((((40 : Int32) * l3) + l4) + l6) (A 163 l6.toNatClampNeg)) V cu)))
def fX9_copy_ (l1 : Int32) (l2 : Int32) (l3 : Int32) (l4 : Int32) (l5 : Int32) (A V : xM) (cu : Value) : Option (Int32 × xS) := if l1 < (0 : Int32) then (some ((-2 : Int32), A, V, cu)) else (if (3 : Int32) < l1 then (some ((-2 : Int32), A, V, cu)) else (if l3 < (0 : Int32) then (some ((-2 : Int32), A, V, cu)) else (if (3 : Int32) < l3 then (some ((-2 : Int32), A, V, cu)) else (bC (xq_in l1 4) (if (A 160 l1.toNatClampNeg) < 0 then (some ((-11 : Int32), A, V, cu)) else (bC (xq_in l3 4) (if 0 ≤ (A 160 l3.toNatClampNeg) then (if (A 160 l1.toNatClampNeg) = (A 160 l3.toNatClampNeg) then (if l5 < 0 then (some ((-12 : Int32), A, V, cu)) else (if l2 < 0 then (some ((-12 : Int32), A, V, cu)) else (if l4 < 0 then (some ((-12 : Int32), A, V, cu)) else (if ((A 161 l1.toNatClampNeg) - l2) < l5 then (some ((-12 : Int32), A, V, cu)) else (if l5 ≤ ((A 161 l3.toNatClampNeg) - l4) then (fX9_copy__L103 l1 l2 l3 l4 l5 (fun (A24 V25 : xM) (c26 : Value) => fX9_copy__L140 l3 l4 l5 (fun (A33 V34 : xM) (c35 : Value) => some (l5, A33, V34, c35)) FU (0 : Int32) A24 V25 c26) FU (0 : Int32) A V cu) else (some ((-12 : Int32), A, V, cu))))))) else (some ((-13 : Int32), A, V, cu))) else (some ((-11 : Int32), A, V, cu)))))))))
def fX9_peopleBy_L60 (l1 : Int32) (l3 : Int32) (l4 : Int32) (ex : Int32 → xM → xM → Value → Option (Int32 × xS)) : Nat → Int32 → Int32 → xM → xM → Value → Option (Int32 × xS)
  | 0, _, _, _, _, _ => none
  | n + 1, l5, l6, A, V, cu => if l4 ≤ l6 then (ex l5 A V cu) else (if (lg_cmp (l3.toInt64 + ((3 : Int64) * l6.toInt64)) (0 : Int64)) < 0 then (some ((-12 : Int32), A, V, cu)) else (bC (xq_in l1 4) (if (lg_cmp ((l3.toInt64 + ((3 : Int64) * l6.toInt64)) + (2 : Int64)) (A 161 l1.toNatClampNeg).toInt64) < 0 then (bC (xq_in (((40 : Int32) * l1) + (l3.toInt64 + ((3 : Int64) * l6.toInt64)).toInt32) 160) (bC (xq_in ((((40 : Int32) * l1) + (l3.toInt64 + ((3 : Int64) * l6.toInt64)).toInt32) + (1 : Int32)) 160) (bC (xq_in ((((40 : Int32) * l1) + (l3.toInt64 + ((3 : Int64) * l6.toInt64)).toInt32) + (2 : Int32)) 160) (bX (fX9_person (A 162 (((40 : Int32) * l1) + (l3.toInt64 + ((3 : Int64) * l6.toInt64)).toInt32).toNatClampNeg) (A 162 ((((40 : Int32) * l1) + (l3.toInt64 + ((3 : Int64) * l6.toInt64)).toInt32) + (1 : Int32)).toNatClampNeg) (A 162 ((((40 : Int32) * l1) + (l3.toInt64 + ((3 : Int64) * l6.toInt64)).toInt32) + (2 : Int32)).toNatClampNeg) A V cu) (fun x8 A9 V10 c11 => if x8 < 0 then (fX9_peopleBy_L60 l1 l3 l4 ex n (l5 + (0 : Int32)) (l6 + Int32.ofInt 1) A9 V10 c11) else (fX9_peopleBy_L60 l1 l3 l4 ex n (l5 + (1 : Int32)) (l6 + Int32.ofInt 1) A9 V10 c11)))))) else (some ((-12 : Int32), A, V, cu)))))
def fX9_peopleBy (l1 : Int32) (l2 : Int32) (l3 : Int32) (l4 : Int32) (A V : xM) (cu : Value) : Option (Int32 × xS) := if l1 < (0 : Int32) then (some ((-2 : Int32), A, V, cu)) else (if (3 : Int32) < l1 then (some ((-2 : Int32), A, V, cu)) else (if l2 < (0 : Int32) then (some ((-2 : Int32), A, V, cu)) else (if (2 : Int32) < l2 then (some ((-2 : Int32), A, V, cu)) else (if l4 < (0 : Int32) then (some ((-2 : Int32), A, V, cu)) else (if (5 : Int32) < l4 then (some ((-2 : Int32), A, V, cu)) else (bC (xq_in l1 4) (if 0 ≤ (A 160 l1.toNatClampNeg) then (if (A 160 l1.toNatClampNeg) = l2 then (fX9_peopleBy_L60 l1 l3 l4 (fun (l5_23 : Int32) (A33 V34 : xM) (c35 : Value) => some (l5_23, A33, V34, c35)) FU (0 : Int32) (0 : Int32) A V cu) else (some ((-13 : Int32), A, V, cu))) else (some ((-11 : Int32), A, V, cu)))))))))
def fX9_taken (l1 : Int32) (l2 : Int32) (A V : xM) : Option (Int32) := if l2 < (0 : Int32) then (some (-2 : Int32)) else (if (6 : Int32) < l2 then (some (-2 : Int32)) else (if l1 < (0 : Int32) then (some (-12 : Int32)) else (if (10 : Int32) < l1 then (some (-12 : Int32)) else (if l1 < (6 : Int32) then (if l1 < (V 132 2) then (if l2 = (6 : Int32) then (bC (xq_in l1 6) (some (A 135 l1.toNatClampNeg))) else (some (-13 : Int32))) else (some (-11 : Int32))) else (if (l1 - (6 : Int32)) < (V 132 4) then (bC (xq_in (l1 - (6 : Int32)) 5) (if l2 = 0 then (some (l1 - (6 : Int32))) else (if l2 = (A 136 (l1 - (6 : Int32)).toNatClampNeg) then (some (l1 - (6 : Int32))) else (if l2 = (1 : Int32) then (if (A 136 (l1 - (6 : Int32)).toNatClampNeg) = (2 : Int32) then (some (l1 - (6 : Int32))) else (if l2 = (4 : Int32) then (if (A 136 (l1 - (6 : Int32)).toNatClampNeg) = (5 : Int32) then (some (l1 - (6 : Int32))) else (some (-13 : Int32))) else (some (-13 : Int32)))) else (if l2 = (4 : Int32) then (if (A 136 (l1 - (6 : Int32)).toNatClampNeg) = (5 : Int32) then (some (l1 - (6 : Int32))) else (some (-13 : Int32))) else (some (-13 : Int32))))))) else (some (-11 : Int32)))))))
set_option maxRecDepth 20000 in
set_option maxHeartbeats 4000000 in
theorem sX9_done {LL : Nat} {xs : Nat → Int32} {tx : List xh_T} {d : Nat} {A V : xM} {cu : Value} {r : Int32} {l0 l1 l2 : Int32} (hd : 61 ≤ d) (e : fX9_done l0 l1 l2 A V = some r) : xe (xk_ro LL xs) d 156 [.int l0, .int l1, .int l2] (xh A V tx cu) (qI r (xh A V tx cu)) := by
  obtain ⟨d, rfl⟩ : ∃ d1, d = d1 + 1 := ⟨d - 1, by omega⟩
  replace hd : 60 ≤ d := by omega
  have hd0 : 60 ≤ d := by omega
  refine xe_of (co := xk_156) (nl := 3) rfl rfl rfl ?_
  unfold fX9_done at e
  rcases ite_ok e with ⟨h1, e⟩ | ⟨h1, e⟩
  · rcases ite_ok e with ⟨h2, e⟩ | ⟨h2, e⟩
    · rcases ite_ok e with ⟨h3, e⟩ | ⟨h3, e⟩
      · cases e
        exact xw_yr hd0 9 [0, 0, 1] rfl ⟨h1, nnt h2, decide_eq_true h3, rfl, trivial⟩ ⟨rfl, rfl⟩
      · cases e
        exact xw_yr hd0 10 [0, 0, 0] rfl ⟨h1, nnt h2, nt h3, rfl, trivial⟩ ⟨rfl, rfl⟩
    · cases e
      exact xw_yr hd0 8 [0, 1] rfl ⟨h1, nt h2, rfl, trivial⟩ ⟨rfl, rfl⟩
  rcases ite_ok e with ⟨h4, e⟩ | ⟨-, e⟩
  · rcases ite_ok e with ⟨h5, e⟩ | ⟨h5, e⟩
    · cases e
      exact xw_yr hd0 7 [1, 1] rfl ⟨tsw_c h1 h4, decide_eq_true h5, rfl, trivial⟩ ⟨rfl, rfl⟩
    · rcases ite_ok e with ⟨h6, e⟩ | ⟨h6, e⟩
      · cases e
        exact xw_yr hd0 9 [1, 0, 1] rfl ⟨tsw_c h1 h4, nt h5, decide_eq_true h6, rfl, trivial⟩ ⟨rfl, rfl⟩
      · cases e
        exact xw_yr hd0 10 [1, 0, 0] rfl ⟨tsw_c h1 h4, nt h5, nt h6, rfl, trivial⟩ ⟨rfl, rfl⟩
  rcases ite_ok e with ⟨h7, e⟩ | ⟨-, e⟩
  · rcases ite_ok e with ⟨h8, e⟩ | ⟨h8, e⟩
    · rcases ite_ok e with ⟨h9, e⟩ | ⟨h9, e⟩
      · cases e
        exact xw_yr hd0 9 [2, 0, 1] rfl ⟨tsw_c h1 h7, nnt h8, decide_eq_true h9, rfl, trivial⟩ ⟨rfl, rfl⟩
      · cases e
        exact xw_yr hd0 10 [2, 0, 0] rfl ⟨tsw_c h1 h7, nnt h8, nt h9, rfl, trivial⟩ ⟨rfl, rfl⟩
    · cases e
      exact xw_yr hd0 8 [2, 1] rfl ⟨tsw_c h1 h7, nt h8, rfl, trivial⟩ ⟨rfl, rfl⟩
  rcases ite_ok e with ⟨h10, e⟩ | ⟨-, e⟩
  · rcases ite_ok e with ⟨h11, e⟩ | ⟨h11, e⟩
    · cases e
      exact xw_yr hd0 8 [3, 1] rfl ⟨tsw_c h1 h10, decide_eq_true h11, rfl, trivial⟩ ⟨rfl, rfl⟩
    · cases e
      exact xw_yr hd0 9 [3, 0] rfl ⟨tsw_c h1 h10, nt h11, rfl, trivial⟩ ⟨rfl, rfl⟩
  rcases ite_ok e with ⟨h12, e⟩ | ⟨-, e⟩
  · rcases ite_ok e with ⟨h13, e⟩ | ⟨h13, e⟩
    · cases e
      exact xw_yr hd0 9 [4, 0] rfl ⟨tsw_c h1 h12, nnt h13, rfl, trivial⟩ ⟨rfl, rfl⟩
    · cases e
      exact xw_yr hd0 8 [4, 1] rfl ⟨tsw_c h1 h12, nt h13, rfl, trivial⟩ ⟨rfl, rfl⟩
  rcases ite_ok e with ⟨h14, e⟩ | ⟨-, e⟩
  · cases e
    exact xw_yr hd0 7 [5] rfl ⟨tsw_c h1 h14, rfl, trivial⟩ ⟨rfl, rfl⟩
  rcases ite_ok e with ⟨h15, e⟩ | ⟨-, e⟩
  · cases e
    exact xw_yr hd0 7 [6] rfl ⟨tsw_c h1 h15, rfl, trivial⟩ ⟨rfl, rfl⟩
  rcases ite_ok e with ⟨h16, e⟩ | ⟨-, e⟩
  · cases e
    exact xw_yr hd0 7 [7] rfl ⟨tsw_c h1 h16, rfl, trivial⟩ ⟨rfl, rfl⟩
  cases e
set_option maxRecDepth 20000 in
set_option maxHeartbeats 4000000 in
theorem slX9_says_L12 {LL : Nat} {xs : Nat → Int32} {tx : List xh_T} {d : Nat} {A' V' : xM} {c' : Value} {r : Int32} {l3 : Int32} {ex : xM → xM → Value → Option (Int32 × xS)} (hd : 61 ≤ d) (hex : ∀ (w1 w2 w3 w4 w5 w6 : Option Value) (A V : xM) (cu : Value), ex  A V cu = some (r, A', V', c') → xw (xk_ro LL xs) d xk_157 191 [some (.ref 132), w1, w2, w3, w4, w5, w6] [] (xh A V tx cu) (qI r (xh A' V' tx c'))) : ∀ (n : Nat) (l4 : Int32) (l5 : Int32) (z1 z2 z6 : Option Value) (A V : xM) (cu : Value), fX9_says_L12 l3 ex n l4 l5 A V cu = some (r, A', V', c') → xw (xk_ro LL xs) d xk_157 12 [some (.ref 132), z1, z2, some (.int l3), some (.int l4), some (.int l5), z6] [] (xh A V tx cu) (qI r (xh A' V' tx c')) := by
  have hd0 : 60 ≤ d := by omega
  intro n
  induction n with
  | zero =>
    intro l4 l5 z1 z2 z6 A V cu e
    rw [fX9_says_L12] at e
    cases e
  | succ n ih =>
    intro l4 l5 z1 z2 z6 A V cu e
    rw [fX9_says_L12] at e
    obtain ⟨h1, e⟩ := bC_ok e
    rcases ite_ok e with ⟨h2, e⟩ | ⟨h2, e⟩
    · refine xw_y hd0 6 [1] rfl ⟨h1, decide_eq_true h2, trivial⟩ ?_
      exact hex _ _ _ _ _ _ _ _ _ e
    · obtain ⟨h3, e⟩ := bC_ok e
      rcases ite_ok e with ⟨h4, e⟩ | ⟨h4, e⟩
      · rcases ite_ok e with ⟨h5, e⟩ | ⟨h5, e⟩
        · rcases ite_ok e with ⟨h6, e⟩ | ⟨h6, e⟩
          · obtain ⟨h7, e⟩ := bC_ok e
            rcases ite_ok e with ⟨h8, e⟩ | ⟨h8, e⟩
            · refine xw_y hd0 41 [0, 1, 1, 0, 0] rfl ⟨h1, nt h2, h3, decide_eq_true h4, decide_eq_true h5, nnt h6, h7, nnt h8, h7, trivial⟩ ?_
              exact ih _ _ _ _ _ _ _ _ e
            · refine xw_y hd0 40 [0, 1, 1, 0, 1] rfl ⟨h1, nt h2, h3, decide_eq_true h4, decide_eq_true h5, nnt h6, h7, nt h8, h7, trivial⟩ ?_
              exact ih _ _ _ _ _ _ _ _ e
          · rcases ite_ok e with ⟨h9, e⟩ | ⟨h9, e⟩
            · obtain ⟨h10, e⟩ := bC_ok e
              refine xw_y hd0 42 [0, 1, 1, 1, 0] rfl ⟨h1, nt h2, h3, decide_eq_true h4, decide_eq_true h5, nt h6, nnt h9, h10, h10, trivial⟩ ?_
              exact ih _ _ _ _ _ _ _ _ e
            · obtain ⟨h11, e⟩ := bC_ok e
              obtain ⟨h12, e⟩ := bC_ok e
              refine xw_y hd0 43 [0, 1, 1, 1, 1] rfl ⟨h1, nt h2, h3, decide_eq_true h4, decide_eq_true h5, nt h6, nt h9, h11, h12, trivial⟩ ?_
              obtain ⟨x13, e14, e⟩ := bI_ok e
              refine xw_call (k := 156) (j := 3) rfl (fun F => xm_c_ok (y_c_ok rfl) F) rfl rfl rfl (sX9_done (by omega) e14) ?_
              rintro _ _ ⟨rfl, rfl⟩
              refine xw_y hd0 3 [] rfl ⟨h11, trivial⟩ ?_
              exact ih _ _ _ _ _ _ _ _ e
        · obtain ⟨h15, e⟩ := bC_ok e
          obtain ⟨h16, e⟩ := bC_ok e
          refine xw_y hd0 32 [0, 1, 0] rfl ⟨h1, nt h2, h3, decide_eq_true h4, nt h5, h15, h16, trivial⟩ ?_
          exact ih _ _ _ _ _ _ _ _ e
      · obtain ⟨h17, e⟩ := bC_ok e
        refine xw_y hd0 28 [0, 0] rfl ⟨h1, nt h2, h3, nt h4, h17, trivial⟩ ?_
        exact ih _ _ _ _ _ _ _ _ e
set_option maxRecDepth 20000 in
set_option maxHeartbeats 4000000 in
theorem sX9_says {LL : Nat} {xs : Nat → Int32} {tx : List xh_T} {d : Nat} {A V : xM} {cu : Value} {A' V' : xM} {c' : Value} {r : Int32} {l1 l2 : Int32} (hd : 62 ≤ d) (e : fX9_says l1 l2 A V cu = some (r, A', V', c')) : xe (xk_ro LL xs) d 157 [.ref 132, .int l1, .int l2] (xh A V tx cu) (qI r (xh A' V' tx c')) := by
  obtain ⟨d, rfl⟩ : ∃ d1, d = d1 + 1 := ⟨d - 1, by omega⟩
  replace hd : 61 ≤ d := by omega
  have hd0 : 60 ≤ d := by omega
  refine xe_of (co := xk_157) (nl := 7) rfl rfl rfl ?_
  unfold fX9_says at e
  refine xw_y hd0 10 [] rfl trivial ?_
  refine slX9_says_L12 hd ?_ FU _ _ _ _ _ _ _ _ e
  · intro z18 z19 z20 z21 z22 z23 A24 V25 c26 e
    rcases ite_ok e with ⟨h27, e⟩ | ⟨h27, e⟩
    · cases e
      exact xw_yr hd0 8 [1] rfl ⟨rfl, decide_eq_true h27, rfl, trivial⟩ ⟨rfl, rfl⟩
    · cases e
      exact xw_yr hd0 9 [0] rfl ⟨rfl, nt h27, rfl, trivial⟩ ⟨rfl, rfl⟩
set_option maxRecDepth 20000 in
set_option maxHeartbeats 4000000 in
theorem sX9_asks {LL : Nat} {xs : Nat → Int32} {tx : List xh_T} {d : Nat} {A V : xM} {cu : Value} {A' V' : xM} {c' : Value} {r : Int32} {l1 l2 l3 l4 : Int32} (hd : 63 ≤ d) (e : fX9_asks l1 l2 l3 l4 A V cu = some (r, A', V', c')) : xe (xk_ro LL xs) d 158 [.ref 132, .int l1, .int l2, .int l3, .int l4] (xh A V tx cu) (qI r (xh A' V' tx c')) := by
  obtain ⟨d, rfl⟩ : ∃ d1, d = d1 + 1 := ⟨d - 1, by omega⟩
  replace hd : 62 ≤ d := by omega
  have hd0 : 60 ≤ d := by omega
  refine xe_of (co := xk_158) (nl := 5) rfl rfl rfl ?_
  unfold fX9_asks at e
  rcases ite_ok e with ⟨h1, e⟩ | ⟨h1, e⟩
  · cases e
    exact xw_yr hd0 13 [1, 1] rfl ⟨decide_eq_true h1, rfl, rfl, rfl, trivial⟩ ⟨rfl, rfl⟩
  · rcases ite_ok e with ⟨h2, e⟩ | ⟨h2, e⟩
    · cases e
      exact xw_yr hd0 16 [0, 1, 1] rfl ⟨nt h1, decide_eq_true h2, rfl, rfl, rfl, trivial⟩ ⟨rfl, rfl⟩
    · rcases ite_ok e with ⟨h3, e⟩ | ⟨h3, e⟩
      · cases e
        exact xw_yr hd0 27 [0, 0, 0, 1, 1] rfl ⟨nt h1, nt h2, rfl, rfl, decide_eq_true h3, rfl, rfl, rfl, trivial⟩ ⟨rfl, rfl⟩
      · rcases ite_ok e with ⟨h4, e⟩ | ⟨h4, e⟩
        · cases e
          exact xw_yr hd0 30 [0, 0, 0, 0, 1, 1] rfl ⟨nt h1, nt h2, rfl, rfl, nt h3, decide_eq_true h4, rfl, rfl, rfl, trivial⟩ ⟨rfl, rfl⟩
        · rcases ite_ok e with ⟨h5, e⟩ | ⟨h5, e⟩
          · cases e
            exact xw_yr hd0 41 [0, 0, 0, 0, 0, 0, 1, 1] rfl ⟨nt h1, nt h2, rfl, rfl, nt h3, nt h4, rfl, rfl, decide_eq_true h5, rfl, rfl, rfl, trivial⟩ ⟨rfl, rfl⟩
          · rcases ite_ok e with ⟨h6, e⟩ | ⟨h6, e⟩
            · cases e
              exact xw_yr hd0 44 [0, 0, 0, 0, 0, 0, 0, 1, 1] rfl ⟨nt h1, nt h2, rfl, rfl, nt h3, nt h4, rfl, rfl, nt h5, decide_eq_true h6, rfl, rfl, rfl, trivial⟩ ⟨rfl, rfl⟩
            · rcases ite_ok e with ⟨h7, e⟩ | ⟨h7, e⟩
              · cases e
                exact xw_yr hd0 50 [0, 0, 0, 0, 0, 0, 0, 0, 0, 1] rfl ⟨nt h1, nt h2, rfl, rfl, nt h3, nt h4, rfl, rfl, nt h5, nt h6, rfl, rfl, rfl, decide_eq_true h7, rfl, trivial⟩ ⟨rfl, rfl⟩
              · rcases ite_ok e with ⟨h8, e⟩ | ⟨h8, e⟩
                · cases e
                  exact xw_yr hd0 60 [0, 0, 0, 0, 0, 0, 0, 0, 0, 0, 1, 0] rfl ⟨nt h1, nt h2, rfl, rfl, nt h3, nt h4, rfl, rfl, nt h5, nt h6, rfl, rfl, rfl, nt h7, decide_eq_true h8, rfl, rfl, rfl, trivial⟩ ⟨rfl, rfl⟩
                · rcases ite_ok e with ⟨h9, e⟩ | ⟨h9, e⟩
                  · cases e
                    exact xw_yr hd0 63 [0, 0, 0, 0, 0, 0, 0, 0, 0, 0, 0, 1, 0] rfl ⟨nt h1, nt h2, rfl, rfl, nt h3, nt h4, rfl, rfl, nt h5, nt h6, rfl, rfl, rfl, nt h7, nt h8, decide_eq_true h9, rfl, rfl, rfl, trivial⟩ ⟨rfl, rfl⟩
                  · refine xw_y hd0 107 [0, 0, 0, 0, 0, 0, 0, 0, 0, 0, 0, 0, 1] rfl ⟨nt h1, nt h2, rfl, rfl, nt h3, nt h4, rfl, rfl, nt h5, nt h6, rfl, rfl, rfl, nt h7, nt h8, nt h9, rfl, rfl, rfl, rfl, rfl, rfl, rfl, rfl, rfl, rfl, rfl, rfl, rfl, rfl, trivial⟩ ?_
                    obtain ⟨x10, A11, V12, c13, e14, e⟩ := bX_ok e
                    refine xw_call (k := 157) (j := 3) rfl (fun F => xm_c_ok (y_c_ok rfl) F) rfl rfl rfl (sX9_says (by omega) e14) ?_
                    rintro _ _ ⟨rfl, rfl⟩
                    rcases ite_ok e with ⟨h15, e⟩ | ⟨h15, e⟩
                    · cases e
                      exact xw_yr hd0 4 [1] rfl ⟨decide_eq_true h15, rfl, trivial⟩ ⟨rfl, rfl⟩
                    · cases e
                      exact xw_yr hd0 5 [0] rfl ⟨nt h15, rfl, trivial⟩ ⟨rfl, rfl⟩
set_option maxRecDepth 20000 in
set_option maxHeartbeats 4000000 in
theorem sX9_person {LL : Nat} {xs : Nat → Int32} {tx : List xh_T} {d : Nat} {A V : xM} {cu : Value} {A' V' : xM} {c' : Value} {r : Int32} {l1 l2 l3 : Int32} (hd : 61 ≤ d) (e : fX9_person l1 l2 l3 A V cu = some (r, A', V', c')) : xe (xk_ro LL xs) d 164 [.ref 132, .int l1, .int l2, .int l3] (xh A V tx cu) (qI r (xh A' V' tx c')) := by
  obtain ⟨d, rfl⟩ : ∃ d1, d = d1 + 1 := ⟨d - 1, by omega⟩
  replace hd : 60 ≤ d := by omega
  have hd0 : 60 ≤ d := by omega
  refine xe_of (co := xk_164) (nl := 4) rfl rfl rfl ?_
  unfold fX9_person at e
  rcases ite_ok e with ⟨h1, e⟩ | ⟨h1, e⟩
  · cases e
    exact xw_yr hd0 13 [1, 1] rfl ⟨decide_eq_true h1, rfl, rfl, rfl, trivial⟩ ⟨rfl, rfl⟩
  · rcases ite_ok e with ⟨h2, e⟩ | ⟨h2, e⟩
    · cases e
      exact xw_yr hd0 16 [0, 1, 1] rfl ⟨nt h1, decide_eq_true h2, rfl, rfl, rfl, trivial⟩ ⟨rfl, rfl⟩
    · rcases ite_ok e with ⟨h3, e⟩ | ⟨h3, e⟩
      · cases e
        exact xw_yr hd0 27 [0, 0, 0, 1, 1] rfl ⟨nt h1, nt h2, rfl, rfl, decide_eq_true h3, rfl, rfl, rfl, trivial⟩ ⟨rfl, rfl⟩
      · rcases ite_ok e with ⟨h4, e⟩ | ⟨h4, e⟩
        · cases e
          exact xw_yr hd0 30 [0, 0, 0, 0, 1, 1] rfl ⟨nt h1, nt h2, rfl, rfl, nt h3, decide_eq_true h4, rfl, rfl, rfl, trivial⟩ ⟨rfl, rfl⟩
        · rcases ite_ok e with ⟨h5, e⟩ | ⟨h5, e⟩
          · cases e
            exact xw_yr hd0 41 [0, 0, 0, 0, 0, 0, 1, 0] rfl ⟨nt h1, nt h2, rfl, rfl, nt h3, nt h4, rfl, rfl, decide_eq_true h5, rfl, rfl, rfl, trivial⟩ ⟨rfl, rfl⟩
          · rcases ite_ok e with ⟨h6, e⟩ | ⟨h6, e⟩
            · cases e
              exact xw_yr hd0 44 [0, 0, 0, 0, 0, 0, 0, 1, 0] rfl ⟨nt h1, nt h2, rfl, rfl, nt h3, nt h4, rfl, rfl, nt h5, decide_eq_true h6, rfl, rfl, rfl, trivial⟩ ⟨rfl, rfl⟩
            · rcases ite_ok e with ⟨h7, e⟩ | ⟨h7, e⟩
              · cases e
                exact xw_yr hd0 49 [0, 0, 0, 0, 0, 0, 0, 0, 1, 0] rfl ⟨nt h1, nt h2, rfl, rfl, nt h3, nt h4, rfl, rfl, nt h5, nt h6, rfl, rfl, nnt h7, rfl, trivial⟩ ⟨rfl, rfl⟩
              · obtain ⟨h8, e⟩ := bC_ok e
                cases e
                exact xw_yr hd0 76 [0, 0, 0, 0, 0, 0, 0, 0, 1, 1] rfl ⟨nt h1, nt h2, rfl, rfl, nt h3, nt h4, rfl, rfl, nt h5, nt h6, rfl, rfl, nt h7, h8, h8, h8, rfl, rfl, trivial⟩ ⟨rfl, rfl⟩
set_option maxRecDepth 20000 in
set_option maxHeartbeats 4000000 in
theorem slX9_size_L4 {LL : Nat} {xs : Nat → Int32} {tx : List xh_T} {d : Nat}{A V : xM} {cu : Value} {r : Int32} {l0 : Int32} {ex : Int32 → Option (Int32)} (hd : 60 ≤ d) (hex : ∀ (y1 : Int32) (w0 w2 : Option Value), ex y1 = some r → xw (xk_ro LL xs) d xk_167 23 [w0, some (.int y1), w2] [] (xh A V tx cu) (qI r (xh A V tx cu))) : ∀ (n : Nat) (l1 : Int32) (l2 : Int32), fX9_size_L4 l0 A V ex n l1 l2 = some r → xw (xk_ro LL xs) d xk_167 4 [some (.int l0), some (.int l1), some (.int l2)] [] (xh A V tx cu) (qI r (xh A V tx cu)) := by
  have hd0 : 60 ≤ d := by omega
  intro n
  induction n with
  | zero =>
    intro l1 l2 e
    rw [fX9_size_L4] at e
    cases e
  | succ n ih =>
    intro l1 l2 e
    rw [fX9_size_L4] at e
    rcases ite_ok e with ⟨h1, e⟩ | ⟨h1, e⟩
    · refine xw_y hd0 3 [1] rfl ⟨decide_eq_true h1, trivial⟩ ?_
      exact hex _ _ _ e
    · refine xw_y hd0 13 [0] rfl ⟨nt h1, trivial⟩ ?_
      exact ih _ _ e
set_option maxRecDepth 20000 in
set_option maxHeartbeats 4000000 in
theorem sX9_size {LL : Nat} {xs : Nat → Int32} {tx : List xh_T} {d : Nat} {A V : xM} {cu : Value} {r : Int32} {l0 : Int32} (hd : 61 ≤ d) (e : fX9_size l0 A V = some r) : xe (xk_ro LL xs) d 167 [.int l0] (xh A V tx cu) (qI r (xh A V tx cu)) := by
  obtain ⟨d, rfl⟩ : ∃ d1, d = d1 + 1 := ⟨d - 1, by omega⟩
  replace hd : 60 ≤ d := by omega
  have hd0 : 60 ≤ d := by omega
  refine xe_of (co := xk_167) (nl := 3) rfl rfl rfl ?_
  unfold fX9_size at e
  refine xw_y hd0 4 [] rfl trivial ?_
  refine slX9_size_L4 hd ?_ FU _ _ e
  · intro l1_2 z3 z4 e
    cases e
    exact xw_yr hd0 3 [] rfl ⟨rfl, trivial⟩ ⟨rfl, rfl⟩
set_option maxRecDepth 20000 in
set_option maxHeartbeats 4000000 in
theorem slX9_may_L23 {LL : Nat} {xs : Nat → Int32} {tx : List xh_T} {d : Nat} {A' V' : xM} {c' : Value} {r : Int32} {l1 : Int32} {l2 : Int32} {l3 : Int32} {l4 : Int32} {l5 : Int32} {l6 : Int32} {ex : Int32 → xM → xM → Value → Option (Int32 × xS)} (hd : 62 ≤ d) (hex : ∀ (y7 : Int32) (w4 w8 : Option Value) (A V : xM) (cu : Value), ex y7 A V cu = some (r, A', V', c') → xw (xk_ro LL xs) d xk_168 150 [some (.ref 132), some (.int l1), some (.int l2), some (.int l3), w4, some (.int l5), some (.int l6), some (.int y7), w8] [] (xh A V tx cu) (qI r (xh A' V' tx c'))) : ∀ (n : Nat) (l7 : Int32) (l8 : Int32) (A V : xM) (cu : Value), fX9_may_L23 l1 l2 l3 l4 l5 l6 ex n l7 l8 A V cu = some (r, A', V', c') → xw (xk_ro LL xs) d xk_168 23 [some (.ref 132), some (.int l1), some (.int l2), some (.int l3), some (.int l4), some (.int l5), some (.int l6), some (.int l7), some (.int l8)] [] (xh A V tx cu) (qI r (xh A' V' tx c')) := by
  have hd0 : 60 ≤ d := by omega
  intro n
  induction n with
  | zero =>
    intro l7 l8 A V cu e
    rw [fX9_may_L23] at e
    cases e
  | succ n ih =>
    intro l7 l8 A V cu e
    rw [fX9_may_L23] at e
    rcases ite_ok e with ⟨h1, e⟩ | ⟨h1, e⟩
    · refine xw_y hd0 4 [1] rfl ⟨decide_eq_true h1, trivial⟩ ?_
      exact hex _ _ _ _ _ _ e
    · rcases ite_ok e with ⟨h2, e⟩ | ⟨h2, e⟩
      · obtain ⟨h3, e⟩ := bC_ok e
        rcases ite_ok e with ⟨h4, e⟩ | ⟨h4, e⟩
        · refine xw_y hd0 19 [0, 0, 1] rfl ⟨nt h1, nnt h2, h3, decide_eq_true h4, trivial⟩ ?_
          exact ih _ _ _ _ _ e
        · rcases ite_ok e with ⟨h5, e⟩ | ⟨h5, e⟩
          · refine xw_y hd0 26 [0, 0, 0, 1] rfl ⟨nt h1, nnt h2, h3, nt h4, h3, decide_eq_true h5, trivial⟩ ?_
            exact ih _ _ _ _ _ e
          · rcases ite_ok e with ⟨h6, e⟩ | ⟨h6, e⟩
            · rcases ite_ok e with ⟨h7, e⟩ | ⟨h7, e⟩
              · refine xw_y hd0 40 [0, 0, 0, 0, 0, 1] rfl ⟨nt h1, nnt h2, h3, nt h4, h3, nt h5, h3, nnt h6, h3, decide_eq_true h7, trivial⟩ ?_
                exact ih _ _ _ _ _ e
              · rcases ite_ok e with ⟨h8, e⟩ | ⟨h8, e⟩
                · rcases ite_ok e with ⟨h9, e⟩ | ⟨h9, e⟩
                  · refine xw_y hd0 61 [0, 0, 0, 0, 0, 0, 0, 1] rfl ⟨nt h1, nnt h2, h3, nt h4, h3, nt h5, h3, nnt h6, h3, nt h7, rfl, nnt h8, h3, decide_eq_true h9, rfl, trivial⟩ ?_
                    exact ih _ _ _ _ _ e
                  · rcases ite_ok e with ⟨h10, e⟩ | ⟨h10, e⟩
                    · refine xw_y hd0 67 [0, 0, 0, 0, 0, 0, 0, 0, 0] rfl ⟨nt h1, nnt h2, h3, nt h4, h3, nt h5, h3, nnt h6, h3, nt h7, rfl, nnt h8, h3, nt h9, h3, nnt h10, rfl, trivial⟩ ?_
                      exact ih _ _ _ _ _ e
                    · refine xw_y hd0 66 [0, 0, 0, 0, 0, 0, 0, 0, 1] rfl ⟨nt h1, nnt h2, h3, nt h4, h3, nt h5, h3, nnt h6, h3, nt h7, rfl, nnt h8, h3, nt h9, h3, nt h10, rfl, trivial⟩ ?_
                      exact ih _ _ _ _ _ e
                · refine xw_y hd0 55 [0, 0, 0, 0, 0, 0, 1] rfl ⟨nt h1, nnt h2, h3, nt h4, h3, nt h5, h3, nnt h6, h3, nt h7, rfl, nt h8, rfl, trivial⟩ ?_
                  exact ih _ _ _ _ _ e
            · rcases ite_ok e with ⟨h11, e⟩ | ⟨h11, e⟩
              · rcases ite_ok e with ⟨h12, e⟩ | ⟨h12, e⟩
                · refine xw_y hd0 53 [0, 0, 0, 0, 1, 0, 1] rfl ⟨nt h1, nnt h2, h3, nt h4, h3, nt h5, h3, nt h6, rfl, nnt h11, h3, decide_eq_true h12, rfl, trivial⟩ ?_
                  exact ih _ _ _ _ _ e
                · rcases ite_ok e with ⟨h13, e⟩ | ⟨h13, e⟩
                  · refine xw_y hd0 59 [0, 0, 0, 0, 1, 0, 0, 0] rfl ⟨nt h1, nnt h2, h3, nt h4, h3, nt h5, h3, nt h6, rfl, nnt h11, h3, nt h12, h3, nnt h13, rfl, trivial⟩ ?_
                    exact ih _ _ _ _ _ e
                  · refine xw_y hd0 58 [0, 0, 0, 0, 1, 0, 0, 1] rfl ⟨nt h1, nnt h2, h3, nt h4, h3, nt h5, h3, nt h6, rfl, nnt h11, h3, nt h12, h3, nt h13, rfl, trivial⟩ ?_
                    exact ih _ _ _ _ _ e
              · refine xw_y hd0 47 [0, 0, 0, 0, 1, 1] rfl ⟨nt h1, nnt h2, h3, nt h4, h3, nt h5, h3, nt h6, rfl, nt h11, rfl, trivial⟩ ?_
                exact ih _ _ _ _ _ e
      · refine xw_y hd0 13 [0, 1] rfl ⟨nt h1, nt h2, trivial⟩ ?_
        exact ih _ _ _ _ _ e
set_option maxRecDepth 20000 in
set_option maxHeartbeats 4000000 in
theorem sX9_may {LL : Nat} {xs : Nat → Int32} {tx : List xh_T} {d : Nat} {A V : xM} {cu : Value} {A' V' : xM} {c' : Value} {r : Int32} {l1 l2 l3 l4 l5 : Int32} (hd : 63 ≤ d) (e : fX9_may l1 l2 l3 l4 l5 A V cu = some (r, A', V', c')) : xe (xk_ro LL xs) d 168 [.ref 132, .int l1, .int l2, .int l3, .int l4, .int l5] (xh A V tx cu) (qI r (xh A' V' tx c')) := by
  obtain ⟨d, rfl⟩ : ∃ d1, d = d1 + 1 := ⟨d - 1, by omega⟩
  replace hd : 62 ≤ d := by omega
  have hd0 : 60 ≤ d := by omega
  refine xe_of (co := xk_168) (nl := 9) rfl rfl rfl ?_
  unfold fX9_may at e
  refine xw_y hd0 1 [] rfl trivial ?_
  obtain ⟨x14, e15, e⟩ := bI_ok e
  refine xw_call (k := 167) (j := 1) rfl (fun F => xm_c_ok (y_c_ok rfl) F) rfl rfl rfl (sX9_size (by omega) e15) ?_
  rintro _ _ ⟨rfl, rfl⟩
  refine xw_y hd0 11 [] rfl ⟨rfl, rfl, trivial⟩ ?_
  refine slX9_may_L23 hd ?_ FU _ _ _ _ _ e
  · intro l7_16 z17 z18 A19 V20 c21 e
    refine xw_y hd0 10 [] rfl ⟨rfl, trivial⟩ ?_
    obtain ⟨x22, e23, e⟩ := bI_ok e
    refine xw_call (k := 167) (j := 1) rfl (fun F => xm_c_ok (y_c_ok rfl) F) rfl rfl rfl (sX9_size (by omega) e23) ?_
    rintro _ _ ⟨rfl, rfl⟩
    refine xw_y hd0 24 [] rfl ⟨rfl, rfl, rfl, rfl, rfl, trivial⟩ ?_
    obtain ⟨x24, A25, V26, c27, e28, e⟩ := bX_ok e
    refine xw_call (k := 157) (j := 3) rfl (fun F => xm_c_ok (y_c_ok rfl) F) rfl rfl rfl (sX9_says (by omega) e28) ?_
    rintro _ _ ⟨rfl, rfl⟩
    obtain ⟨h29, e⟩ := bC_ok e
    cases e
    exact xw_yr hd0 2 [] rfl ⟨h29, trivial⟩ ⟨rfl, rfl⟩
set_option maxRecDepth 20000 in
set_option maxHeartbeats 4000000 in
theorem sX9_heard {LL : Nat} {xs : Nat → Int32} {tx : List xh_T} {d : Nat} {A V : xM} {cu : Value} {r : Int32} {l0 l1 l2 : Int32} (hd : 61 ≤ d) (e : fX9_heard l0 l1 l2 A V = some r) : xe (xk_ro LL xs) d 169 [.int l0, .int l1, .int l2] (xh A V tx cu) (qI r (xh A V tx cu)) := by
  obtain ⟨d, rfl⟩ : ∃ d1, d = d1 + 1 := ⟨d - 1, by omega⟩
  replace hd : 60 ≤ d := by omega
  have hd0 : 60 ≤ d := by omega
  refine xe_of (co := xk_169) (nl := 3) rfl rfl rfl ?_
  unfold fX9_heard at e
  rcases ite_ok e with ⟨h1, e⟩ | ⟨h1, e⟩
  · rcases ite_ok e with ⟨h2, e⟩ | ⟨h2, e⟩
    · rcases ite_ok e with ⟨h3, e⟩ | ⟨h3, e⟩
      · cases e
        exact xw_yr hd0 11 [0, 0, 0] rfl ⟨h1, nnt h2, nnt h3, rfl, trivial⟩ ⟨rfl, rfl⟩
      · cases e
        exact xw_yr hd0 10 [0, 0, 1] rfl ⟨h1, nnt h2, nt h3, rfl, trivial⟩ ⟨rfl, rfl⟩
    · cases e
      exact xw_yr hd0 8 [0, 1] rfl ⟨h1, nt h2, rfl, trivial⟩ ⟨rfl, rfl⟩
  rcases ite_ok e with ⟨h4, e⟩ | ⟨-, e⟩
  · cases e
    exact xw_yr hd0 5 [1] rfl ⟨tsw_c h1 h4, rfl, trivial⟩ ⟨rfl, rfl⟩
  rcases ite_ok e with ⟨h5, e⟩ | ⟨-, e⟩
  · rcases ite_ok e with ⟨h6, e⟩ | ⟨h6, e⟩
    · cases e
      exact xw_yr hd0 7 [2, 1] rfl ⟨tsw_c h1 h5, decide_eq_true h6, rfl, trivial⟩ ⟨rfl, rfl⟩
    · cases e
      exact xw_yr hd0 12 [2, 0] rfl ⟨tsw_c h1 h5, nt h6, rfl, trivial⟩ ⟨rfl, rfl⟩
  rcases ite_ok e with ⟨h7, e⟩ | ⟨-, e⟩
  · rcases ite_ok e with ⟨h8, e⟩ | ⟨h8, e⟩
    · cases e
      exact xw_yr hd0 7 [3, 1] rfl ⟨tsw_c h1 h7, decide_eq_true h8, rfl, trivial⟩ ⟨rfl, rfl⟩
    · cases e
      exact xw_yr hd0 12 [3, 0] rfl ⟨tsw_c h1 h7, nt h8, rfl, trivial⟩ ⟨rfl, rfl⟩
  cases e
set_option maxRecDepth 20000 in
set_option maxHeartbeats 4000000 in
theorem slX9_begin_L60 {LL : Nat} {xs : Nat → Int32} {tx : List xh_T} {d : Nat} {A' V' : xM} {c' : Value} {r : Int32} {l7 : Int32} {l8 : Int32} {l9 : Int32} {ex : xM → xM → Value → Option (Int32 × xS)} (hd : 63 ≤ d) (hex : ∀ (w0 w1 w2 w3 w4 w5 w6 w7 w8 w9 w10 w11 w12 : Option Value) (A V : xM) (cu : Value), ex  A V cu = some (r, A', V', c') → xw (xk_ro LL xs) d xk_170 178 [w0, w1, w2, w3, w4, w5, w6, w7, w8, w9, w10, w11, w12] [] (xh A V tx cu) (qI r (xh A' V' tx c'))) : ∀ (n : Nat) (l10 : Int32) (z1 z2 z3 z4 z5 z6 z11 z12 : Option Value) (A V : xM) (cu : Value), fX9_begin_L60 l7 l8 l9 ex n l10 A V cu = some (r, A', V', c') → xw (xk_ro LL xs) d xk_170 60 [some (.ref 132), z1, z2, z3, z4, z5, z6, some (.int l7), some (.int l8), some (.int l9), some (.int l10), z11, z12] [] (xh A V tx cu) (qI r (xh A' V' tx c')) := by
  have hd0 : 60 ≤ d := by omega
  intro n
  induction n with
  | zero =>
    intro l10 z1 z2 z3 z4 z5 z6 z11 z12 A V cu e
    rw [fX9_begin_L60] at e
    cases e
  | succ n ih =>
    intro l10 z1 z2 z3 z4 z5 z6 z11 z12 A V cu e
    rw [fX9_begin_L60] at e
    rcases ite_ok e with ⟨h1, e⟩ | ⟨h1, e⟩
    · refine xw_y hd0 4 [1] rfl ⟨decide_eq_true h1, trivial⟩ ?_
      exact hex _ _ _ _ _ _ _ _ _ _ _ _ _ _ _ _ e
    · rcases ite_ok e with ⟨h2, e⟩ | ⟨h2, e⟩
      · obtain ⟨h3, e⟩ := bC_ok e
        rcases ite_ok e with ⟨h4, e⟩ | ⟨h4, e⟩
        · refine xw_y hd0 22 [0, 0, 1] rfl ⟨nt h1, nnt h2, h3, decide_eq_true h4, trivial⟩ ?_
          exact ih _ _ _ _ _ _ _ _ _ _ _ _ e
        · rcases ite_ok e with ⟨h5, e⟩ | ⟨h5, e⟩
          · refine xw_y hd0 38 [0, 0, 0, 0, 1] rfl ⟨nt h1, nnt h2, h3, nt h4, nnt h5, rfl, h3, h3, trivial⟩ ?_
            obtain ⟨x6, e7, e⟩ := bI_ok e
            refine xw_call (k := 169) (j := 3) rfl (fun F => xm_c_ok (y_c_ok rfl) F) rfl rfl rfl (sX9_heard (by omega) e7) ?_
            rintro _ _ ⟨rfl, rfl⟩
            rcases ite_ok e with ⟨h8, e⟩ | ⟨h8, e⟩
            · rcases ite_ok e with ⟨h9, e⟩ | ⟨h9, e⟩
              · refine xw_y hd0 14 [0, 1] rfl ⟨nnt h8, decide_eq_true h9, h3, trivial⟩ ?_
                exact ih _ _ _ _ _ _ _ _ _ _ _ _ e
              · refine xw_y hd0 15 [0, 0] rfl ⟨nnt h8, nt h9, h3, trivial⟩ ?_
                exact ih _ _ _ _ _ _ _ _ _ _ _ _ e
            · refine xw_y hd0 11 [1] rfl ⟨nt h8, h3, trivial⟩ ?_
              exact ih _ _ _ _ _ _ _ _ _ _ _ _ e
          · refine xw_y hd0 29 [0, 0, 0, 1] rfl ⟨nt h1, nnt h2, h3, nt h4, nt h5, trivial⟩ ?_
            exact ih _ _ _ _ _ _ _ _ _ _ _ _ e
      · obtain ⟨h10, e⟩ := bC_ok e
        rcases ite_ok e with ⟨h11, e⟩ | ⟨h11, e⟩
        · refine xw_y hd0 21 [0, 1, 1] rfl ⟨nt h1, nt h2, h10, decide_eq_true h11, trivial⟩ ?_
          exact ih _ _ _ _ _ _ _ _ _ _ _ _ e
        · rcases ite_ok e with ⟨h12, e⟩ | ⟨h12, e⟩
          · rcases ite_ok e with ⟨h13, e⟩ | ⟨h13, e⟩
            · refine xw_y hd0 44 [0, 1, 0, 0, 0, 0] rfl ⟨nt h1, nt h2, h10, nt h11, nnt h12, rfl, nnt h13, h10, h10, trivial⟩ ?_
              obtain ⟨x14, e15, e⟩ := bI_ok e
              refine xw_call (k := 169) (j := 3) rfl (fun F => xm_c_ok (y_c_ok rfl) F) rfl rfl rfl (sX9_heard (by omega) e15) ?_
              rintro _ _ ⟨rfl, rfl⟩
              rcases ite_ok e with ⟨h16, e⟩ | ⟨h16, e⟩
              · rcases ite_ok e with ⟨h17, e⟩ | ⟨h17, e⟩
                · refine xw_y hd0 14 [0, 1] rfl ⟨nnt h16, decide_eq_true h17, h10, trivial⟩ ?_
                  exact ih _ _ _ _ _ _ _ _ _ _ _ _ e
                · refine xw_y hd0 15 [0, 0] rfl ⟨nnt h16, nt h17, h10, trivial⟩ ?_
                  exact ih _ _ _ _ _ _ _ _ _ _ _ _ e
              · refine xw_y hd0 11 [1] rfl ⟨nt h16, h10, trivial⟩ ?_
                exact ih _ _ _ _ _ _ _ _ _ _ _ _ e
            · refine xw_y hd0 37 [0, 1, 0, 0, 0, 1] rfl ⟨nt h1, nt h2, h10, nt h11, nnt h12, rfl, nt h13, trivial⟩ ?_
              exact ih _ _ _ _ _ _ _ _ _ _ _ _ e
          · refine xw_y hd0 28 [0, 1, 0, 1] rfl ⟨nt h1, nt h2, h10, nt h11, nt h12, trivial⟩ ?_
            exact ih _ _ _ _ _ _ _ _ _ _ _ _ e
set_option maxRecDepth 20000 in
set_option maxHeartbeats 4000000 in
theorem sX9_begin {LL : Nat} {xs : Nat → Int32} {tx : List xh_T} {d : Nat} {A V : xM} {cu : Value} {A' V' : xM} {c' : Value} {r : Int32} {l1 l2 l3 l4 l5 l6 l7 : Int32} (hd : 64 ≤ d) (e : fX9_begin l1 l2 l3 l4 l5 l6 l7 A V cu = some (r, A', V', c')) : xe (xk_ro LL xs) d 170 [.ref 132, .int l1, .int l2, .int l3, .int l4, .int l5, .int l6, .int l7] (xh A V tx cu) (qI r (xh A' V' tx c')) := by
  obtain ⟨d, rfl⟩ : ∃ d1, d = d1 + 1 := ⟨d - 1, by omega⟩
  replace hd : 63 ≤ d := by omega
  have hd0 : 60 ≤ d := by omega
  refine xe_of (co := xk_170) (nl := 13) rfl rfl rfl ?_
  unfold fX9_begin at e
  refine xw_y hd0 6 [] rfl trivial ?_
  obtain ⟨x18, A19, V20, c21, e22, e⟩ := bX_ok e
  refine xw_call (k := 168) (j := 6) rfl (fun F => xm_c_ok (y_c_ok rfl) F) rfl rfl rfl (sX9_may (by omega) e22) ?_
  rintro _ _ ⟨rfl, rfl⟩
  rcases ite_ok e with ⟨h23, e⟩ | ⟨h23, e⟩
  · cases e
    exact xw_yr hd0 4 [0] rfl ⟨nnt h23, rfl, trivial⟩ ⟨rfl, rfl⟩
  · rcases ite_ok e with ⟨h24, e⟩ | ⟨h24, e⟩
    · cases e
      exact xw_yr hd0 7 [1, 1] rfl ⟨nt h23, decide_eq_true h24, rfl, trivial⟩ ⟨rfl, rfl⟩
    · refine xw_y hd0 7 [1, 0] rfl ⟨nt h23, nt h24, trivial⟩ ?_
      obtain ⟨x25, A26, V27, c28, e29, e⟩ := bX_ok e
      refine xw_call (k := 157) (j := 3) rfl (fun F => xm_c_ok (y_c_ok rfl) F) rfl rfl rfl (sX9_says (by omega) e29) ?_
      rintro _ _ ⟨rfl, rfl⟩
      rcases ite_ok e with ⟨h30, e⟩ | ⟨h30, e⟩
      · refine xw_y hd0 6 [1] rfl ⟨decide_eq_true h30, trivial⟩ ?_
        obtain ⟨x31, A32, V33, c34, e35, e⟩ := bX_ok e
        refine xw_call (k := 157) (j := 3) rfl (fun F => xm_c_ok (y_c_ok rfl) F) rfl rfl rfl (sX9_says (by omega) e35) ?_
        rintro _ _ ⟨rfl, rfl⟩
        rcases ite_ok e with ⟨h36, e⟩ | ⟨h36, e⟩
        · refine xw_y hd0 5 [1] rfl ⟨decide_eq_true h36, trivial⟩ ?_
          refine slX9_begin_L60 hd ?_ FU _ _ _ _ _ _ _ _ _ _ _ _ e
          · intro z37 z38 z39 z40 z41 z42 z43 z44 z45 z46 z47 z48 z49 A50 V51 c52 e
            cases e
            exact xw_yr hd0 3 [] rfl ⟨rfl, trivial⟩ ⟨rfl, rfl⟩
        · refine xw_y hd0 6 [0] rfl ⟨nt h36, trivial⟩ ?_
          refine slX9_begin_L60 hd ?_ FU _ _ _ _ _ _ _ _ _ _ _ _ e
          · intro z53 z54 z55 z56 z57 z58 z59 z60 z61 z62 z63 z64 z65 A66 V67 c68 e
            cases e
            exact xw_yr hd0 3 [] rfl ⟨rfl, trivial⟩ ⟨rfl, rfl⟩
      · refine xw_y hd0 7 [0] rfl ⟨nt h30, trivial⟩ ?_
        obtain ⟨x69, A70, V71, c72, e73, e⟩ := bX_ok e
        refine xw_call (k := 157) (j := 3) rfl (fun F => xm_c_ok (y_c_ok rfl) F) rfl rfl rfl (sX9_says (by omega) e73) ?_
        rintro _ _ ⟨rfl, rfl⟩
        rcases ite_ok e with ⟨h74, e⟩ | ⟨h74, e⟩
        · refine xw_y hd0 5 [1] rfl ⟨decide_eq_true h74, trivial⟩ ?_
          refine slX9_begin_L60 hd ?_ FU _ _ _ _ _ _ _ _ _ _ _ _ e
          · intro z75 z76 z77 z78 z79 z80 z81 z82 z83 z84 z85 z86 z87 A88 V89 c90 e
            cases e
            exact xw_yr hd0 3 [] rfl ⟨rfl, trivial⟩ ⟨rfl, rfl⟩
        · refine xw_y hd0 6 [0] rfl ⟨nt h74, trivial⟩ ?_
          refine slX9_begin_L60 hd ?_ FU _ _ _ _ _ _ _ _ _ _ _ _ e
          · intro z91 z92 z93 z94 z95 z96 z97 z98 z99 z100 z101 z102 z103 A104 V105 c106 e
            cases e
            exact xw_yr hd0 3 [] rfl ⟨rfl, trivial⟩ ⟨rfl, rfl⟩
set_option maxRecDepth 20000 in
set_option maxHeartbeats 4000000 in
theorem slX9_whoHas_L5_139 {LL : Nat} {xs : Nat → Int32} {tx : List xh_T} {d : Nat}{A V : xM} {cu : Value} {r : Int32} {l2 : Int32} {ex : Int32 → Option (Int32)} (hd : 60 ≤ d) (hex : ∀ (y3 : Int32) (w0 w1 w2 w4 : Option Value), ex y3 = some r → xw (xk_ro LL xs) d xk_171 58 [w0, w1, w2, some (.int y3), w4] [] (xh A V tx cu) (qI r (xh A V tx cu))) : ∀ (n : Nat) (l3 : Int32) (l4 : Int32), fX9_whoHas_L5 139 l2 A V ex n l3 l4 = some r → xw (xk_ro LL xs) d xk_171 5 [some (.ref 132), some (.ref 139), some (.int l2), some (.int l3), some (.int l4)] [] (xh A V tx cu) (qI r (xh A V tx cu)) := by
  have hd0 : 60 ≤ d := by omega
  intro n
  induction n with
  | zero =>
    intro l3 l4 e
    rw [fX9_whoHas_L5] at e
    cases e
  | succ n ih =>
    intro l3 l4 e
    rw [fX9_whoHas_L5] at e
    rcases ite_ok e with ⟨h1, e⟩ | ⟨h1, e⟩
    · refine xw_y hd0 4 [1] rfl ⟨decide_eq_true h1, trivial⟩ ?_
      exact hex _ _ _ _ _ e
    · obtain ⟨h2, e⟩ := bC_ok e
      rcases ite_ok e with ⟨h3, e⟩ | ⟨h3, e⟩
      · refine xw_y hd0 18 [0, 1] rfl ⟨nt h1, h2, decide_eq_true h3, trivial⟩ ?_
        exact ih _ _ e
      · obtain ⟨h4, e⟩ := bC_ok e
        rcases ite_ok e with ⟨h5, e⟩ | ⟨h5, e⟩
        · refine xw_y hd0 27 [0, 0, 1] rfl ⟨nt h1, h2, nt h3, h2, h4, decide_eq_true h5, trivial⟩ ?_
          exact ih _ _ e
        · refine xw_y hd0 30 [0, 0, 0] rfl ⟨nt h1, h2, nt h3, h2, h4, nt h5, trivial⟩ ?_
          exact ih _ _ e
set_option maxRecDepth 20000 in
set_option maxHeartbeats 4000000 in
theorem sX9_whoHas_139 {LL : Nat} {xs : Nat → Int32} {tx : List xh_T} {d : Nat} {A V : xM} {cu : Value} {r : Int32} {l2 : Int32} (hd : 61 ≤ d) (e : fX9_whoHas 139 l2 A V = some r) : xe (xk_ro LL xs) d 171 [.ref 132, .ref 139, .int l2] (xh A V tx cu) (qI r (xh A V tx cu)) := by
  obtain ⟨d, rfl⟩ : ∃ d1, d = d1 + 1 := ⟨d - 1, by omega⟩
  replace hd : 60 ≤ d := by omega
  have hd0 : 60 ≤ d := by omega
  refine xe_of (co := xk_171) (nl := 5) rfl rfl rfl ?_
  unfold fX9_whoHas at e
  refine xw_y hd0 4 [] rfl trivial ?_
  refine slX9_whoHas_L5_139 hd ?_ FU _ _ e
  · intro l3_6 z7 z8 z9 z10 e
    cases e
    exact xw_yr hd0 3 [] rfl ⟨rfl, trivial⟩ ⟨rfl, rfl⟩
set_option maxRecDepth 20000 in
set_option maxHeartbeats 4000000 in
theorem slX9_whoHas_L5_153 {LL : Nat} {xs : Nat → Int32} {tx : List xh_T} {d : Nat}{A V : xM} {cu : Value} {r : Int32} {l2 : Int32} {ex : Int32 → Option (Int32)} (hd : 60 ≤ d) (hex : ∀ (y3 : Int32) (w0 w1 w2 w4 : Option Value), ex y3 = some r → xw (xk_ro LL xs) d xk_171 58 [w0, w1, w2, some (.int y3), w4] [] (xh A V tx cu) (qI r (xh A V tx cu))) : ∀ (n : Nat) (l3 : Int32) (l4 : Int32), fX9_whoHas_L5 153 l2 A V ex n l3 l4 = some r → xw (xk_ro LL xs) d xk_171 5 [some (.ref 132), some (.ref 153), some (.int l2), some (.int l3), some (.int l4)] [] (xh A V tx cu) (qI r (xh A V tx cu)) := by
  have hd0 : 60 ≤ d := by omega
  intro n
  induction n with
  | zero =>
    intro l3 l4 e
    rw [fX9_whoHas_L5] at e
    cases e
  | succ n ih =>
    intro l3 l4 e
    rw [fX9_whoHas_L5] at e
    rcases ite_ok e with ⟨h1, e⟩ | ⟨h1, e⟩
    · refine xw_y hd0 4 [1] rfl ⟨decide_eq_true h1, trivial⟩ ?_
      exact hex _ _ _ _ _ e
    · obtain ⟨h2, e⟩ := bC_ok e
      rcases ite_ok e with ⟨h3, e⟩ | ⟨h3, e⟩
      · refine xw_y hd0 18 [0, 1] rfl ⟨nt h1, h2, decide_eq_true h3, trivial⟩ ?_
        exact ih _ _ e
      · obtain ⟨h4, e⟩ := bC_ok e
        rcases ite_ok e with ⟨h5, e⟩ | ⟨h5, e⟩
        · refine xw_y hd0 27 [0, 0, 1] rfl ⟨nt h1, h2, nt h3, h2, h4, decide_eq_true h5, trivial⟩ ?_
          exact ih _ _ e
        · refine xw_y hd0 30 [0, 0, 0] rfl ⟨nt h1, h2, nt h3, h2, h4, nt h5, trivial⟩ ?_
          exact ih _ _ e
set_option maxRecDepth 20000 in
set_option maxHeartbeats 4000000 in
theorem sX9_whoHas_153 {LL : Nat} {xs : Nat → Int32} {tx : List xh_T} {d : Nat} {A V : xM} {cu : Value} {r : Int32} {l2 : Int32} (hd : 61 ≤ d) (e : fX9_whoHas 153 l2 A V = some r) : xe (xk_ro LL xs) d 171 [.ref 132, .ref 153, .int l2] (xh A V tx cu) (qI r (xh A V tx cu)) := by
  obtain ⟨d, rfl⟩ : ∃ d1, d = d1 + 1 := ⟨d - 1, by omega⟩
  replace hd : 60 ≤ d := by omega
  have hd0 : 60 ≤ d := by omega
  refine xe_of (co := xk_171) (nl := 5) rfl rfl rfl ?_
  unfold fX9_whoHas at e
  refine xw_y hd0 4 [] rfl trivial ?_
  refine slX9_whoHas_L5_153 hd ?_ FU _ _ e
  · intro l3_6 z7 z8 z9 z10 e
    cases e
    exact xw_yr hd0 3 [] rfl ⟨rfl, trivial⟩ ⟨rfl, rfl⟩
set_option maxRecDepth 20000 in
set_option maxHeartbeats 4000000 in
theorem slX9_take_L2_139 {LL : Nat} {xs : Nat → Int32} {tx : List xh_T} {d : Nat} {A' V' : xM} {c' : Value} {l2 : Int32} {ex : xM → xM → Value → Option (xS)} (hd : 60 ≤ d) (hex : ∀ (w0 w1 w2 w3 : Option Value) (A V : xM) (cu : Value), ex  A V cu = some (A', V', c') → xw (xk_ro LL xs) d xk_172 30 [w0, w1, w2, w3] [] (xh A V tx cu) (qU (xh A' V' tx c'))) : ∀ (n : Nat) (l3 : Int32) (A V : xM) (cu : Value), fX9_take_L2 139 l2 ex n l3 A V cu = some (A', V', c') → xw (xk_ro LL xs) d xk_172 2 [some (.ref 132), some (.ref 139), some (.int l2), some (.int l3)] [] (xh A V tx cu) (qU (xh A' V' tx c')) := by
  have hd0 : 60 ≤ d := by omega
  intro n
  induction n with
  | zero =>
    intro l3 A V cu e
    rw [fX9_take_L2] at e
    cases e
  | succ n ih =>
    intro l3 A V cu e
    rw [fX9_take_L2] at e
    rcases ite_ok e with ⟨h1, e⟩ | ⟨h1, e⟩
    · refine xw_y hd0 4 [1] rfl ⟨decide_eq_true h1, trivial⟩ ?_
      exact hex _ _ _ _ _ _ _ e
    · obtain ⟨h2, e⟩ := bC_ok e
      obtain ⟨h3, e⟩ := bC_ok e
      refine xw_y hd0 17 [0] rfl ⟨nt h1, h2, h3, trivial⟩ ?_
      exact ih _ _ _ _ e
set_option maxRecDepth 20000 in
set_option maxHeartbeats 4000000 in
theorem sX9_take_139 {LL : Nat} {xs : Nat → Int32} {tx : List xh_T} {d : Nat} {A V : xM} {cu : Value} {A' V' : xM} {c' : Value} {l2 : Int32} (hd : 61 ≤ d) (e : fX9_take 139 l2 A V cu = some (A', V', c')) : xe (xk_ro LL xs) d 172 [.ref 132, .ref 139, .int l2] (xh A V tx cu) (qU (xh A' V' tx c')) := by
  obtain ⟨d, rfl⟩ : ∃ d1, d = d1 + 1 := ⟨d - 1, by omega⟩
  replace hd : 60 ≤ d := by omega
  have hd0 : 60 ≤ d := by omega
  refine xe_of (co := xk_172) (nl := 4) rfl rfl rfl ?_
  unfold fX9_take at e
  refine xw_y hd0 2 [] rfl trivial ?_
  refine slX9_take_L2_139 hd ?_ FU _ _ _ _ e
  · intro z4 z5 z6 z7 A8 V9 c10 e
    cases e
    exact xw_yr hd0 2 [] rfl trivial ⟨rfl, rfl⟩
set_option maxRecDepth 20000 in
set_option maxHeartbeats 4000000 in
theorem slX9_take_L2_153 {LL : Nat} {xs : Nat → Int32} {tx : List xh_T} {d : Nat} {A' V' : xM} {c' : Value} {l2 : Int32} {ex : xM → xM → Value → Option (xS)} (hd : 60 ≤ d) (hex : ∀ (w0 w1 w2 w3 : Option Value) (A V : xM) (cu : Value), ex  A V cu = some (A', V', c') → xw (xk_ro LL xs) d xk_172 30 [w0, w1, w2, w3] [] (xh A V tx cu) (qU (xh A' V' tx c'))) : ∀ (n : Nat) (l3 : Int32) (A V : xM) (cu : Value), fX9_take_L2 153 l2 ex n l3 A V cu = some (A', V', c') → xw (xk_ro LL xs) d xk_172 2 [some (.ref 132), some (.ref 153), some (.int l2), some (.int l3)] [] (xh A V tx cu) (qU (xh A' V' tx c')) := by
  have hd0 : 60 ≤ d := by omega
  intro n
  induction n with
  | zero =>
    intro l3 A V cu e
    rw [fX9_take_L2] at e
    cases e
  | succ n ih =>
    intro l3 A V cu e
    rw [fX9_take_L2] at e
    rcases ite_ok e with ⟨h1, e⟩ | ⟨h1, e⟩
    · refine xw_y hd0 4 [1] rfl ⟨decide_eq_true h1, trivial⟩ ?_
      exact hex _ _ _ _ _ _ _ e
    · obtain ⟨h2, e⟩ := bC_ok e
      obtain ⟨h3, e⟩ := bC_ok e
      refine xw_y hd0 17 [0] rfl ⟨nt h1, h2, h3, trivial⟩ ?_
      exact ih _ _ _ _ e
set_option maxRecDepth 20000 in
set_option maxHeartbeats 4000000 in
theorem sX9_take_153 {LL : Nat} {xs : Nat → Int32} {tx : List xh_T} {d : Nat} {A V : xM} {cu : Value} {A' V' : xM} {c' : Value} {l2 : Int32} (hd : 61 ≤ d) (e : fX9_take 153 l2 A V cu = some (A', V', c')) : xe (xk_ro LL xs) d 172 [.ref 132, .ref 153, .int l2] (xh A V tx cu) (qU (xh A' V' tx c')) := by
  obtain ⟨d, rfl⟩ : ∃ d1, d = d1 + 1 := ⟨d - 1, by omega⟩
  replace hd : 60 ≤ d := by omega
  have hd0 : 60 ≤ d := by omega
  refine xe_of (co := xk_172) (nl := 4) rfl rfl rfl ?_
  unfold fX9_take at e
  refine xw_y hd0 2 [] rfl trivial ?_
  refine slX9_take_L2_153 hd ?_ FU _ _ _ _ e
  · intro z4 z5 z6 z7 A8 V9 c10 e
    cases e
    exact xw_yr hd0 2 [] rfl trivial ⟨rfl, rfl⟩
set_option maxRecDepth 20000 in
set_option maxHeartbeats 4000000 in
theorem slX9_replay_L5 {LL : Nat} {xs : Nat → Int32} {tx : List xh_T} {d : Nat} {A' V' : xM} {c' : Value} {r : Int32} {l1 : Int32} {l2 : Int32} {l3 : Int32} {ex : xM → xM → Value → Option (Int32 × xS)} (hd : 64 ≤ d) (hex : ∀ (w4 w5 w6 w7 w8 w9 : Option Value) (A V : xM) (cu : Value), ex  A V cu = some (r, A', V', c') → xw (xk_ro LL xs) d xk_173 32 [some (.ref 132), some (.int l1), some (.int l2), some (.int l3), w4, w5, w6, w7, w8, w9] [] (xh A V tx cu) (qI r (xh A' V' tx c'))) : ∀ (n : Nat) (l4 : Int32) (z5 z6 z7 z8 z9 : Option Value) (A V : xM) (cu : Value), fX9_replay_L5 l1 l2 l3 ex n l4 A V cu = some (r, A', V', c') → xw (xk_ro LL xs) d xk_173 5 [some (.ref 132), some (.int l1), some (.int l2), some (.int l3), some (.int l4), z5, z6, z7, z8, z9] [] (xh A V tx cu) (qI r (xh A' V' tx c')) := by
  have hd0 : 60 ≤ d := by omega
  intro n
  induction n with
  | zero =>
    intro l4 z5 z6 z7 z8 z9 A V cu e
    rw [fX9_replay_L5] at e
    cases e
  | succ n ih =>
    intro l4 z5 z6 z7 z8 z9 A V cu e
    rw [fX9_replay_L5] at e
    rcases ite_ok e with ⟨h1, e⟩ | ⟨h1, e⟩
    · refine xw_y hd0 3 [1] rfl ⟨decide_eq_true h1, trivial⟩ ?_
      exact hex _ _ _ _ _ _ _ _ _ e
    · obtain ⟨h2, e⟩ := bC_ok e
      refine xw_y hd0 13 [0] rfl ⟨nt h1, h2, h2, trivial⟩ ?_
      exact ih _ _ _ _ _ _ _ _ _ e
set_option maxRecDepth 20000 in
set_option maxHeartbeats 4000000 in
theorem slX9_replay_L214 {LL : Nat} {xs : Nat → Int32} {tx : List xh_T} {d : Nat} {A' V' : xM} {c' : Value} {r : Int32} {l1 : Int32} {l2 : Int32} {l3 : Int32} {l4 : Int32} {l5 : Int32} {l8 : Int32} {ex : xM → xM → Value → Option (Int32 × xS)} (hd : 64 ≤ d) (hex : ∀ (w5 w6 w7 w8 w9 : Option Value) (A V : xM) (cu : Value), ex  A V cu = some (r, A', V', c') → xw (xk_ro LL xs) d xk_173 249 [some (.ref 132), some (.int l1), some (.int l2), some (.int l3), some (.int l4), w5, w6, w7, w8, w9] [] (xh A V tx cu) (qI r (xh A' V' tx c'))) : ∀ (n : Nat) (l9 : Int32) (z6 z7 : Option Value) (A V : xM) (cu : Value), fX9_replay_L214 l1 l2 l3 l4 l5 ex n l9 A V cu = some (r, A', V', c') → xw (xk_ro LL xs) d xk_173 214 [some (.ref 132), some (.int l1), some (.int l2), some (.int l3), some (.int l4), some (.int l5), z6, z7, some (.int l8), some (.int l9)] [] (xh A V tx cu) (qI r (xh A' V' tx c')) := by
  have hd0 : 60 ≤ d := by omega
  intro n
  induction n with
  | zero =>
    intro l9 z6 z7 A V cu e
    rw [fX9_replay_L214] at e
    cases e
  | succ n ih =>
    intro l9 z6 z7 A V cu e
    rw [fX9_replay_L214] at e
    rcases ite_ok e with ⟨h3, e⟩ | ⟨h3, e⟩
    · refine xw_y hd0 4 [1] rfl ⟨decide_eq_true h3, trivial⟩ ?_
      exact hex _ _ _ _ _ _ _ _ e
    · obtain ⟨h4, e⟩ := bC_ok e
      obtain ⟨h5, e⟩ := bC_ok e
      refine xw_y hd0 18 [0] rfl ⟨nt h3, h4, h5, trivial⟩ ?_
      exact ih _ _ _ _ _ _ e
set_option maxRecDepth 20000 in
set_option maxHeartbeats 4000000 in
theorem slX9_replay_L59 {LL : Nat} {xs : Nat → Int32} {tx : List xh_T} {d : Nat}{A V : xM} {cu : Value} {A' V' : xM} {c' : Value} {r : Int32} {l1 : Int32} {l2 : Int32} {l3 : Int32} {l4 : Int32} {l5 : Int32} {ex : Int32 → Int32 → Option (Int32 × xS)} (hd : 64 ≤ d) (hex : ∀ (y6 : Int32) (y7 : Int32) (w8 w9 : Option Value), ex y6 y7 = some (r, A', V', c') → xw (xk_ro LL xs) d xk_173 152 [some (.ref 132), some (.int l1), some (.int l2), some (.int l3), some (.int l4), some (.int l5), some (.int y6), some (.int y7), w8, w9] [] (xh A V tx cu) (qI r (xh A' V' tx c'))) : ∀ (n : Nat) (l6 : Int32) (l7 : Int32) (l8 : Int32) (z9 : Option Value), fX9_replay_L59 l1 l2 l3 l4 l5 A V cu ex n l6 l7 l8 = some (r, A', V', c') → xw (xk_ro LL xs) d xk_173 59 [some (.ref 132), some (.int l1), some (.int l2), some (.int l3), some (.int l4), some (.int l5), some (.int l6), some (.int l7), some (.int l8), z9] [] (xh A V tx cu) (qI r (xh A' V' tx c')) := by
  have hd0 : 60 ≤ d := by omega
  intro n
  induction n with
  | zero =>
    intro l6 l7 l8 z9 e
    rw [fX9_replay_L59] at e
    cases e
  | succ n ih =>
    intro l6 l7 l8 z9 e
    rw [fX9_replay_L59] at e
    rcases ite_ok e with ⟨h6, e⟩ | ⟨h6, e⟩
    · refine xw_y hd0 4 [1] rfl ⟨decide_eq_true h6, trivial⟩ ?_
      exact hex _ _ _ _ e
    · obtain ⟨h7, e⟩ := bC_ok e
      obtain ⟨h8, e⟩ := bC_ok e
      rcases ite_ok e with ⟨h9, e⟩ | ⟨h9, e⟩
      · rcases ite_ok e with ⟨h10, e⟩ | ⟨h10, e⟩
        · refine xw_y hd0 34 [0, 0, 1] rfl ⟨nt h6, h7, h8, nnt h9, decide_eq_true h10, trivial⟩ ?_
          exact ih _ _ _ _ e
        · obtain ⟨h11, e⟩ := bC_ok e
          rcases ite_ok e with ⟨h12, e⟩ | ⟨h12, e⟩
          · refine xw_y hd0 50 [0, 0, 0, 0] rfl ⟨nt h6, h7, h8, nnt h9, nt h10, h8, h11, nnt h12, trivial⟩ ?_
            exact ih _ _ _ _ e
          · refine xw_y hd0 47 [0, 0, 0, 1] rfl ⟨nt h6, h7, h8, nnt h9, nt h10, h8, h11, nt h12, trivial⟩ ?_
            exact ih _ _ _ _ e
      · rcases ite_ok e with ⟨h13, e⟩ | ⟨h13, e⟩
        · refine xw_y hd0 31 [0, 1, 1] rfl ⟨nt h6, h7, h8, nt h9, decide_eq_true h13, trivial⟩ ?_
          exact ih _ _ _ _ e
        · obtain ⟨h14, e⟩ := bC_ok e
          rcases ite_ok e with ⟨h15, e⟩ | ⟨h15, e⟩
          · refine xw_y hd0 47 [0, 1, 0, 0] rfl ⟨nt h6, h7, h8, nt h9, nt h13, h8, h14, nnt h15, trivial⟩ ?_
            exact ih _ _ _ _ e
          · refine xw_y hd0 44 [0, 1, 0, 1] rfl ⟨nt h6, h7, h8, nt h9, nt h13, h8, h14, nt h15, trivial⟩ ?_
            exact ih _ _ _ _ e
set_option maxRecDepth 20000 in
set_option maxHeartbeats 4000000 in
theorem slX9_replay_L35 {LL : Nat} {xs : Nat → Int32} {tx : List xh_T} {d : Nat} {A' V' : xM} {c' : Value} {r : Int32} {l1 : Int32} {l2 : Int32} {ex : Int32 → xM → xM → Value → Option (Int32 × xS)} (hd : 64 ≤ d) (hex : ∀ (y3 : Int32) (w0 w1 w2 w4 w5 w6 w7 w8 w9 : Option Value) (A V : xM) (cu : Value), ex y3 A V cu = some (r, A', V', c') → xw (xk_ro LL xs) d xk_173 255 [w0, w1, w2, some (.int y3), w4, w5, w6, w7, w8, w9] [] (xh A V tx cu) (qI r (xh A' V' tx c'))) : ∀ (n : Nat) (l3 : Int32) (l4 : Int32) (z5 z6 z7 z8 z9 : Option Value) (A V : xM) (cu : Value), fX9_replay_L35 l1 l2 ex n l3 l4 A V cu = some (r, A', V', c') → xw (xk_ro LL xs) d xk_173 35 [some (.ref 132), some (.int l1), some (.int l2), some (.int l3), some (.int l4), z5, z6, z7, z8, z9] [] (xh A V tx cu) (qI r (xh A' V' tx c')) := by
  have hd0 : 60 ≤ d := by omega
  intro n
  induction n with
  | zero =>
    intro l3 l4 z5 z6 z7 z8 z9 A V cu e
    rw [fX9_replay_L35] at e
    cases e
  | succ n ih =>
    intro l3 l4 z5 z6 z7 z8 z9 A V cu e
    rw [fX9_replay_L35] at e
    rcases ite_ok e with ⟨h16, e⟩ | ⟨h16, e⟩
    · refine xw_y hd0 3 [1] rfl ⟨decide_eq_true h16, trivial⟩ ?_
      exact hex _ _ _ _ _ _ _ _ _ _ _ _ _ e
    · obtain ⟨h17, e⟩ := bC_ok e
      refine xw_y hd0 14 [0] rfl ⟨nt h16, h17, trivial⟩ ?_
      refine slX9_replay_L59 hd ?_ FU _ _ _ _ e
      · intro l6_18 l7_19 z20 z21 e
        refine xw_y hd0 4 [] rfl trivial ?_
        obtain ⟨A23, V24, c25, e26, e⟩ := bS_ok e
        refine xw_call (k := 172) (j := 3) rfl (fun F => xm_c_ok (y_c_ok rfl) F) rfl rfl rfl (sX9_take_153 (by omega) e26) ?_
        rintro _ _ ⟨rfl, rfl⟩
        refine xw_y hd0 14 [] rfl ⟨h17, trivial⟩ ?_
        obtain ⟨x27, e28, e⟩ := bI_ok e
        refine xw_call (k := 171) (j := 3) rfl (fun F => xm_c_ok (y_c_ok rfl) F) rfl rfl rfl (sX9_whoHas_153 (by omega) e28) ?_
        rintro _ _ ⟨rfl, rfl⟩
        obtain ⟨x29, A30, V31, c32, e33, e⟩ := bX_ok e
        refine xw_call (k := 170) (j := 8) rfl (fun F => xm_c_ok (y_c_ok rfl) F) rfl rfl rfl (sX9_begin (by omega) e33) ?_
        rintro _ _ ⟨rfl, rfl⟩
        rcases ite_ok e with ⟨h34, e⟩ | ⟨h34, e⟩
        · rcases ite_ok e with ⟨h35, e⟩ | ⟨h35, e⟩
          · refine xw_y hd0 11 [0, 0] rfl ⟨nnt h34, nnt h35, trivial⟩ ?_
            refine slX9_replay_L214 hd ?_ FU _ _ _ _ _ _ e
            · intro z36 z37 z38 z39 z40 A41 V42 c43 e
              refine xw_y hd0 2 [] rfl trivial ?_
              exact ih _ _ _ _ _ _ _ _ _ _ e
          · refine xw_y hd0 10 [0, 1] rfl ⟨nnt h34, nt h35, trivial⟩ ?_
            refine slX9_replay_L214 hd ?_ FU _ _ _ _ _ _ e
            · intro z44 z45 z46 z47 z48 A49 V50 c51 e
              refine xw_y hd0 2 [] rfl trivial ?_
              exact ih _ _ _ _ _ _ _ _ _ _ e
        · refine xw_y hd0 8 [1] rfl ⟨nt h34, trivial⟩ ?_
          refine slX9_replay_L214 hd ?_ FU _ _ _ _ _ _ e
          · intro z52 z53 z54 z55 z56 A57 V58 c59 e
            refine xw_y hd0 2 [] rfl trivial ?_
            exact ih _ _ _ _ _ _ _ _ _ _ e
set_option maxRecDepth 20000 in
set_option maxHeartbeats 4000000 in
theorem sX9_replay {LL : Nat} {xs : Nat → Int32} {tx : List xh_T} {d : Nat} {A V : xM} {cu : Value} {A' V' : xM} {c' : Value} {r : Int32} {l1 l2 : Int32} (hd : 65 ≤ d) (e : fX9_replay l1 l2 A V cu = some (r, A', V', c')) : xe (xk_ro LL xs) d 173 [.ref 132, .int l1, .int l2] (xh A V tx cu) (qI r (xh A' V' tx c')) := by
  obtain ⟨d, rfl⟩ : ∃ d1, d = d1 + 1 := ⟨d - 1, by omega⟩
  replace hd : 64 ≤ d := by omega
  have hd0 : 60 ≤ d := by omega
  refine xe_of (co := xk_173) (nl := 10) rfl rfl rfl ?_
  unfold fX9_replay at e
  refine xw_y hd0 4 [] rfl trivial ?_
  refine slX9_replay_L5 hd ?_ FU _ _ _ _ _ _ _ _ _ e
  · intro z60 z61 z62 z63 z64 z65 A66 V67 c68 e
    refine xw_y hd0 2 [] rfl trivial ?_
    refine slX9_replay_L35 hd ?_ FU _ _ _ _ _ _ _ _ _ _ e
    · intro l3_69 z70 z71 z72 z73 z74 z75 z76 z77 z78 A79 V80 c81 e
      cases e
      exact xw_yr hd0 3 [] rfl ⟨rfl, trivial⟩ ⟨rfl, rfl⟩
set_option maxRecDepth 20000 in
set_option maxHeartbeats 4000000 in
theorem slX9_evening_L58 {LL : Nat} {xs : Nat → Int32} {tx : List xh_T} {d : Nat}{A V : xM} {cu : Value} {A' V' : xM} {c' : Value} {r : Int32} {l1 : Int32} {l2 : Int32} {l3 : Int32} {ex : Option (Int32 × xS)} (hd : 60 ≤ d) (hex : ∀ (w4 w5 w6 : Option Value), ex  = some (r, A', V', c') → xw (xk_ro LL xs) d xk_174 96 [some (.ref 132), some (.int l1), some (.int l2), some (.int l3), w4, w5, w6] [] (xh A V tx cu) (qI r (xh A' V' tx c'))) : ∀ (n : Nat) (l4 : Int32) (z5 z6 : Option Value), fX9_evening_L58 l1 l2 l3 A V cu ex n l4 = some (r, A', V', c') → xw (xk_ro LL xs) d xk_174 58 [some (.ref 132), some (.int l1), some (.int l2), some (.int l3), some (.int l4), z5, z6] [] (xh A V tx cu) (qI r (xh A' V' tx c')) := by
  have hd0 : 60 ≤ d := by omega
  intro n
  induction n with
  | zero =>
    intro l4 z5 z6 e
    rw [fX9_evening_L58] at e
    cases e
  | succ n ih =>
    intro l4 z5 z6 e
    rw [fX9_evening_L58] at e
    rcases ite_ok e with ⟨h1, e⟩ | ⟨h1, e⟩
    · refine xw_y hd0 4 [1] rfl ⟨decide_eq_true h1, trivial⟩ ?_
      exact hex _ _ _ e
    · obtain ⟨h2, e⟩ := bC_ok e
      rcases ite_ok e with ⟨h3, e⟩ | ⟨h3, e⟩
      · cases e
        exact xw_yr hd0 24 [0, 1, 0] rfl ⟨nt h1, h2, decide_eq_true h3, rfl, rfl, rfl, trivial⟩ ⟨rfl, rfl⟩
      · rcases ite_ok e with ⟨h4, e⟩ | ⟨h4, e⟩
        · cases e
          exact xw_yr hd0 27 [0, 0, 1, 0] rfl ⟨nt h1, h2, nt h3, decide_eq_true h4, rfl, rfl, rfl, trivial⟩ ⟨rfl, rfl⟩
        · refine xw_y hd0 27 [0, 0, 0, 1] rfl ⟨nt h1, h2, nt h3, nt h4, rfl, rfl, trivial⟩ ?_
          exact ih _ _ _ e
set_option maxRecDepth 20000 in
set_option maxHeartbeats 4000000 in
theorem slX9_evening_L111 {LL : Nat} {xs : Nat → Int32} {tx : List xh_T} {d : Nat}{A V : xM} {cu : Value} {A' V' : xM} {c' : Value} {r : Int32} {l1 : Int32} {l2 : Int32} {l3 : Int32} {l4 : Int32} {ex : Int32 → Option (Int32 × xS)} (hd : 60 ≤ d) (hex : ∀ (y5 : Int32) (w6 : Option Value), ex y5 = some (r, A', V', c') → xw (xk_ro LL xs) d xk_174 153 [some (.ref 132), some (.int l1), some (.int l2), some (.int l3), some (.int l4), some (.int y5), w6] [] (xh A V tx cu) (qI r (xh A' V' tx c'))) : ∀ (n : Nat) (l5 : Int32) (l6 : Int32), fX9_evening_L111 l1 l2 l3 l4 A V cu ex n l5 l6 = some (r, A', V', c') → xw (xk_ro LL xs) d xk_174 111 [some (.ref 132), some (.int l1), some (.int l2), some (.int l3), some (.int l4), some (.int l5), some (.int l6)] [] (xh A V tx cu) (qI r (xh A' V' tx c')) := by
  have hd0 : 60 ≤ d := by omega
  intro n
  induction n with
  | zero =>
    intro l5 l6 e
    rw [fX9_evening_L111] at e
    cases e
  | succ n ih =>
    intro l5 l6 e
    rw [fX9_evening_L111] at e
    rcases ite_ok e with ⟨h5, e⟩ | ⟨h5, e⟩
    · refine xw_y hd0 4 [1] rfl ⟨decide_eq_true h5, trivial⟩ ?_
      exact hex _ _ e
    · obtain ⟨h6, e⟩ := bC_ok e
      rcases ite_ok e with ⟨h7, e⟩ | ⟨h7, e⟩
      · refine xw_y hd0 21 [0, 0] rfl ⟨nt h5, h6, nnt h7, trivial⟩ ?_
        exact ih _ _ e
      · refine xw_y hd0 20 [0, 1] rfl ⟨nt h5, h6, nt h7, trivial⟩ ?_
        exact ih _ _ e
set_option maxRecDepth 20000 in
set_option maxHeartbeats 4000000 in
theorem slX9_evening_L209 {LL : Nat} {xs : Nat → Int32} {tx : List xh_T} {d : Nat} {A' V' : xM} {c' : Value} {r : Int32} {l3 : Int32} {ex : xM → xM → Value → Option (Int32 × xS)} (hd : 60 ≤ d) (hex : ∀ (w1 w2 w3 w4 w5 w6 : Option Value) (A V : xM) (cu : Value), ex  A V cu = some (r, A', V', c') → xw (xk_ro LL xs) d xk_174 260 [some (.ref 132), w1, w2, w3, w4, w5, w6] [] (xh A V tx cu) (qI r (xh A' V' tx c'))) : ∀ (n : Nat) (l4 : Int32) (z1 z2 z5 z6 : Option Value) (A V : xM) (cu : Value), fX9_evening_L209 l3 ex n l4 A V cu = some (r, A', V', c') → xw (xk_ro LL xs) d xk_174 209 [some (.ref 132), z1, z2, some (.int l3), some (.int l4), z5, z6] [] (xh A V tx cu) (qI r (xh A' V' tx c')) := by
  have hd0 : 60 ≤ d := by omega
  intro n
  induction n with
  | zero =>
    intro l4 z1 z2 z5 z6 A V cu e
    rw [fX9_evening_L209] at e
    cases e
  | succ n ih =>
    intro l4 z1 z2 z5 z6 A V cu e
    rw [fX9_evening_L209] at e
    rcases ite_ok e with ⟨h8, e⟩ | ⟨h8, e⟩
    · refine xw_y hd0 3 [1] rfl ⟨decide_eq_true h8, trivial⟩ ?_
      exact hex _ _ _ _ _ _ _ _ _ e
    · rcases ite_ok e with ⟨h9, e⟩ | ⟨h9, e⟩
      · obtain ⟨h10, e⟩ := bC_ok e
        refine xw_y hd0 19 [0, 1] rfl ⟨nt h8, decide_eq_true h9, h10, trivial⟩ ?_
        exact ih _ _ _ _ _ _ _ _ e
      · obtain ⟨h11, e⟩ := bC_ok e
        obtain ⟨h12, e⟩ := bC_ok e
        refine xw_y hd0 27 [0, 0] rfl ⟨nt h8, nt h9, h11, h12, trivial⟩ ?_
        exact ih _ _ _ _ _ _ _ _ e
set_option maxRecDepth 20000 in
set_option maxHeartbeats 4000000 in
theorem slX9_evening_L99 {LL : Nat} {xs : Nat → Int32} {tx : List xh_T} {d : Nat}{A V : xM} {cu : Value} {A' V' : xM} {c' : Value} {r : Int32} {l1 : Int32} {l2 : Int32} {l3 : Int32} {ex : Option (Int32 × xS)} (hd : 60 ≤ d) (hex : ∀ (w4 w5 w6 : Option Value), ex  = some (r, A', V', c') → xw (xk_ro LL xs) d xk_174 174 [some (.ref 132), some (.int l1), some (.int l2), some (.int l3), w4, w5, w6] [] (xh A V tx cu) (qI r (xh A' V' tx c'))) : ∀ (n : Nat) (l4 : Int32) (z5 z6 : Option Value), fX9_evening_L99 l1 l2 l3 A V cu ex n l4 = some (r, A', V', c') → xw (xk_ro LL xs) d xk_174 99 [some (.ref 132), some (.int l1), some (.int l2), some (.int l3), some (.int l4), z5, z6] [] (xh A V tx cu) (qI r (xh A' V' tx c')) := by
  have hd0 : 60 ≤ d := by omega
  intro n
  induction n with
  | zero =>
    intro l4 z5 z6 e
    rw [fX9_evening_L99] at e
    cases e
  | succ n ih =>
    intro l4 z5 z6 e
    rw [fX9_evening_L99] at e
    rcases ite_ok e with ⟨h13, e⟩ | ⟨h13, e⟩
    · refine xw_y hd0 3 [1] rfl ⟨decide_eq_true h13, trivial⟩ ?_
      exact hex _ _ _ e
    · refine xw_y hd0 7 [0] rfl ⟨nt h13, trivial⟩ ?_
      refine slX9_evening_L111 hd ?_ FU _ _ e
      · intro l5_14 z15 e
        obtain ⟨h16, e⟩ := bC_ok e
        rcases ite_ok e with ⟨h17, e⟩ | ⟨h17, e⟩
        · refine xw_y hd0 8 [1] rfl ⟨h16, decide_eq_true h17, trivial⟩ ?_
          exact ih _ _ _ e
        · cases e
          exact xw_yr hd0 9 [0] rfl ⟨h16, nt h17, rfl, trivial⟩ ⟨rfl, rfl⟩
set_option maxRecDepth 20000 in
set_option maxHeartbeats 4000000 in
theorem sX9_evening {LL : Nat} {xs : Nat → Int32} {tx : List xh_T} {d : Nat} {A V : xM} {cu : Value} {A' V' : xM} {c' : Value} {r : Int32} {l1 l2 l3 : Int32} (hd : 61 ≤ d) (e : fX9_evening l1 l2 l3 A V cu = some (r, A', V', c')) : xe (xk_ro LL xs) d 174 [.ref 132, .int l1, .int l2, .int l3] (xh A V tx cu) (qI r (xh A' V' tx c')) := by
  obtain ⟨d, rfl⟩ : ∃ d1, d = d1 + 1 := ⟨d - 1, by omega⟩
  replace hd : 60 ≤ d := by omega
  have hd0 : 60 ≤ d := by omega
  refine xe_of (co := xk_174) (nl := 7) rfl rfl rfl ?_
  unfold fX9_evening at e
  rcases ite_ok e with ⟨h18, e⟩ | ⟨h18, e⟩
  · cases e
    exact xw_yr hd0 20 [1, 1] rfl ⟨decide_eq_true h18, rfl, rfl, rfl, rfl, trivial⟩ ⟨rfl, rfl⟩
  · rcases ite_ok e with ⟨h19, e⟩ | ⟨h19, e⟩
    · cases e
      exact xw_yr hd0 23 [0, 1, 1] rfl ⟨nt h18, decide_eq_true h19, rfl, rfl, rfl, rfl, trivial⟩ ⟨rfl, rfl⟩
    · rcases ite_ok e with ⟨h20, e⟩ | ⟨h20, e⟩
      · cases e
        exact xw_yr hd0 34 [0, 0, 0, 1, 1] rfl ⟨nt h18, nt h19, rfl, rfl, rfl, decide_eq_true h20, rfl, rfl, rfl, trivial⟩ ⟨rfl, rfl⟩
      · rcases ite_ok e with ⟨h21, e⟩ | ⟨h21, e⟩
        · cases e
          exact xw_yr hd0 37 [0, 0, 0, 0, 1, 1] rfl ⟨nt h18, nt h19, rfl, rfl, rfl, nt h20, decide_eq_true h21, rfl, rfl, rfl, trivial⟩ ⟨rfl, rfl⟩
        · rcases ite_ok e with ⟨h22, e⟩ | ⟨h22, e⟩
          · cases e
            exact xw_yr hd0 51 [0, 0, 0, 0, 0, 0, 1, 0] rfl ⟨nt h18, nt h19, rfl, rfl, rfl, nt h20, nt h21, rfl, rfl, decide_eq_true h22, rfl, rfl, rfl, rfl, trivial⟩ ⟨rfl, rfl⟩
          · rcases ite_ok e with ⟨h23, e⟩ | ⟨h23, e⟩
            · cases e
              exact xw_yr hd0 54 [0, 0, 0, 0, 0, 0, 0, 1, 0] rfl ⟨nt h18, nt h19, rfl, rfl, rfl, nt h20, nt h21, rfl, rfl, nt h22, decide_eq_true h23, rfl, rfl, rfl, rfl, trivial⟩ ⟨rfl, rfl⟩
            · obtain ⟨h24, e⟩ := bC_ok e
              rcases ite_ok e with ⟨h25, e⟩ | ⟨h25, e⟩
              · rcases ite_ok e with ⟨h26, e⟩ | ⟨h26, e⟩
                · refine xw_y hd0 66 [0, 0, 0, 0, 0, 0, 0, 0, 1, 1, 1] rfl ⟨nt h18, nt h19, rfl, rfl, rfl, nt h20, nt h21, rfl, rfl, nt h22, nt h23, rfl, rfl, rfl, h24, decide_eq_true h25, h24, decide_eq_true h26, trivial⟩ ?_
                  refine slX9_evening_L58 hd ?_ FU _ _ _ e
                  · intro z27 z28 z29 e
                    refine xw_y hd0 2 [] rfl trivial ?_
                    refine slX9_evening_L99 hd ?_ FU _ _ _ e
                    · intro z30 z31 z32 e
                      rcases ite_ok e with ⟨h33, e⟩ | ⟨h33, e⟩
                      · cases e
                        exact xw_yr hd0 7 [0] rfl ⟨nnt h33, rfl, trivial⟩ ⟨rfl, rfl⟩
                      · obtain ⟨h34, e⟩ := bC_ok e
                        refine xw_y hd0 18 [1] rfl ⟨nt h33, h34, h34, trivial⟩ ?_
                        refine slX9_evening_L209 hd ?_ FU _ _ _ _ _ _ _ _ e
                        · intro z35 z36 z37 z38 z39 z40 A41 V42 c43 e
                          cases e
                          exact xw_yr hd0 12 [] rfl ⟨rfl, rfl, trivial⟩ ⟨rfl, rfl⟩
                · cases e
                  exact xw_yr hd0 67 [0, 0, 0, 0, 0, 0, 0, 0, 1, 1, 0] rfl ⟨nt h18, nt h19, rfl, rfl, rfl, nt h20, nt h21, rfl, rfl, nt h22, nt h23, rfl, rfl, rfl, h24, decide_eq_true h25, h24, nt h26, rfl, trivial⟩ ⟨rfl, rfl⟩
              · cases e
                exact xw_yr hd0 60 [0, 0, 0, 0, 0, 0, 0, 0, 1, 0] rfl ⟨nt h18, nt h19, rfl, rfl, rfl, nt h20, nt h21, rfl, rfl, nt h22, nt h23, rfl, rfl, rfl, h24, nt h25, rfl, trivial⟩ ⟨rfl, rfl⟩
set_option maxRecDepth 20000 in
set_option maxHeartbeats 4000000 in
theorem sX9_knows {LL : Nat} {xs : Nat → Int32} {tx : List xh_T} {d : Nat} {A V : xM} {cu : Value} {A' V' : xM} {c' : Value} {r : Int32} {l1 l2 l3 : Int32} (hd : 66 ≤ d) (e : fX9_knows l1 l2 l3 A V cu = some (r, A', V', c')) : xe (xk_ro LL xs) d 177 [.ref 132, .int l1, .int l2, .int l3] (xh A V tx cu) (qI r (xh A' V' tx c')) := by
  obtain ⟨d, rfl⟩ : ∃ d1, d = d1 + 1 := ⟨d - 1, by omega⟩
  replace hd : 65 ≤ d := by omega
  have hd0 : 60 ≤ d := by omega
  refine xe_of (co := xk_177) (nl := 4) rfl rfl rfl ?_
  unfold fX9_knows at e
  rcases ite_ok e with ⟨h1, e⟩ | ⟨h1, e⟩
  · cases e
    exact xw_yr hd0 14 [1, 1] rfl ⟨decide_eq_true h1, rfl, rfl, rfl, trivial⟩ ⟨rfl, rfl⟩
  · rcases ite_ok e with ⟨h2, e⟩ | ⟨h2, e⟩
    · cases e
      exact xw_yr hd0 17 [0, 1, 1] rfl ⟨nt h1, decide_eq_true h2, rfl, rfl, rfl, trivial⟩ ⟨rfl, rfl⟩
    · rcases ite_ok e with ⟨h3, e⟩ | ⟨h3, e⟩
      · cases e
        exact xw_yr hd0 35 [0, 0, 0, 1, 1] rfl ⟨nt h1, nt h2, rfl, rfl, decide_eq_true h3, rfl, rfl, rfl, rfl, trivial⟩ ⟨rfl, rfl⟩
      · rcases ite_ok e with ⟨h4, e⟩ | ⟨h4, e⟩
        · cases e
          exact xw_yr hd0 38 [0, 0, 0, 0, 1, 1] rfl ⟨nt h1, nt h2, rfl, rfl, nt h3, decide_eq_true h4, rfl, rfl, rfl, rfl, trivial⟩ ⟨rfl, rfl⟩
        · rcases ite_ok e with ⟨h5, e⟩ | ⟨h5, e⟩
          · cases e
            exact xw_yr hd0 56 [0, 0, 0, 0, 0, 0, 1, 0] rfl ⟨nt h1, nt h2, rfl, rfl, nt h3, nt h4, rfl, rfl, rfl, decide_eq_true h5, rfl, rfl, rfl, rfl, trivial⟩ ⟨rfl, rfl⟩
          · rcases ite_ok e with ⟨h6, e⟩ | ⟨h6, e⟩
            · cases e
              exact xw_yr hd0 59 [0, 0, 0, 0, 0, 0, 0, 1, 0] rfl ⟨nt h1, nt h2, rfl, rfl, nt h3, nt h4, rfl, rfl, rfl, nt h5, decide_eq_true h6, rfl, rfl, rfl, rfl, trivial⟩ ⟨rfl, rfl⟩
            · refine xw_y hd0 61 [0, 0, 0, 0, 0, 0, 0, 0, 1] rfl ⟨nt h1, nt h2, rfl, rfl, nt h3, nt h4, rfl, rfl, rfl, nt h5, nt h6, rfl, rfl, rfl, trivial⟩ ?_
              obtain ⟨x7, A8, V9, c10, e11, e⟩ := bX_ok e
              refine xw_call (k := 173) (j := 3) rfl (fun F => xm_c_ok (y_c_ok rfl) F) rfl rfl rfl (sX9_replay (by omega) e11) ?_
              rintro _ _ ⟨rfl, rfl⟩
              obtain ⟨h12, e⟩ := bC_ok e
              cases e
              exact xw_yr hd0 11 [] rfl ⟨h12, rfl, trivial⟩ ⟨rfl, rfl⟩
set_option maxRecDepth 20000 in
set_option maxHeartbeats 4000000 in
theorem sX9_isSo {LL : Nat} {xs : Nat → Int32} {tx : List xh_T} {d : Nat} {A V : xM} {cu : Value} {r : Int32} {l0 l1 : Int32} (hd : 61 ≤ d) (e : fX9_isSo l0 l1 A V = some r) : xe (xk_ro LL xs) d 178 [.int l0, .int l1] (xh A V tx cu) (qI r (xh A V tx cu)) := by
  obtain ⟨d, rfl⟩ : ∃ d1, d = d1 + 1 := ⟨d - 1, by omega⟩
  replace hd : 60 ≤ d := by omega
  have hd0 : 60 ≤ d := by omega
  refine xe_of (co := xk_178) (nl := 2) rfl rfl rfl ?_
  unfold fX9_isSo at e
  rcases ite_ok e with ⟨h1, e⟩ | ⟨h1, e⟩
  · rcases ite_ok e with ⟨h2, e⟩ | ⟨h2, e⟩
    · cases e
      exact xw_yr hd0 9 [0, 1] rfl ⟨nnt h1, decide_eq_true h2, rfl, trivial⟩ ⟨rfl, rfl⟩
    · cases e
      exact xw_yr hd0 9 [0, 0] rfl ⟨nnt h1, nt h2, rfl, trivial⟩ ⟨rfl, rfl⟩
  · rcases ite_ok e with ⟨h3, e⟩ | ⟨h3, e⟩
    · rcases ite_ok e with ⟨h4, e⟩ | ⟨h4, e⟩
      · cases e
        exact xw_yr hd0 12 [1, 0, 0] rfl ⟨nt h1, nnt h3, nnt h4, rfl, trivial⟩ ⟨rfl, rfl⟩
      · cases e
        exact xw_yr hd0 12 [1, 0, 1] rfl ⟨nt h1, nnt h3, nt h4, rfl, trivial⟩ ⟨rfl, rfl⟩
    · rcases ite_ok e with ⟨h5, e⟩ | ⟨h5, e⟩
      · cases e
        exact xw_yr hd0 12 [1, 1, 0] rfl ⟨nt h1, nt h3, nnt h5, rfl, trivial⟩ ⟨rfl, rfl⟩
      · cases e
        exact xw_yr hd0 11 [1, 1, 1] rfl ⟨nt h1, nt h3, nt h5, rfl, trivial⟩ ⟨rfl, rfl⟩
set_option maxRecDepth 20000 in
set_option maxHeartbeats 4000000 in
theorem slX9_all_L51 {LL : Nat} {xs : Nat → Int32} {tx : List xh_T} {d : Nat}{A V : xM} {cu : Value} {A' V' : xM} {c' : Value} {r : Int32} {l2 : Int32} {l3 : Int32} {ex : Int32 → Option (Int32 × xS)} (hd : 65 ≤ d) (hex : ∀ (y4 : Int32) (w0 w1 w2 w3 w5 : Option Value), ex y4 = some (r, A', V', c') → xw (xk_ro LL xs) d xk_179 98 [w0, w1, w2, w3, some (.int y4), w5] [] (xh A V tx cu) (qI r (xh A' V' tx c'))) : ∀ (n : Nat) (l4 : Int32) (l5 : Int32) (z1 : Option Value), fX9_all_L51 l2 l3 A V cu ex n l4 l5 = some (r, A', V', c') → xw (xk_ro LL xs) d xk_179 51 [some (.ref 132), z1, some (.int l2), some (.int l3), some (.int l4), some (.int l5)] [] (xh A V tx cu) (qI r (xh A' V' tx c')) := by
  have hd0 : 60 ≤ d := by omega
  intro n
  induction n with
  | zero =>
    intro l4 l5 z1 e
    rw [fX9_all_L51] at e
    cases e
  | succ n ih =>
    intro l4 l5 z1 e
    rw [fX9_all_L51] at e
    rcases ite_ok e with ⟨h1, e⟩ | ⟨h1, e⟩
    · refine xw_y hd0 4 [1] rfl ⟨decide_eq_true h1, trivial⟩ ?_
      exact hex _ _ _ _ _ _ e
    · obtain ⟨h2, e⟩ := bC_ok e
      refine xw_y hd0 14 [0] rfl ⟨nt h1, h2, trivial⟩ ?_
      obtain ⟨x3, e4, e⟩ := bI_ok e
      refine xw_call (k := 178) (j := 2) rfl (fun F => xm_c_ok (y_c_ok rfl) F) rfl rfl rfl (sX9_isSo (by omega) e4) ?_
      rintro _ _ ⟨rfl, rfl⟩
      rcases ite_ok e with ⟨h5, e⟩ | ⟨h5, e⟩
      · refine xw_y hd0 6 [1] rfl ⟨decide_eq_true h5, trivial⟩ ?_
        exact ih _ _ _ e
      · refine xw_y hd0 9 [0] rfl ⟨nt h5, trivial⟩ ?_
        exact ih _ _ _ e
set_option maxRecDepth 20000 in
set_option maxHeartbeats 4000000 in
theorem sX9_all {LL : Nat} {xs : Nat → Int32} {tx : List xh_T} {d : Nat} {A V : xM} {cu : Value} {A' V' : xM} {c' : Value} {r : Int32} {l1 l2 l3 : Int32} (hd : 66 ≤ d) (e : fX9_all l1 l2 l3 A V cu = some (r, A', V', c')) : xe (xk_ro LL xs) d 179 [.ref 132, .int l1, .int l2, .int l3] (xh A V tx cu) (qI r (xh A' V' tx c')) := by
  obtain ⟨d, rfl⟩ : ∃ d1, d = d1 + 1 := ⟨d - 1, by omega⟩
  replace hd : 65 ≤ d := by omega
  have hd0 : 60 ≤ d := by omega
  refine xe_of (co := xk_179) (nl := 6) rfl rfl rfl ?_
  unfold fX9_all at e
  rcases ite_ok e with ⟨h6, e⟩ | ⟨h6, e⟩
  · cases e
    exact xw_yr hd0 14 [1, 1] rfl ⟨decide_eq_true h6, rfl, rfl, rfl, trivial⟩ ⟨rfl, rfl⟩
  · rcases ite_ok e with ⟨h7, e⟩ | ⟨h7, e⟩
    · cases e
      exact xw_yr hd0 17 [0, 1, 1] rfl ⟨nt h6, decide_eq_true h7, rfl, rfl, rfl, trivial⟩ ⟨rfl, rfl⟩
    · rcases ite_ok e with ⟨h8, e⟩ | ⟨h8, e⟩
      · cases e
        exact xw_yr hd0 35 [0, 0, 0, 1, 0] rfl ⟨nt h6, nt h7, rfl, rfl, decide_eq_true h8, rfl, rfl, rfl, rfl, trivial⟩ ⟨rfl, rfl⟩
      · rcases ite_ok e with ⟨h9, e⟩ | ⟨h9, e⟩
        · cases e
          exact xw_yr hd0 38 [0, 0, 0, 0, 1, 0] rfl ⟨nt h6, nt h7, rfl, rfl, nt h8, decide_eq_true h9, rfl, rfl, rfl, rfl, trivial⟩ ⟨rfl, rfl⟩
        · rcases ite_ok e with ⟨h10, e⟩ | ⟨h10, e⟩
          · cases e
            exact xw_yr hd0 49 [0, 0, 0, 0, 0, 1, 1, 0] rfl ⟨nt h6, nt h7, rfl, rfl, nt h8, nt h9, rfl, rfl, rfl, decide_eq_true h10, rfl, rfl, rfl, trivial⟩ ⟨rfl, rfl⟩
          · rcases ite_ok e with ⟨h11, e⟩ | ⟨h11, e⟩
            · cases e
              exact xw_yr hd0 52 [0, 0, 0, 0, 0, 1, 0, 1, 0] rfl ⟨nt h6, nt h7, rfl, rfl, nt h8, nt h9, rfl, rfl, rfl, nt h10, decide_eq_true h11, rfl, rfl, rfl, trivial⟩ ⟨rfl, rfl⟩
            · refine xw_y hd0 54 [0, 0, 0, 0, 0, 1, 0, 0, 1] rfl ⟨nt h6, nt h7, rfl, rfl, nt h8, nt h9, rfl, rfl, rfl, nt h10, nt h11, rfl, rfl, trivial⟩ ?_
              obtain ⟨x12, A13, V14, c15, e16, e⟩ := bX_ok e
              refine xw_call (k := 173) (j := 3) rfl (fun F => xm_c_ok (y_c_ok rfl) F) rfl rfl rfl (sX9_replay (by omega) e16) ?_
              rintro _ _ ⟨rfl, rfl⟩
              refine xw_y hd0 5 [] rfl trivial ?_
              refine slX9_all_L51 hd ?_ FU _ _ _ e
              · intro l4_17 z18 z19 z20 z21 z22 e
                cases e
                exact xw_yr hd0 3 [] rfl ⟨rfl, trivial⟩ ⟨rfl, rfl⟩
set_option maxRecDepth 20000 in
set_option maxHeartbeats 4000000 in
theorem sX9_judge {LL : Nat} {xs : Nat → Int32} {tx : List xh_T} {d : Nat} {A V : xM} {cu : Value} {A' V' : xM} {c' : Value} {r : Int32} (hd : 66 ≤ d) (e : fX9_judge A V cu = some (r, A', V', c')) : xe (xk_ro LL xs) d 180 [.ref 132] (xh A V tx cu) (qI r (xh A' V' tx c')) := by
  obtain ⟨d, rfl⟩ : ∃ d1, d = d1 + 1 := ⟨d - 1, by omega⟩
  replace hd : 65 ≤ d := by omega
  have hd0 : 60 ≤ d := by omega
  refine xe_of (co := xk_180) (nl := 1) rfl rfl rfl ?_
  unfold fX9_judge at e
  refine xw_y hd0 5 [] rfl trivial ?_
  obtain ⟨x1, A2, V3, c4, e5, e⟩ := bX_ok e
  refine xw_call (k := 173) (j := 3) rfl (fun F => xm_c_ok (y_c_ok rfl) F) rfl rfl rfl (sX9_replay (by omega) e5) ?_
  rintro _ _ ⟨rfl, rfl⟩
  cases e
  exact xw_yr hd0 2 [] rfl ⟨rfl, trivial⟩ ⟨rfl, rfl⟩
set_option maxRecDepth 20000 in
set_option maxHeartbeats 4000000 in
theorem slX9_laws_L4 {LL : Nat} {xs : Nat → Int32} {tx : List xh_T} {d : Nat} {A' V' : xM} {c' : Value} {r : Int32} {ex : Int32 → xM → xM → Value → Option (Int32 × xS)} (hd : 65 ≤ d) (hex : ∀ (y1 : Int32) (w0 w2 : Option Value) (A V : xM) (cu : Value), ex y1 A V cu = some (r, A', V', c') → xw (xk_ro LL xs) d xk_181 41 [w0, some (.int y1), w2] [] (xh A V tx cu) (qI r (xh A' V' tx c'))) : ∀ (n : Nat) (l1 : Int32) (l2 : Int32) (A V : xM) (cu : Value), fX9_laws_L4 ex n l1 l2 A V cu = some (r, A', V', c') → xw (xk_ro LL xs) d xk_181 4 [some (.ref 132), some (.int l1), some (.int l2)] [] (xh A V tx cu) (qI r (xh A' V' tx c')) := by
  have hd0 : 60 ≤ d := by omega
  intro n
  induction n with
  | zero =>
    intro l1 l2 A V cu e
    rw [fX9_laws_L4] at e
    cases e
  | succ n ih =>
    intro l1 l2 A V cu e
    rw [fX9_laws_L4] at e
    rcases ite_ok e with ⟨h1, e⟩ | ⟨h1, e⟩
    · refine xw_y hd0 4 [1] rfl ⟨decide_eq_true h1, trivial⟩ ?_
      exact hex _ _ _ _ _ _ e
    · refine xw_y hd0 9 [0] rfl ⟨nt h1, trivial⟩ ?_
      obtain ⟨x2, A3, V4, c5, e6, e⟩ := bX_ok e
      refine xw_call (k := 173) (j := 3) rfl (fun F => xm_c_ok (y_c_ok rfl) F) rfl rfl rfl (sX9_replay (by omega) e6) ?_
      rintro _ _ ⟨rfl, rfl⟩
      rcases ite_ok e with ⟨h7, e⟩ | ⟨h7, e⟩
      · refine xw_y hd0 10 [0] rfl ⟨nnt h7, trivial⟩ ?_
        exact ih _ _ _ _ _ e
      · refine xw_y hd0 7 [1] rfl ⟨nt h7, trivial⟩ ?_
        exact ih _ _ _ _ _ e
set_option maxRecDepth 20000 in
set_option maxHeartbeats 4000000 in
theorem sX9_laws {LL : Nat} {xs : Nat → Int32} {tx : List xh_T} {d : Nat} {A V : xM} {cu : Value} {A' V' : xM} {c' : Value} {r : Int32} (hd : 66 ≤ d) (e : fX9_laws A V cu = some (r, A', V', c')) : xe (xk_ro LL xs) d 181 [.ref 132] (xh A V tx cu) (qI r (xh A' V' tx c')) := by
  obtain ⟨d, rfl⟩ : ∃ d1, d = d1 + 1 := ⟨d - 1, by omega⟩
  replace hd : 65 ≤ d := by omega
  have hd0 : 60 ≤ d := by omega
  refine xe_of (co := xk_181) (nl := 3) rfl rfl rfl ?_
  unfold fX9_laws at e
  refine xw_y hd0 4 [] rfl trivial ?_
  refine slX9_laws_L4 hd ?_ FU _ _ _ _ _ e
  · intro l1_8 z9 z10 A11 V12 c13 e
    cases e
    exact xw_yr hd0 3 [] rfl ⟨rfl, trivial⟩ ⟨rfl, rfl⟩
set_option maxRecDepth 20000 in
set_option maxHeartbeats 4000000 in
theorem sX9_mayBefore {LL : Nat} {xs : Nat → Int32} {tx : List xh_T} {d : Nat} {A V : xM} {cu : Value} {A' V' : xM} {c' : Value} {r : Int32} {l1 l2 l3 : Int32} (hd : 64 ≤ d) (e : fX9_mayBefore l1 l2 l3 A V cu = some (r, A', V', c')) : xe (xk_ro LL xs) d 182 [.ref 132, .int l1, .int l2, .int l3] (xh A V tx cu) (qI r (xh A' V' tx c')) := by
  obtain ⟨d, rfl⟩ : ∃ d1, d = d1 + 1 := ⟨d - 1, by omega⟩
  replace hd : 63 ≤ d := by omega
  have hd0 : 60 ≤ d := by omega
  refine xe_of (co := xk_182) (nl := 4) rfl rfl rfl ?_
  unfold fX9_mayBefore at e
  refine xw_y hd0 4 [] rfl trivial ?_
  obtain ⟨A2, V3, c4, e5, e⟩ := bS_ok e
  refine xw_call (k := 172) (j := 3) rfl (fun F => xm_c_ok (y_c_ok rfl) F) rfl rfl rfl (sX9_take_139 (by omega) e5) ?_
  rintro _ _ ⟨rfl, rfl⟩
  refine xw_y hd0 7 [] rfl trivial ?_
  obtain ⟨x6, A7, V8, c9, e10, e⟩ := bX_ok e
  refine xw_call (k := 168) (j := 6) rfl (fun F => xm_c_ok (y_c_ok rfl) F) rfl rfl rfl (sX9_may (by omega) e10) ?_
  rintro _ _ ⟨rfl, rfl⟩
  obtain ⟨h11, e⟩ := bC_ok e
  cases e
  exact xw_yr hd0 2 [] rfl ⟨h11, trivial⟩ ⟨rfl, rfl⟩
set_option maxRecDepth 20000 in
set_option maxHeartbeats 4000000 in
theorem slX9_feast_L25 {LL : Nat} {xs : Nat → Int32} {tx : List xh_T} {d : Nat} {A' V' : xM} {c' : Value} {r : Int32} {l1 : Int32} {l2 : Int32} {ex : Int32 → xM → xM → Value → Option (Int32 × xS)} (hd : 64 ≤ d) (hex : ∀ (y3 : Int32) (w0 w1 w2 w4 : Option Value) (A V : xM) (cu : Value), ex y3 A V cu = some (r, A', V', c') → xw (xk_ro LL xs) d xk_183 62 [w0, w1, w2, some (.int y3), w4] [] (xh A V tx cu) (qI r (xh A' V' tx c'))) : ∀ (n : Nat) (l3 : Int32) (l4 : Int32) (A V : xM) (cu : Value), fX9_feast_L25 l1 l2 ex n l3 l4 A V cu = some (r, A', V', c') → xw (xk_ro LL xs) d xk_183 25 [some (.ref 132), some (.int l1), some (.int l2), some (.int l3), some (.int l4)] [] (xh A V tx cu) (qI r (xh A' V' tx c')) := by
  have hd0 : 60 ≤ d := by omega
  intro n
  induction n with
  | zero =>
    intro l3 l4 A V cu e
    rw [fX9_feast_L25] at e
    cases e
  | succ n ih =>
    intro l3 l4 A V cu e
    rw [fX9_feast_L25] at e
    rcases ite_ok e with ⟨h1, e⟩ | ⟨h1, e⟩
    · refine xw_y hd0 4 [1] rfl ⟨decide_eq_true h1, trivial⟩ ?_
      exact hex _ _ _ _ _ _ _ _ e
    · refine xw_y hd0 9 [0] rfl ⟨nt h1, trivial⟩ ?_
      obtain ⟨x2, A3, V4, c5, e6, e⟩ := bX_ok e
      refine xw_call (k := 182) (j := 4) rfl (fun F => xm_c_ok (y_c_ok rfl) F) rfl rfl rfl (sX9_mayBefore (by omega) e6) ?_
      rintro _ _ ⟨rfl, rfl⟩
      rcases ite_ok e with ⟨h7, e⟩ | ⟨h7, e⟩
      · refine xw_y hd0 6 [1] rfl ⟨decide_eq_true h7, trivial⟩ ?_
        exact ih _ _ _ _ _ e
      · refine xw_y hd0 9 [0] rfl ⟨nt h7, trivial⟩ ?_
        exact ih _ _ _ _ _ e
set_option maxRecDepth 20000 in
set_option maxHeartbeats 4000000 in
theorem sX9_feast {LL : Nat} {xs : Nat → Int32} {tx : List xh_T} {d : Nat} {A V : xM} {cu : Value} {A' V' : xM} {c' : Value} {r : Int32} {l1 l2 : Int32} (hd : 65 ≤ d) (e : fX9_feast l1 l2 A V cu = some (r, A', V', c')) : xe (xk_ro LL xs) d 183 [.ref 132, .int l1, .int l2] (xh A V tx cu) (qI r (xh A' V' tx c')) := by
  obtain ⟨d, rfl⟩ : ∃ d1, d = d1 + 1 := ⟨d - 1, by omega⟩
  replace hd : 64 ≤ d := by omega
  have hd0 : 60 ≤ d := by omega
  refine xe_of (co := xk_183) (nl := 5) rfl rfl rfl ?_
  unfold fX9_feast at e
  rcases ite_ok e with ⟨h8, e⟩ | ⟨h8, e⟩
  · cases e
    exact xw_yr hd0 13 [1, 1] rfl ⟨decide_eq_true h8, rfl, rfl, rfl, trivial⟩ ⟨rfl, rfl⟩
  · rcases ite_ok e with ⟨h9, e⟩ | ⟨h9, e⟩
    · cases e
      exact xw_yr hd0 16 [0, 1, 1] rfl ⟨nt h8, decide_eq_true h9, rfl, rfl, rfl, trivial⟩ ⟨rfl, rfl⟩
    · rcases ite_ok e with ⟨h10, e⟩ | ⟨h10, e⟩
      · cases e
        exact xw_yr hd0 25 [0, 0, 0, 1, 0] rfl ⟨nt h8, nt h9, rfl, rfl, decide_eq_true h10, rfl, rfl, rfl, trivial⟩ ⟨rfl, rfl⟩
      · rcases ite_ok e with ⟨h11, e⟩ | ⟨h11, e⟩
        · cases e
          exact xw_yr hd0 31 [0, 0, 0, 0, 1, 0] rfl ⟨nt h8, nt h9, rfl, rfl, nt h10, decide_eq_true h11, rfl, rfl, rfl, trivial⟩ ⟨rfl, rfl⟩
        · refine xw_y hd0 33 [0, 0, 0, 0, 0, 1] rfl ⟨nt h8, nt h9, rfl, rfl, nt h10, nt h11, rfl, rfl, trivial⟩ ?_
          refine slX9_feast_L25 hd ?_ FU _ _ _ _ _ e
          · intro l3_12 z13 z14 z15 z16 A17 V18 c19 e
            cases e
            exact xw_yr hd0 3 [] rfl ⟨rfl, trivial⟩ ⟨rfl, rfl⟩
set_option maxRecDepth 20000 in
set_option maxHeartbeats 4000000 in
theorem slX9_leave_L46 {LL : Nat} {xs : Nat → Int32} {tx : List xh_T} {d : Nat} {A' V' : xM} {c' : Value} {r : Int32} {l1 : Int32} {l2 : Int32} {l3 : Int32} {l4 : Int32} {ex : xM → xM → Value → Option (Int32 × xS)} (hd : 64 ≤ d) (hex : ∀ (w5 : Option Value) (A V : xM) (cu : Value), ex  A V cu = some (r, A', V', c') → xw (xk_ro LL xs) d xk_184 95 [some (.ref 132), some (.int l1), some (.int l2), some (.int l3), some (.int l4), w5] [] (xh A V tx cu) (qI r (xh A' V' tx c'))) : ∀ (n : Nat) (l5 : Int32) (A V : xM) (cu : Value), fX9_leave_L46 l1 l2 l3 l4 ex n l5 A V cu = some (r, A', V', c') → xw (xk_ro LL xs) d xk_184 46 [some (.ref 132), some (.int l1), some (.int l2), some (.int l3), some (.int l4), some (.int l5)] [] (xh A V tx cu) (qI r (xh A' V' tx c')) := by
  have hd0 : 60 ≤ d := by omega
  intro n
  induction n with
  | zero =>
    intro l5 A V cu e
    rw [fX9_leave_L46] at e
    cases e
  | succ n ih =>
    intro l5 A V cu e
    rw [fX9_leave_L46] at e
    rcases ite_ok e with ⟨h1, e⟩ | ⟨h1, e⟩
    · refine xw_y hd0 3 [1] rfl ⟨decide_eq_true h1, trivial⟩ ?_
      exact hex _ _ _ _ e
    · rcases ite_ok e with ⟨h2, e⟩ | ⟨h2, e⟩
      · refine xw_y hd0 9 [0, 0] rfl ⟨nt h1, nnt h2, trivial⟩ ?_
        obtain ⟨x3, e4, e⟩ := bI_ok e
        refine xw_call (k := 167) (j := 1) rfl (fun F => xm_c_ok (y_c_ok rfl) F) rfl rfl rfl (sX9_size (by omega) e4) ?_
        rintro _ _ ⟨rfl, rfl⟩
        rcases ite_ok e with ⟨h5, e⟩ | ⟨h5, e⟩
        · refine xw_y hd0 10 [0] rfl ⟨nnt h5, trivial⟩ ?_
          obtain ⟨x6, A7, V8, c9, e10, e⟩ := bX_ok e
          refine xw_call (k := 182) (j := 4) rfl (fun F => xm_c_ok (y_c_ok rfl) F) rfl rfl rfl (sX9_mayBefore (by omega) e10) ?_
          rintro _ _ ⟨rfl, rfl⟩
          rcases ite_ok e with ⟨h11, e⟩ | ⟨h11, e⟩
          · refine xw_y hd0 3 [1] rfl ⟨decide_eq_true h11, trivial⟩ ?_
            exact ih _ _ _ _ e
          · cases e
            exact xw_yr hd0 4 [0] rfl ⟨nt h11, rfl, trivial⟩ ⟨rfl, rfl⟩
        · refine xw_y hd0 4 [1] rfl ⟨nt h5, trivial⟩ ?_
          exact ih _ _ _ _ e
      · refine xw_y hd0 10 [0, 1] rfl ⟨nt h1, nt h2, trivial⟩ ?_
        exact ih _ _ _ _ e
set_option maxRecDepth 20000 in
set_option maxHeartbeats 4000000 in
theorem slX9_leave_L34 {LL : Nat} {xs : Nat → Int32} {tx : List xh_T} {d : Nat} {A' V' : xM} {c' : Value} {r : Int32} {l1 : Int32} {l2 : Int32} {l3 : Int32} {ex : xM → xM → Value → Option (Int32 × xS)} (hd : 64 ≤ d) (hex : ∀ (w0 w1 w2 w3 w4 w5 : Option Value) (A V : xM) (cu : Value), ex  A V cu = some (r, A', V', c') → xw (xk_ro LL xs) d xk_184 101 [w0, w1, w2, w3, w4, w5] [] (xh A V tx cu) (qI r (xh A' V' tx c'))) : ∀ (n : Nat) (l4 : Int32) (z5 : Option Value) (A V : xM) (cu : Value), fX9_leave_L34 l1 l2 l3 ex n l4 A V cu = some (r, A', V', c') → xw (xk_ro LL xs) d xk_184 34 [some (.ref 132), some (.int l1), some (.int l2), some (.int l3), some (.int l4), z5] [] (xh A V tx cu) (qI r (xh A' V' tx c')) := by
  have hd0 : 60 ≤ d := by omega
  intro n
  induction n with
  | zero =>
    intro l4 z5 A V cu e
    rw [fX9_leave_L34] at e
    cases e
  | succ n ih =>
    intro l4 z5 A V cu e
    rw [fX9_leave_L34] at e
    refine xw_y hd0 2 [] rfl trivial ?_
    obtain ⟨x12, e13, e⟩ := bI_ok e
    refine xw_call (k := 167) (j := 1) rfl (fun F => xm_c_ok (y_c_ok rfl) F) rfl rfl rfl (sX9_size (by omega) e13) ?_
    rintro _ _ ⟨rfl, rfl⟩
    rcases ite_ok e with ⟨h14, e⟩ | ⟨h14, e⟩
    · refine xw_y hd0 1 [1] rfl ⟨decide_eq_true h14, trivial⟩ ?_
      exact hex _ _ _ _ _ _ _ _ _ e
    · refine xw_y hd0 3 [0] rfl ⟨nt h14, trivial⟩ ?_
      refine slX9_leave_L46 hd ?_ FU _ _ _ _ e
      · intro z15 A16 V17 c18 e
        refine xw_y hd0 2 [] rfl trivial ?_
        exact ih _ _ _ _ _ e
set_option maxRecDepth 20000 in
set_option maxHeartbeats 4000000 in
theorem sX9_leave {LL : Nat} {xs : Nat → Int32} {tx : List xh_T} {d : Nat} {A V : xM} {cu : Value} {A' V' : xM} {c' : Value} {r : Int32} {l1 l2 l3 : Int32} (hd : 65 ≤ d) (e : fX9_leave l1 l2 l3 A V cu = some (r, A', V', c')) : xe (xk_ro LL xs) d 184 [.ref 132, .int l1, .int l2, .int l3] (xh A V tx cu) (qI r (xh A' V' tx c')) := by
  obtain ⟨d, rfl⟩ : ∃ d1, d = d1 + 1 := ⟨d - 1, by omega⟩
  replace hd : 64 ≤ d := by omega
  have hd0 : 60 ≤ d := by omega
  refine xe_of (co := xk_184) (nl := 6) rfl rfl rfl ?_
  unfold fX9_leave at e
  rcases ite_ok e with ⟨h19, e⟩ | ⟨h19, e⟩
  · cases e
    exact xw_yr hd0 20 [1, 0] rfl ⟨decide_eq_true h19, rfl, rfl, rfl, rfl, trivial⟩ ⟨rfl, rfl⟩
  · rcases ite_ok e with ⟨h20, e⟩ | ⟨h20, e⟩
    · cases e
      exact xw_yr hd0 23 [0, 1, 0] rfl ⟨nt h19, decide_eq_true h20, rfl, rfl, rfl, rfl, trivial⟩ ⟨rfl, rfl⟩
    · rcases ite_ok e with ⟨h21, e⟩ | ⟨h21, e⟩
      · cases e
        exact xw_yr hd0 34 [0, 0, 1, 1, 1] rfl ⟨nt h19, nt h20, rfl, rfl, rfl, decide_eq_true h21, rfl, rfl, rfl, trivial⟩ ⟨rfl, rfl⟩
      · rcases ite_ok e with ⟨h22, e⟩ | ⟨h22, e⟩
        · cases e
          exact xw_yr hd0 37 [0, 0, 1, 0, 1, 1] rfl ⟨nt h19, nt h20, rfl, rfl, rfl, nt h21, decide_eq_true h22, rfl, rfl, rfl, trivial⟩ ⟨rfl, rfl⟩
        · rcases ite_ok e with ⟨h23, e⟩ | ⟨h23, e⟩
          · cases e
            exact xw_yr hd0 46 [0, 0, 1, 0, 0, 0, 1, 0] rfl ⟨nt h19, nt h20, rfl, rfl, rfl, nt h21, nt h22, rfl, rfl, decide_eq_true h23, rfl, rfl, rfl, trivial⟩ ⟨rfl, rfl⟩
          · rcases ite_ok e with ⟨h24, e⟩ | ⟨h24, e⟩
            · cases e
              exact xw_yr hd0 52 [0, 0, 1, 0, 0, 0, 0, 1, 0] rfl ⟨nt h19, nt h20, rfl, rfl, rfl, nt h21, nt h22, rfl, rfl, nt h23, decide_eq_true h24, rfl, rfl, rfl, trivial⟩ ⟨rfl, rfl⟩
            · refine xw_y hd0 52 [0, 0, 1, 0, 0, 0, 0, 0, 1] rfl ⟨nt h19, nt h20, rfl, rfl, rfl, nt h21, nt h22, rfl, rfl, nt h23, nt h24, rfl, rfl, trivial⟩ ?_
              refine slX9_leave_L34 hd ?_ FU _ _ _ _ _ e
              · intro z25 z26 z27 z28 z29 z30 A31 V32 c33 e
                cases e
                exact xw_yr hd0 3 [] rfl ⟨rfl, trivial⟩ ⟨rfl, rfl⟩
set_option maxRecDepth 20000 in
set_option maxHeartbeats 4000000 in
theorem slX9_bars_L49 {LL : Nat} {xs : Nat → Int32} {tx : List xh_T} {d : Nat} {A' V' : xM} {c' : Value} {r : Int32} {l1 : Int32} {l2 : Int32} {l3 : Int32} {ex : Int32 → xM → xM → Value → Option (Int32 × xS)} (hd : 64 ≤ d) (hex : ∀ (y4 : Int32) (w0 w1 w2 w3 w5 w6 : Option Value) (A V : xM) (cu : Value), ex y4 A V cu = some (r, A', V', c') → xw (xk_ro LL xs) d xk_185 116 [w0, w1, w2, w3, some (.int y4), w5, w6] [] (xh A V tx cu) (qI r (xh A' V' tx c'))) : ∀ (n : Nat) (l4 : Int32) (l5 : Int32) (z6 : Option Value) (A V : xM) (cu : Value), fX9_bars_L49 l1 l2 l3 ex n l4 l5 A V cu = some (r, A', V', c') → xw (xk_ro LL xs) d xk_185 49 [some (.ref 132), some (.int l1), some (.int l2), some (.int l3), some (.int l4), some (.int l5), z6] [] (xh A V tx cu) (qI r (xh A' V' tx c')) := by
  have hd0 : 60 ≤ d := by omega
  intro n
  induction n with
  | zero =>
    intro l4 l5 z6 A V cu e
    rw [fX9_bars_L49] at e
    cases e
  | succ n ih =>
    intro l4 l5 z6 A V cu e
    rw [fX9_bars_L49] at e
    rcases ite_ok e with ⟨h1, e⟩ | ⟨h1, e⟩
    · refine xw_y hd0 4 [1] rfl ⟨decide_eq_true h1, trivial⟩ ?_
      exact hex _ _ _ _ _ _ _ _ _ _ e
    · rcases ite_ok e with ⟨h2, e⟩ | ⟨h2, e⟩
      · refine xw_y hd0 21 [0, 0] rfl ⟨nt h1, nnt h2, trivial⟩ ?_
        obtain ⟨x3, A4, V5, c6, e7, e⟩ := bX_ok e
        refine xw_call (k := 182) (j := 4) rfl (fun F => xm_c_ok (y_c_ok rfl) F) rfl rfl rfl (sX9_mayBefore (by omega) e7) ?_
        rintro _ _ ⟨rfl, rfl⟩
        rcases ite_ok e with ⟨h8, e⟩ | ⟨h8, e⟩
        · refine xw_y hd0 11 [1, 1] rfl ⟨decide_eq_true h8, rfl, trivial⟩ ?_
          exact ih _ _ _ _ _ _ e
        · refine xw_y hd0 15 [0, 0] rfl ⟨nt h8, rfl, trivial⟩ ?_
          exact ih _ _ _ _ _ _ e
      · refine xw_y hd0 21 [0, 1, 1] rfl ⟨nt h1, nt h2, rfl, trivial⟩ ?_
        exact ih _ _ _ _ _ _ e
set_option maxRecDepth 20000 in
set_option maxHeartbeats 4000000 in
theorem sX9_bars {LL : Nat} {xs : Nat → Int32} {tx : List xh_T} {d : Nat} {A V : xM} {cu : Value} {A' V' : xM} {c' : Value} {r : Int32} {l1 l2 l3 : Int32} (hd : 65 ≤ d) (e : fX9_bars l1 l2 l3 A V cu = some (r, A', V', c')) : xe (xk_ro LL xs) d 185 [.ref 132, .int l1, .int l2, .int l3] (xh A V tx cu) (qI r (xh A' V' tx c')) := by
  obtain ⟨d, rfl⟩ : ∃ d1, d = d1 + 1 := ⟨d - 1, by omega⟩
  replace hd : 64 ≤ d := by omega
  have hd0 : 60 ≤ d := by omega
  refine xe_of (co := xk_185) (nl := 7) rfl rfl rfl ?_
  unfold fX9_bars at e
  rcases ite_ok e with ⟨h9, e⟩ | ⟨h9, e⟩
  · cases e
    exact xw_yr hd0 20 [1, 0] rfl ⟨decide_eq_true h9, rfl, rfl, rfl, rfl, trivial⟩ ⟨rfl, rfl⟩
  · rcases ite_ok e with ⟨h10, e⟩ | ⟨h10, e⟩
    · cases e
      exact xw_yr hd0 23 [0, 1, 0] rfl ⟨nt h9, decide_eq_true h10, rfl, rfl, rfl, rfl, trivial⟩ ⟨rfl, rfl⟩
    · rcases ite_ok e with ⟨h11, e⟩ | ⟨h11, e⟩
      · cases e
        exact xw_yr hd0 34 [0, 0, 1, 1, 1] rfl ⟨nt h9, nt h10, rfl, rfl, rfl, decide_eq_true h11, rfl, rfl, rfl, trivial⟩ ⟨rfl, rfl⟩
      · rcases ite_ok e with ⟨h12, e⟩ | ⟨h12, e⟩
        · cases e
          exact xw_yr hd0 37 [0, 0, 1, 0, 1, 1] rfl ⟨nt h9, nt h10, rfl, rfl, rfl, nt h11, decide_eq_true h12, rfl, rfl, rfl, trivial⟩ ⟨rfl, rfl⟩
        · rcases ite_ok e with ⟨h13, e⟩ | ⟨h13, e⟩
          · cases e
            exact xw_yr hd0 46 [0, 0, 1, 0, 0, 0, 1, 0] rfl ⟨nt h9, nt h10, rfl, rfl, rfl, nt h11, nt h12, rfl, rfl, decide_eq_true h13, rfl, rfl, rfl, trivial⟩ ⟨rfl, rfl⟩
          · rcases ite_ok e with ⟨h14, e⟩ | ⟨h14, e⟩
            · cases e
              exact xw_yr hd0 52 [0, 0, 1, 0, 0, 0, 0, 1, 0] rfl ⟨nt h9, nt h10, rfl, rfl, rfl, nt h11, nt h12, rfl, rfl, nt h13, decide_eq_true h14, rfl, rfl, rfl, trivial⟩ ⟨rfl, rfl⟩
            · refine xw_y hd0 54 [0, 0, 1, 0, 0, 0, 0, 0, 1] rfl ⟨nt h9, nt h10, rfl, rfl, rfl, nt h11, nt h12, rfl, rfl, nt h13, nt h14, rfl, rfl, trivial⟩ ?_
              obtain ⟨x15, A16, V17, c18, e19, e⟩ := bX_ok e
              refine xw_call (k := 182) (j := 4) rfl (fun F => xm_c_ok (y_c_ok rfl) F) rfl rfl rfl (sX9_mayBefore (by omega) e19) ?_
              rintro _ _ ⟨rfl, rfl⟩
              rcases ite_ok e with ⟨h20, e⟩ | ⟨h20, e⟩
              · refine xw_y hd0 5 [1] rfl ⟨decide_eq_true h20, trivial⟩ ?_
                refine slX9_bars_L49 hd ?_ FU _ _ _ _ _ _ e
                · intro l4_21 z22 z23 z24 z25 z26 z27 A28 V29 c30 e
                  cases e
                  exact xw_yr hd0 3 [] rfl ⟨rfl, trivial⟩ ⟨rfl, rfl⟩
              · cases e
                exact xw_yr hd0 4 [0] rfl ⟨nt h20, rfl, trivial⟩ ⟨rfl, rfl⟩
set_option maxRecDepth 20000 in
set_option maxHeartbeats 4000000 in
theorem slX9_ends_L43 {LL : Nat} {xs : Nat → Int32} {tx : List xh_T} {d : Nat} {A' V' : xM} {c' : Value} {r : Int32} {l1 : Int32} {l2 : Int32} {l3 : Int32} {l4 : Int32} {ex : Int32 → xM → xM → Value → Option (Int32 × xS)} (hd : 64 ≤ d) (hex : ∀ (y5 : Int32) (w6 : Option Value) (A V : xM) (cu : Value), ex y5 A V cu = some (r, A', V', c') → xw (xk_ro LL xs) d xk_186 108 [some (.ref 132), some (.int l1), some (.int l2), some (.int l3), some (.int l4), some (.int y5), w6] [] (xh A V tx cu) (qI r (xh A' V' tx c'))) : ∀ (n : Nat) (l5 : Int32) (l6 : Int32) (A V : xM) (cu : Value), fX9_ends_L43 l1 l2 l3 l4 ex n l5 l6 A V cu = some (r, A', V', c') → xw (xk_ro LL xs) d xk_186 43 [some (.ref 132), some (.int l1), some (.int l2), some (.int l3), some (.int l4), some (.int l5), some (.int l6)] [] (xh A V tx cu) (qI r (xh A' V' tx c')) := by
  have hd0 : 60 ≤ d := by omega
  intro n
  induction n with
  | zero =>
    intro l5 l6 A V cu e
    rw [fX9_ends_L43] at e
    cases e
  | succ n ih =>
    intro l5 l6 A V cu e
    rw [fX9_ends_L43] at e
    rcases ite_ok e with ⟨h1, e⟩ | ⟨h1, e⟩
    · refine xw_y hd0 6 [1] rfl ⟨decide_eq_true h1, trivial⟩ ?_
      exact hex _ _ _ _ _ e
    · rcases ite_ok e with ⟨h2, e⟩ | ⟨h2, e⟩
      · rcases ite_ok e with ⟨h3, e⟩ | ⟨h3, e⟩
        · refine xw_y hd0 16 [0, 0, 0] rfl ⟨nt h1, nnt h2, nnt h3, trivial⟩ ?_
          obtain ⟨x4, e5, e⟩ := bI_ok e
          refine xw_call (k := 167) (j := 1) rfl (fun F => xm_c_ok (y_c_ok rfl) F) rfl rfl rfl (sX9_size (by omega) e5) ?_
          rintro _ _ ⟨rfl, rfl⟩
          obtain ⟨h6, e⟩ := bC_ok e
          rcases ite_ok e with ⟨h7, e⟩ | ⟨h7, e⟩
          · refine xw_y hd0 9 [1] rfl ⟨h6, decide_eq_true h7, trivial⟩ ?_
            exact ih _ _ _ _ _ e
          · refine xw_y hd0 9 [0] rfl ⟨h6, nt h7, trivial⟩ ?_
            obtain ⟨x8, A9, V10, c11, e12, e⟩ := bX_ok e
            refine xw_call (k := 182) (j := 4) rfl (fun F => xm_c_ok (y_c_ok rfl) F) rfl rfl rfl (sX9_mayBefore (by omega) e12) ?_
            rintro _ _ ⟨rfl, rfl⟩
            rcases ite_ok e with ⟨h13, e⟩ | ⟨h13, e⟩
            · refine xw_y hd0 5 [1] rfl ⟨decide_eq_true h13, trivial⟩ ?_
              exact ih _ _ _ _ _ e
            · refine xw_y hd0 6 [0] rfl ⟨nt h13, trivial⟩ ?_
              exact ih _ _ _ _ _ e
        · refine xw_y hd0 19 [0, 0, 1] rfl ⟨nt h1, nnt h2, nt h3, trivial⟩ ?_
          exact ih _ _ _ _ _ e
      · refine xw_y hd0 8 [0, 1] rfl ⟨nt h1, nt h2, trivial⟩ ?_
        exact hex _ _ _ _ _ e
set_option maxRecDepth 20000 in
set_option maxHeartbeats 4000000 in
theorem slX9_ends_L28 {LL : Nat} {xs : Nat → Int32} {tx : List xh_T} {d : Nat} {A' V' : xM} {c' : Value} {r : Int32} {l1 : Int32} {l2 : Int32} {ex : Int32 → xM → xM → Value → Option (Int32 × xS)} (hd : 64 ≤ d) (hex : ∀ (y3 : Int32) (w0 w1 w2 w4 w5 w6 : Option Value) (A V : xM) (cu : Value), ex y3 A V cu = some (r, A', V', c') → xw (xk_ro LL xs) d xk_186 130 [w0, w1, w2, some (.int y3), w4, w5, w6] [] (xh A V tx cu) (qI r (xh A' V' tx c'))) : ∀ (n : Nat) (l3 : Int32) (l4 : Int32) (z5 z6 : Option Value) (A V : xM) (cu : Value), fX9_ends_L28 l1 l2 ex n l3 l4 A V cu = some (r, A', V', c') → xw (xk_ro LL xs) d xk_186 28 [some (.ref 132), some (.int l1), some (.int l2), some (.int l3), some (.int l4), z5, z6] [] (xh A V tx cu) (qI r (xh A' V' tx c')) := by
  have hd0 : 60 ≤ d := by omega
  intro n
  induction n with
  | zero =>
    intro l3 l4 z5 z6 A V cu e
    rw [fX9_ends_L28] at e
    cases e
  | succ n ih =>
    intro l3 l4 z5 z6 A V cu e
    rw [fX9_ends_L28] at e
    rcases ite_ok e with ⟨h14, e⟩ | ⟨h14, e⟩
    · refine xw_y hd0 4 [1] rfl ⟨decide_eq_true h14, trivial⟩ ?_
      exact hex _ _ _ _ _ _ _ _ _ _ e
    · refine xw_y hd0 8 [0] rfl ⟨nt h14, trivial⟩ ?_
      refine slX9_ends_L43 hd ?_ FU _ _ _ _ _ e
      · intro l5_15 z16 A17 V18 c19 e
        rcases ite_ok e with ⟨h20, e⟩ | ⟨h20, e⟩
        · refine xw_y hd0 10 [1] rfl ⟨decide_eq_true h20, trivial⟩ ?_
          exact ih _ _ _ _ _ _ _ e
        · refine xw_y hd0 9 [0] rfl ⟨nt h20, trivial⟩ ?_
          exact ih _ _ _ _ _ _ _ e
set_option maxRecDepth 20000 in
set_option maxHeartbeats 4000000 in
theorem sX9_ends {LL : Nat} {xs : Nat → Int32} {tx : List xh_T} {d : Nat} {A V : xM} {cu : Value} {A' V' : xM} {c' : Value} {r : Int32} {l1 l2 : Int32} (hd : 65 ≤ d) (e : fX9_ends l1 l2 A V cu = some (r, A', V', c')) : xe (xk_ro LL xs) d 186 [.ref 132, .int l1, .int l2] (xh A V tx cu) (qI r (xh A' V' tx c')) := by
  obtain ⟨d, rfl⟩ : ∃ d1, d = d1 + 1 := ⟨d - 1, by omega⟩
  replace hd : 64 ≤ d := by omega
  have hd0 : 60 ≤ d := by omega
  refine xe_of (co := xk_186) (nl := 7) rfl rfl rfl ?_
  unfold fX9_ends at e
  rcases ite_ok e with ⟨h21, e⟩ | ⟨h21, e⟩
  · cases e
    exact xw_yr hd0 20 [1, 0] rfl ⟨decide_eq_true h21, rfl, rfl, rfl, rfl, trivial⟩ ⟨rfl, rfl⟩
  · rcases ite_ok e with ⟨h22, e⟩ | ⟨h22, e⟩
    · cases e
      exact xw_yr hd0 23 [0, 1, 0] rfl ⟨nt h21, decide_eq_true h22, rfl, rfl, rfl, rfl, trivial⟩ ⟨rfl, rfl⟩
    · rcases ite_ok e with ⟨h23, e⟩ | ⟨h23, e⟩
      · cases e
        exact xw_yr hd0 34 [0, 0, 1, 1, 0] rfl ⟨nt h21, nt h22, rfl, rfl, rfl, decide_eq_true h23, rfl, rfl, rfl, trivial⟩ ⟨rfl, rfl⟩
      · rcases ite_ok e with ⟨h24, e⟩ | ⟨h24, e⟩
        · cases e
          exact xw_yr hd0 37 [0, 0, 1, 0, 1, 0] rfl ⟨nt h21, nt h22, rfl, rfl, rfl, nt h23, decide_eq_true h24, rfl, rfl, rfl, trivial⟩ ⟨rfl, rfl⟩
        · refine xw_y hd0 39 [0, 0, 1, 0, 0, 1] rfl ⟨nt h21, nt h22, rfl, rfl, rfl, nt h23, nt h24, rfl, rfl, trivial⟩ ?_
          refine slX9_ends_L28 hd ?_ FU _ _ _ _ _ _ _ e
          · intro l3_25 z26 z27 z28 z29 z30 z31 A32 V33 c34 e
            cases e
            exact xw_yr hd0 3 [] rfl ⟨rfl, trivial⟩ ⟨rfl, rfl⟩
set_option maxRecDepth 20000 in
set_option maxHeartbeats 4000000 in
theorem slX9_state_L4 {LL : Nat} {xs : Nat → Int32} {tx : List xh_T} {d : Nat}{A V : xM} {cu : Value} {r : Int32} {ex : Int32 → Option (Int32)} (hd : 60 ≤ d) (hex : ∀ (y1 : Int32) (w0 w2 : Option Value), ex y1 = some r → xw (xk_ro LL xs) d xk_187 31 [w0, some (.int y1), w2] [] (xh A V tx cu) (qI r (xh A V tx cu))) : ∀ (n : Nat) (l1 : Int32) (l2 : Int32), fX9_state_L4 A V ex n l1 l2 = some r → xw (xk_ro LL xs) d xk_187 4 [some (.ref 132), some (.int l1), some (.int l2)] [] (xh A V tx cu) (qI r (xh A V tx cu)) := by
  have hd0 : 60 ≤ d := by omega
  intro n
  induction n with
  | zero =>
    intro l1 l2 e
    rw [fX9_state_L4] at e
    cases e
  | succ n ih =>
    intro l1 l2 e
    rw [fX9_state_L4] at e
    rcases ite_ok e with ⟨h1, e⟩ | ⟨h1, e⟩
    · refine xw_y hd0 4 [1] rfl ⟨decide_eq_true h1, trivial⟩ ?_
      exact hex _ _ _ e
    · obtain ⟨h2, e⟩ := bC_ok e
      refine xw_y hd0 17 [0] rfl ⟨nt h1, h2, trivial⟩ ?_
      exact ih _ _ e
set_option maxRecDepth 20000 in
set_option maxHeartbeats 4000000 in
theorem sX9_state {LL : Nat} {xs : Nat → Int32} {tx : List xh_T} {d : Nat} {A V : xM} {cu : Value} {r : Int32} (hd : 61 ≤ d) (e : fX9_state A V = some r) : xe (xk_ro LL xs) d 187 [.ref 132] (xh A V tx cu) (qI r (xh A V tx cu)) := by
  obtain ⟨d, rfl⟩ : ∃ d1, d = d1 + 1 := ⟨d - 1, by omega⟩
  replace hd : 60 ≤ d := by omega
  have hd0 : 60 ≤ d := by omega
  refine xe_of (co := xk_187) (nl := 3) rfl rfl rfl ?_
  unfold fX9_state at e
  refine xw_y hd0 4 [] rfl trivial ?_
  refine slX9_state_L4 hd ?_ FU _ _ e
  · intro l1_3 z4 z5 e
    cases e
    exact xw_yr hd0 3 [] rfl ⟨rfl, trivial⟩ ⟨rfl, rfl⟩
set_option maxRecDepth 20000 in
set_option maxHeartbeats 4000000 in
theorem slX9_take__L2 {LL : Nat} {xs : Nat → Int32} {tx : List xh_T} {d : Nat} {A' V' : xM} {c' : Value} {l1 : Int32} {ex : xM → xM → Value → Option (xS)} (hd : 60 ≤ d) (hex : ∀ (w0 w1 w2 : Option Value) (A V : xM) (cu : Value), ex  A V cu = some (A', V', c') → xw (xk_ro LL xs) d xk_188 29 [w0, w1, w2] [] (xh A V tx cu) (qU (xh A' V' tx c'))) : ∀ (n : Nat) (l2 : Int32) (A V : xM) (cu : Value), fX9_take__L2 l1 ex n l2 A V cu = some (A', V', c') → xw (xk_ro LL xs) d xk_188 2 [some (.ref 132), some (.int l1), some (.int l2)] [] (xh A V tx cu) (qU (xh A' V' tx c')) := by
  have hd0 : 60 ≤ d := by omega
  intro n
  induction n with
  | zero =>
    intro l2 A V cu e
    rw [fX9_take__L2] at e
    cases e
  | succ n ih =>
    intro l2 A V cu e
    rw [fX9_take__L2] at e
    rcases ite_ok e with ⟨h1, e⟩ | ⟨h1, e⟩
    · refine xw_y hd0 4 [1] rfl ⟨decide_eq_true h1, trivial⟩ ?_
      exact hex _ _ _ _ _ _ e
    · obtain ⟨h2, e⟩ := bC_ok e
      refine xw_y hd0 17 [0] rfl ⟨nt h1, h2, trivial⟩ ?_
      exact ih _ _ _ _ e
set_option maxRecDepth 20000 in
set_option maxHeartbeats 4000000 in
theorem sX9_take_ {LL : Nat} {xs : Nat → Int32} {tx : List xh_T} {d : Nat} {A V : xM} {cu : Value} {A' V' : xM} {c' : Value} {l1 : Int32} (hd : 61 ≤ d) (e : fX9_take_ l1 A V cu = some (A', V', c')) : xe (xk_ro LL xs) d 188 [.ref 132, .int l1] (xh A V tx cu) (qU (xh A' V' tx c')) := by
  obtain ⟨d, rfl⟩ : ∃ d1, d = d1 + 1 := ⟨d - 1, by omega⟩
  replace hd : 60 ≤ d := by omega
  have hd0 : 60 ≤ d := by omega
  refine xe_of (co := xk_188) (nl := 3) rfl rfl rfl ?_
  unfold fX9_take_ at e
  refine xw_y hd0 2 [] rfl trivial ?_
  refine slX9_take__L2 hd ?_ FU _ _ _ _ e
  · intro z3 z4 z5 A6 V7 c8 e
    cases e
    exact xw_yr hd0 2 [] rfl trivial ⟨rfl, rfl⟩
set_option maxRecDepth 20000 in
set_option maxHeartbeats 4000000 in
theorem sX9_much {LL : Nat} {xs : Nat → Int32} {tx : List xh_T} {d : Nat} {A V : xM} {cu : Value} {r : Int32} {l0 l1 : Int32} (hd : 61 ≤ d) (e : fX9_much l0 l1 A V = some r) : xe (xk_ro LL xs) d 189 [.int l0, .int l1] (xh A V tx cu) (qI r (xh A V tx cu)) := by
  obtain ⟨d, rfl⟩ : ∃ d1, d = d1 + 1 := ⟨d - 1, by omega⟩
  replace hd : 60 ≤ d := by omega
  have hd0 : 60 ≤ d := by omega
  refine xe_of (co := xk_189) (nl := 3) rfl rfl rfl ?_
  unfold fX9_much at e
  rcases ite_ok e with ⟨h1, e⟩ | ⟨h1, e⟩
  · cases e
    exact xw_yr hd0 14 [1] rfl ⟨decide_eq_true h1, rfl, trivial⟩ ⟨rfl, rfl⟩
  · cases e
    exact xw_yr hd0 15 [0] rfl ⟨nt h1, rfl, trivial⟩ ⟨rfl, rfl⟩
set_option maxRecDepth 20000 in
set_option maxHeartbeats 4000000 in
theorem slX9_isDone_L6 {LL : Nat} {xs : Nat → Int32} {tx : List xh_T} {d : Nat}{A V : xM} {cu : Value} {r : Int32} {l1 : Int32} {l2 : Int32} {l3 : Int32} {l4 : Int32} {ex : Int32 → Option (Int32)} (hd : 61 ≤ d) (hex : ∀ (y5 : Int32) (w0 w1 w2 w3 w4 w6 : Option Value), ex y5 = some r → xw (xk_ro LL xs) d xk_190 77 [w0, w1, w2, w3, w4, some (.int y5), w6] [] (xh A V tx cu) (qI r (xh A V tx cu))) : ∀ (n : Nat) (l5 : Int32) (l6 : Int32), fX9_isDone_L6 l1 l2 l3 l4 A V ex n l5 l6 = some r → xw (xk_ro LL xs) d xk_190 6 [some (.ref 132), some (.int l1), some (.int l2), some (.int l3), some (.int l4), some (.int l5), some (.int l6)] [] (xh A V tx cu) (qI r (xh A V tx cu)) := by
  have hd0 : 60 ≤ d := by omega
  intro n
  induction n with
  | zero =>
    intro l5 l6 e
    rw [fX9_isDone_L6] at e
    cases e
  | succ n ih =>
    intro l5 l6 e
    rw [fX9_isDone_L6] at e
    rcases ite_ok e with ⟨h1, e⟩ | ⟨h1, e⟩
    · refine xw_y hd0 4 [1] rfl ⟨decide_eq_true h1, trivial⟩ ?_
      exact hex _ _ _ _ _ _ _ e
    · rcases ite_ok e with ⟨h2, e⟩ | ⟨h2, e⟩
      · refine xw_y hd0 10 [0, 1] rfl ⟨nt h1, decide_eq_true h2, trivial⟩ ?_
        exact ih _ _ e
      · rcases ite_ok e with ⟨h3, e⟩ | ⟨h3, e⟩
        · rcases ite_ok e with ⟨h4, e⟩ | ⟨h4, e⟩
          · refine xw_y hd0 23 [0, 0, 1, 1] rfl ⟨nt h1, nt h2, decide_eq_true h3, decide_eq_true h4, trivial⟩ ?_
            exact ih _ _ e
          · refine xw_y hd0 20 [0, 0, 1, 0] rfl ⟨nt h1, nt h2, decide_eq_true h3, nt h4, trivial⟩ ?_
            obtain ⟨x5, e6, e⟩ := bI_ok e
            refine xw_call (k := 189) (j := 2) rfl (fun F => xm_c_ok (y_c_ok rfl) F) rfl rfl rfl (sX9_much (by omega) e6) ?_
            rintro _ _ ⟨rfl, rfl⟩
            refine xw_y hd0 2 [] rfl trivial ?_
            obtain ⟨x7, e8, e⟩ := bI_ok e
            refine xw_call (k := 189) (j := 2) rfl (fun F => xm_c_ok (y_c_ok rfl) F) rfl rfl rfl (sX9_much (by omega) e8) ?_
            rintro _ _ ⟨rfl, rfl⟩
            rcases ite_ok e with ⟨h9, e⟩ | ⟨h9, e⟩
            · refine xw_y hd0 6 [0] rfl ⟨nnt h9, trivial⟩ ?_
              exact ih _ _ e
            · refine xw_y hd0 5 [1] rfl ⟨nt h9, trivial⟩ ?_
              exact ih _ _ e
        · refine xw_y hd0 14 [0, 0, 0] rfl ⟨nt h1, nt h2, nt h3, trivial⟩ ?_
          obtain ⟨x10, e11, e⟩ := bI_ok e
          refine xw_call (k := 189) (j := 2) rfl (fun F => xm_c_ok (y_c_ok rfl) F) rfl rfl rfl (sX9_much (by omega) e11) ?_
          rintro _ _ ⟨rfl, rfl⟩
          rcases ite_ok e with ⟨h12, e⟩ | ⟨h12, e⟩
          · rcases ite_ok e with ⟨h13, e⟩ | ⟨h13, e⟩
            · refine xw_y hd0 13 [0, 1] rfl ⟨nnt h12, decide_eq_true h13, trivial⟩ ?_
              exact ih _ _ e
            · refine xw_y hd0 10 [0, 0] rfl ⟨nnt h12, nt h13, trivial⟩ ?_
              obtain ⟨x14, e15, e⟩ := bI_ok e
              refine xw_call (k := 189) (j := 2) rfl (fun F => xm_c_ok (y_c_ok rfl) F) rfl rfl rfl (sX9_much (by omega) e15) ?_
              rintro _ _ ⟨rfl, rfl⟩
              refine xw_y hd0 2 [] rfl trivial ?_
              obtain ⟨x16, e17, e⟩ := bI_ok e
              refine xw_call (k := 189) (j := 2) rfl (fun F => xm_c_ok (y_c_ok rfl) F) rfl rfl rfl (sX9_much (by omega) e17) ?_
              rintro _ _ ⟨rfl, rfl⟩
              rcases ite_ok e with ⟨h18, e⟩ | ⟨h18, e⟩
              · refine xw_y hd0 6 [0] rfl ⟨nnt h18, trivial⟩ ?_
                exact ih _ _ e
              · refine xw_y hd0 5 [1] rfl ⟨nt h18, trivial⟩ ?_
                exact ih _ _ e
          · refine xw_y hd0 6 [1] rfl ⟨nt h12, trivial⟩ ?_
            exact ih _ _ e
set_option maxRecDepth 20000 in
set_option maxHeartbeats 4000000 in
theorem sX9_isDone {LL : Nat} {xs : Nat → Int32} {tx : List xh_T} {d : Nat} {A V : xM} {cu : Value} {r : Int32} {l1 l2 l3 l4 : Int32} (hd : 62 ≤ d) (e : fX9_isDone l1 l2 l3 l4 A V = some r) : xe (xk_ro LL xs) d 190 [.ref 132, .int l1, .int l2, .int l3, .int l4] (xh A V tx cu) (qI r (xh A V tx cu)) := by
  obtain ⟨d, rfl⟩ : ∃ d1, d = d1 + 1 := ⟨d - 1, by omega⟩
  replace hd : 61 ≤ d := by omega
  have hd0 : 60 ≤ d := by omega
  refine xe_of (co := xk_190) (nl := 7) rfl rfl rfl ?_
  unfold fX9_isDone at e
  refine xw_y hd0 4 [] rfl trivial ?_
  refine slX9_isDone_L6 hd ?_ FU _ _ e
  · intro l5_19 z20 z21 z22 z23 z24 z25 e
    obtain ⟨h26, e⟩ := bC_ok e
    cases e
    exact xw_yr hd0 3 [] rfl ⟨h26, trivial⟩ ⟨rfl, rfl⟩
set_option maxRecDepth 20000 in
set_option maxHeartbeats 4000000 in
theorem slX9_plan_L29 {LL : Nat} {xs : Nat → Int32} {tx : List xh_T} {d : Nat} {A' V' : xM} {c' : Value} {l1 : Int32} {l2 : Int32} {l3 : Int32} {l4 : Int32} {l5 : Int32} {l6 : Int32} {l7 : Int32} {ex : xM → xM → Value → Option (xS)} (hd : 64 ≤ d) (hex : ∀ (w8 w9 w10 w11 w12 w13 w14 w15 : Option Value) (A V : xM) (cu : Value), ex  A V cu = some (A', V', c') → xw (xk_ro LL xs) d xk_191 51 [some (.ref 132), some (.int l1), some (.int l2), some (.int l3), some (.int l4), some (.int l5), some (.int l6), some (.int l7), w8, w9, w10, w11, w12, w13, w14, w15] [] (xh A V tx cu) (qU (xh A' V' tx c'))) : ∀ (n : Nat) (l8 : Int32) (z9 z10 z11 z12 z13 z14 z15 : Option Value) (A V : xM) (cu : Value), fX9_plan_L29 l1 l2 l3 l4 l5 l6 l7 ex n l8 A V cu = some (A', V', c') → xw (xk_ro LL xs) d xk_191 29 [some (.ref 132), some (.int l1), some (.int l2), some (.int l3), some (.int l4), some (.int l5), some (.int l6), some (.int l7), some (.int l8), z9, z10, z11, z12, z13, z14, z15] [] (xh A V tx cu) (qU (xh A' V' tx c')) := by
  have hd0 : 60 ≤ d := by omega
  intro n
  induction n with
  | zero =>
    intro l8 z9 z10 z11 z12 z13 z14 z15 A V cu e
    rw [fX9_plan_L29] at e
    cases e
  | succ n ih =>
    intro l8 z9 z10 z11 z12 z13 z14 z15 A V cu e
    rw [fX9_plan_L29] at e
    rcases ite_ok e with ⟨h1, e⟩ | ⟨h1, e⟩
    · refine xw_y hd0 3 [1] rfl ⟨decide_eq_true h1, trivial⟩ ?_
      exact hex _ _ _ _ _ _ _ _ _ _ _ e
    · obtain ⟨h2, e⟩ := bC_ok e
      refine xw_y hd0 10 [0] rfl ⟨nt h1, h2, trivial⟩ ?_
      exact ih _ _ _ _ _ _ _ _ _ _ _ e
set_option maxRecDepth 20000 in
set_option maxHeartbeats 4000000 in
theorem slX9_plan_L259 {LL : Nat} {xs : Nat → Int32} {tx : List xh_T} {d : Nat}{A V : xM} {cu : Value} {A' V' : xM} {c' : Value} {l1 : Int32} {l2 : Int32} {l3 : Int32} {l4 : Int32} {l5 : Int32} {l6 : Int32} {l7 : Int32} {l8 : Int32} {l9 : Int32} {l10 : Int32} {l11 : Int32} {l12 : Int32} {l13 : Int32} {ex : Int32 → Option (xS)} (hd : 64 ≤ d) (hex : ∀ (y14 : Int32) (w15 : Option Value), ex y14 = some (A', V', c') → xw (xk_ro LL xs) d xk_191 303 [some (.ref 132), some (.int l1), some (.int l2), some (.int l3), some (.int l4), some (.int l5), some (.int l6), some (.int l7), some (.int l8), some (.int l9), some (.int l10), some (.int l11), some (.int l12), some (.int l13), some (.int y14), w15] [] (xh A V tx cu) (qU (xh A' V' tx c'))) : ∀ (n : Nat) (l14 : Int32) (l15 : Int32), fX9_plan_L259 l1 l2 l3 l4 l5 l6 l7 l8 l9 l10 l11 l12 l13 A V cu ex n l14 l15 = some (A', V', c') → xw (xk_ro LL xs) d xk_191 259 [some (.ref 132), some (.int l1), some (.int l2), some (.int l3), some (.int l4), some (.int l5), some (.int l6), some (.int l7), some (.int l8), some (.int l9), some (.int l10), some (.int l11), some (.int l12), some (.int l13), some (.int l14), some (.int l15)] [] (xh A V tx cu) (qU (xh A' V' tx c')) := by
  have hd0 : 60 ≤ d := by omega
  intro n
  induction n with
  | zero =>
    intro l14 l15 e
    rw [fX9_plan_L259] at e
    cases e
  | succ n ih =>
    intro l14 l15 e
    rw [fX9_plan_L259] at e
    rcases ite_ok e with ⟨h3, e⟩ | ⟨h3, e⟩
    · refine xw_y hd0 4 [1] rfl ⟨decide_eq_true h3, trivial⟩ ?_
      exact hex _ _ e
    · rcases ite_ok e with ⟨h4, e⟩ | ⟨h4, e⟩
      · refine xw_y hd0 8 [0, 0] rfl ⟨nt h3, nnt h4, trivial⟩ ?_
        obtain ⟨x5, e6, e⟩ := bI_ok e
        refine xw_call (k := 189) (j := 2) rfl (fun F => xm_c_ok (y_c_ok rfl) F) rfl rfl rfl (sX9_much (by omega) e6) ?_
        rintro _ _ ⟨rfl, rfl⟩
        refine xw_y hd0 2 [] rfl trivial ?_
        obtain ⟨x7, e8, e⟩ := bI_ok e
        refine xw_call (k := 189) (j := 2) rfl (fun F => xm_c_ok (y_c_ok rfl) F) rfl rfl rfl (sX9_much (by omega) e8) ?_
        rintro _ _ ⟨rfl, rfl⟩
        rcases ite_ok e with ⟨h9, e⟩ | ⟨h9, e⟩
        · refine xw_y hd0 5 [1] rfl ⟨decide_eq_true h9, trivial⟩ ?_
          exact ih _ _ e
        · refine xw_y hd0 6 [0] rfl ⟨nt h9, trivial⟩ ?_
          exact ih _ _ e
      · refine xw_y hd0 11 [0, 1] rfl ⟨nt h3, nt h4, trivial⟩ ?_
        exact ih _ _ e
set_option maxRecDepth 20000 in
set_option maxHeartbeats 4000000 in
theorem slX9_plan_L182 {LL : Nat} {xs : Nat → Int32} {tx : List xh_T} {d : Nat} {A' V' : xM} {c' : Value} {l1 : Int32} {l2 : Int32} {l3 : Int32} {l4 : Int32} {l5 : Int32} {l6 : Int32} {l7 : Int32} {l9 : Int32} {l10 : Int32} {ex : Int32 → xM → xM → Value → Option (xS)} (hd : 64 ≤ d) (hex : ∀ (y8 : Int32) (w10 w11 w12 w13 w14 w15 : Option Value) (A V : xM) (cu : Value), ex y8 A V cu = some (A', V', c') → xw (xk_ro LL xs) d xk_191 434 [some (.ref 132), some (.int l1), some (.int l2), some (.int l3), some (.int l4), some (.int l5), some (.int l6), some (.int l7), some (.int y8), some (.int l9), w10, w11, w12, w13, w14, w15] [] (xh A V tx cu) (qU (xh A' V' tx c'))) : ∀ (n : Nat) (l8 : Int32) (l11 : Int32) (z12 z13 z14 z15 : Option Value) (A V : xM) (cu : Value), fX9_plan_L182 l1 l2 l3 l4 l5 l6 l7 l9 l10 ex n l8 l11 A V cu = some (A', V', c') → xw (xk_ro LL xs) d xk_191 182 [some (.ref 132), some (.int l1), some (.int l2), some (.int l3), some (.int l4), some (.int l5), some (.int l6), some (.int l7), some (.int l8), some (.int l9), some (.int l10), some (.int l11), z12, z13, z14, z15] [] (xh A V tx cu) (qU (xh A' V' tx c')) := by
  have hd0 : 60 ≤ d := by omega
  intro n
  induction n with
  | zero =>
    intro l8 l11 z12 z13 z14 z15 A V cu e
    rw [fX9_plan_L182] at e
    cases e
  | succ n ih =>
    intro l8 l11 z12 z13 z14 z15 A V cu e
    rw [fX9_plan_L182] at e
    rcases ite_ok e with ⟨h10, e⟩ | ⟨h10, e⟩
    · refine xw_y hd0 6 [1] rfl ⟨decide_eq_true h10, trivial⟩ ?_
      exact hex _ _ _ _ _ _ _ _ _ _ e
    · rcases ite_ok e with ⟨h11, e⟩ | ⟨h11, e⟩
      · rcases ite_ok e with ⟨h12, e⟩ | ⟨h12, e⟩
        · refine xw_y hd0 15 [0, 0, 0] rfl ⟨nt h10, nnt h11, nnt h12, trivial⟩ ?_
          obtain ⟨x13, e14, e⟩ := bI_ok e
          refine xw_call (k := 167) (j := 1) rfl (fun F => xm_c_ok (y_c_ok rfl) F) rfl rfl rfl (sX9_size (by omega) e14) ?_
          rintro _ _ ⟨rfl, rfl⟩
          obtain ⟨h15, e⟩ := bC_ok e
          rcases ite_ok e with ⟨h16, e⟩ | ⟨h16, e⟩
          · refine xw_y hd0 7 [1] rfl ⟨h15, decide_eq_true h16, trivial⟩ ?_
            exact ih _ _ _ _ _ _ _ _ _ e
          · refine xw_y hd0 7 [0] rfl ⟨h15, nt h16, trivial⟩ ?_
            obtain ⟨A18, V19, c20, e21, e⟩ := bS_ok e
            refine xw_call (k := 188) (j := 2) rfl (fun F => xm_c_ok (y_c_ok rfl) F) rfl rfl rfl (sX9_take_ (by omega) e21) ?_
            rintro _ _ ⟨rfl, rfl⟩
            refine xw_y hd0 9 [] rfl trivial ?_
            obtain ⟨x22, A23, V24, c25, e26, e⟩ := bX_ok e
            refine xw_call (k := 170) (j := 8) rfl (fun F => xm_c_ok (y_c_ok rfl) F) rfl rfl rfl (sX9_begin (by omega) e26) ?_
            rintro _ _ ⟨rfl, rfl⟩
            refine xw_y hd0 2 [] rfl trivial ?_
            obtain ⟨x27, e28, e⟩ := bI_ok e
            refine xw_call (k := 187) (j := 1) rfl (fun F => xm_c_ok (y_c_ok rfl) F) rfl rfl rfl (sX9_state (by omega) e28) ?_
            rintro _ _ ⟨rfl, rfl⟩
            refine xw_y hd0 5 [] rfl trivial ?_
            refine slX9_plan_L259 hd ?_ FU _ _ e
            · intro l14_29 z30 e
              rcases ite_ok e with ⟨h31, e⟩ | ⟨h31, e⟩
              · refine xw_y hd0 4 [1] rfl ⟨decide_eq_true h31, trivial⟩ ?_
                exact ih _ _ _ _ _ _ _ _ _ e
              · rcases ite_ok e with ⟨h32, e⟩ | ⟨h32, e⟩
                · refine xw_y hd0 6 [0, 1] rfl ⟨nt h31, decide_eq_true h32, trivial⟩ ?_
                  exact ih _ _ _ _ _ _ _ _ _ e
                · obtain ⟨h33, e⟩ := bC_ok e
                  rcases ite_ok e with ⟨h34, e⟩ | ⟨h34, e⟩
                  · obtain ⟨h35, e⟩ := bC_ok e
                    rcases ite_ok e with ⟨h36, e⟩ | ⟨h36, e⟩
                    · obtain ⟨h37, e⟩ := bC_ok e
                      refine xw_y hd0 42 [0, 0, 0, 0] rfl ⟨nt h31, nt h32, h33, nnt h34, h35, nnt h36, h33, h35, h35, h37, trivial⟩ ?_
                      exact ih _ _ _ _ _ _ _ _ _ e
                    · rcases ite_ok e with ⟨h38, e⟩ | ⟨h38, e⟩
                      · rcases ite_ok e with ⟨h39, e⟩ | ⟨h39, e⟩
                        · refine xw_y hd0 37 [0, 0, 0, 1, 0, 1] rfl ⟨nt h31, nt h32, h33, nnt h34, h35, nt h36, h35, h33, nnt h38, h35, decide_eq_true h39, trivial⟩ ?_
                          exact ih _ _ _ _ _ _ _ _ _ e
                        · refine xw_y hd0 42 [0, 0, 0, 1, 0, 0] rfl ⟨nt h31, nt h32, h33, nnt h34, h35, nt h36, h35, h33, nnt h38, h35, nt h39, h35, trivial⟩ ?_
                          exact ih _ _ _ _ _ _ _ _ _ e
                      · refine xw_y hd0 31 [0, 0, 0, 1, 1] rfl ⟨nt h31, nt h32, h33, nnt h34, h35, nt h36, h35, h33, nt h38, trivial⟩ ?_
                        exact ih _ _ _ _ _ _ _ _ _ e
                  · obtain ⟨h40, e⟩ := bC_ok e
                    rcases ite_ok e with ⟨h41, e⟩ | ⟨h41, e⟩
                    · obtain ⟨h42, e⟩ := bC_ok e
                      refine xw_y hd0 44 [0, 0, 1, 0] rfl ⟨nt h31, nt h32, h33, nt h34, h33, h40, nnt h41, h33, h40, h40, h42, trivial⟩ ?_
                      exact ih _ _ _ _ _ _ _ _ _ e
                    · rcases ite_ok e with ⟨h43, e⟩ | ⟨h43, e⟩
                      · rcases ite_ok e with ⟨h44, e⟩ | ⟨h44, e⟩
                        · refine xw_y hd0 39 [0, 0, 1, 1, 0, 1] rfl ⟨nt h31, nt h32, h33, nt h34, h33, h40, nt h41, h40, h33, nnt h43, h40, decide_eq_true h44, trivial⟩ ?_
                          exact ih _ _ _ _ _ _ _ _ _ e
                        · refine xw_y hd0 44 [0, 0, 1, 1, 0, 0] rfl ⟨nt h31, nt h32, h33, nt h34, h33, h40, nt h41, h40, h33, nnt h43, h40, nt h44, h40, trivial⟩ ?_
                          exact ih _ _ _ _ _ _ _ _ _ e
                      · refine xw_y hd0 33 [0, 0, 1, 1, 1] rfl ⟨nt h31, nt h32, h33, nt h34, h33, h40, nt h41, h40, h33, nt h43, trivial⟩ ?_
                        exact ih _ _ _ _ _ _ _ _ _ e
        · refine xw_y hd0 16 [0, 0, 1] rfl ⟨nt h10, nnt h11, nt h12, trivial⟩ ?_
          exact ih _ _ _ _ _ _ _ _ _ e
      · refine xw_y hd0 10 [0, 1] rfl ⟨nt h10, nt h11, trivial⟩ ?_
        exact hex _ _ _ _ _ _ _ _ _ _ e
set_option maxRecDepth 20000 in
set_option maxHeartbeats 4000000 in
theorem slX9_plan_L91 {LL : Nat} {xs : Nat → Int32} {tx : List xh_T} {d : Nat} {A' V' : xM} {c' : Value} {l1 : Int32} {l2 : Int32} {l3 : Int32} {l4 : Int32} {l5 : Int32} {l6 : Int32} {l7 : Int32} {ex : xM → xM → Value → Option (xS)} (hd : 64 ≤ d) (hex : ∀ (w0 w1 w2 w3 w4 w5 w6 w7 w8 w9 w10 w11 w12 w13 w14 w15 : Option Value) (A V : xM) (cu : Value), ex  A V cu = some (A', V', c') → xw (xk_ro LL xs) d xk_191 440 [w0, w1, w2, w3, w4, w5, w6, w7, w8, w9, w10, w11, w12, w13, w14, w15] [] (xh A V tx cu) (qU (xh A' V' tx c'))) : ∀ (n : Nat) (l8 : Int32) (l9 : Int32) (z10 z11 z12 z13 z14 z15 : Option Value) (A V : xM) (cu : Value), fX9_plan_L91 l1 l2 l3 l4 l5 l6 l7 ex n l8 l9 A V cu = some (A', V', c') → xw (xk_ro LL xs) d xk_191 91 [some (.ref 132), some (.int l1), some (.int l2), some (.int l3), some (.int l4), some (.int l5), some (.int l6), some (.int l7), some (.int l8), some (.int l9), z10, z11, z12, z13, z14, z15] [] (xh A V tx cu) (qU (xh A' V' tx c')) := by
  have hd0 : 60 ≤ d := by omega
  intro n
  induction n with
  | zero =>
    intro l8 l9 z10 z11 z12 z13 z14 z15 A V cu e
    rw [fX9_plan_L91] at e
    cases e
  | succ n ih =>
    intro l8 l9 z10 z11 z12 z13 z14 z15 A V cu e
    rw [fX9_plan_L91] at e
    rcases ite_ok e with ⟨h45, e⟩ | ⟨h45, e⟩
    · refine xw_y hd0 3 [1] rfl ⟨decide_eq_true h45, trivial⟩ ?_
      exact hex _ _ _ _ _ _ _ _ _ _ _ _ _ _ _ _ _ _ _ e
    · obtain ⟨h46, e⟩ := bC_ok e
      refine xw_y hd0 13 [0] rfl ⟨nt h45, h46, trivial⟩ ?_
      obtain ⟨x47, e48, e⟩ := bI_ok e
      refine xw_call (k := 190) (j := 5) rfl (fun F => xm_c_ok (y_c_ok rfl) F) rfl rfl rfl (sX9_isDone (by omega) e48) ?_
      rintro _ _ ⟨rfl, rfl⟩
      rcases ite_ok e with ⟨h49, e⟩ | ⟨h49, e⟩
      · refine xw_y hd0 3 [1] rfl ⟨decide_eq_true h49, trivial⟩ ?_
        refine slX9_plan_L182 hd ?_ FU _ _ _ _ _ _ _ _ _ e
        · intro l8_50 z51 z52 z53 z54 z55 z56 A57 V58 c59 e
          refine xw_y hd0 2 [] rfl trivial ?_
          exact ih _ _ _ _ _ _ _ _ _ _ _ e
      · rcases ite_ok e with ⟨h60, e⟩ | ⟨h60, e⟩
        · obtain ⟨h61, e⟩ := bC_ok e
          refine xw_y hd0 19 [0, 1] rfl ⟨nt h49, decide_eq_true h60, h61, rfl, h61, rfl, trivial⟩ ?_
          refine slX9_plan_L182 hd ?_ FU _ _ _ _ _ _ _ _ _ e
          · intro l8_62 z63 z64 z65 z66 z67 z68 A69 V70 c71 e
            refine xw_y hd0 2 [] rfl trivial ?_
            exact ih _ _ _ _ _ _ _ _ _ _ _ e
        · obtain ⟨h72, e⟩ := bC_ok e
          rcases ite_ok e with ⟨h73, e⟩ | ⟨h73, e⟩
          · rcases ite_ok e with ⟨h74, e⟩ | ⟨h74, e⟩
            · refine xw_y hd0 21 [0, 0, 0, 1] rfl ⟨nt h49, nt h60, h72, nnt h73, h72, decide_eq_true h74, trivial⟩ ?_
              refine slX9_plan_L182 hd ?_ FU _ _ _ _ _ _ _ _ _ e
              · intro l8_75 z76 z77 z78 z79 z80 z81 A82 V83 c84 e
                refine xw_y hd0 2 [] rfl trivial ?_
                exact ih _ _ _ _ _ _ _ _ _ _ _ e
            · refine xw_y hd0 33 [0, 0, 0, 0] rfl ⟨nt h49, nt h60, h72, nnt h73, h72, nt h74, h72, rfl, h72, rfl, trivial⟩ ?_
              refine slX9_plan_L182 hd ?_ FU _ _ _ _ _ _ _ _ _ e
              · intro l8_85 z86 z87 z88 z89 z90 z91 A92 V93 c94 e
                refine xw_y hd0 2 [] rfl trivial ?_
                exact ih _ _ _ _ _ _ _ _ _ _ _ e
          · refine xw_y hd0 14 [0, 0, 1] rfl ⟨nt h49, nt h60, h72, nt h73, trivial⟩ ?_
            refine slX9_plan_L182 hd ?_ FU _ _ _ _ _ _ _ _ _ e
            · intro l8_95 z96 z97 z98 z99 z100 z101 A102 V103 c104 e
              refine xw_y hd0 2 [] rfl trivial ?_
              exact ih _ _ _ _ _ _ _ _ _ _ _ e
set_option maxRecDepth 20000 in
set_option maxHeartbeats 4000000 in
theorem sX9_plan {LL : Nat} {xs : Nat → Int32} {tx : List xh_T} {d : Nat} {A V : xM} {cu : Value} {A' V' : xM} {c' : Value} {l1 l2 l3 l4 l5 : Int32} (hd : 65 ≤ d) (e : fX9_plan l1 l2 l3 l4 l5 A V cu = some (A', V', c')) : xe (xk_ro LL xs) d 191 [.ref 132, .int l1, .int l2, .int l3, .int l4, .int l5] (xh A V tx cu) (qU (xh A' V' tx c')) := by
  obtain ⟨d, rfl⟩ : ∃ d1, d = d1 + 1 := ⟨d - 1, by omega⟩
  replace hd : 64 ≤ d := by omega
  have hd0 : 60 ≤ d := by omega
  refine xe_of (co := xk_191) (nl := 16) rfl rfl rfl ?_
  unfold fX9_plan at e
  refine xw_y hd0 4 [] rfl trivial ?_
  obtain ⟨x105, e106, e⟩ := bI_ok e
  refine xw_call (k := 171) (j := 3) rfl (fun F => xm_c_ok (y_c_ok rfl) F) rfl rfl rfl (sX9_whoHas_139 (by omega) e106) ?_
  rintro _ _ ⟨rfl, rfl⟩
  refine xw_y hd0 5 [] rfl trivial ?_
  obtain ⟨A108, V109, c110, e111, e⟩ := bS_ok e
  refine xw_call (k := 172) (j := 3) rfl (fun F => xm_c_ok (y_c_ok rfl) F) rfl rfl rfl (sX9_take_139 (by omega) e111) ?_
  rintro _ _ ⟨rfl, rfl⟩
  refine xw_y hd0 1 [] rfl trivial ?_
  obtain ⟨x112, e113, e⟩ := bI_ok e
  refine xw_call (k := 187) (j := 1) rfl (fun F => xm_c_ok (y_c_ok rfl) F) rfl rfl rfl (sX9_state (by omega) e113) ?_
  rintro _ _ ⟨rfl, rfl⟩
  refine xw_y hd0 3 [] rfl trivial ?_
  refine slX9_plan_L29 hd ?_ FU _ _ _ _ _ _ _ _ _ _ _ e
  · intro z114 z115 z116 z117 z118 z119 z120 z121 A122 V123 c124 e
    obtain ⟨h125, e⟩ := bC_ok e
    refine xw_y hd0 25 [] rfl ⟨rfl, rfl, rfl, h125, h125, trivial⟩ ?_
    refine slX9_plan_L91 hd ?_ FU _ _ _ _ _ _ _ _ _ _ _ e
    · intro z126 z127 z128 z129 z130 z131 z132 z133 z134 z135 z136 z137 z138 z139 z140 z141 A142 V143 c144 e
      cases e
      exact xw_yr hd0 2 [] rfl trivial ⟨rfl, rfl⟩
set_option maxRecDepth 20000 in
set_option maxHeartbeats 4000000 in
theorem sX9_isAsked {LL : Nat} {xs : Nat → Int32} {tx : List xh_T} {d : Nat} {A V : xM} {cu : Value} {r : Int32} {l1 l2 l3 l4 : Int32} (hd : 61 ≤ d) (e : fX9_isAsked l1 l2 l3 l4 A V = some r) : xe (xk_ro LL xs) d 192 [.ref 132, .int l1, .int l2, .int l3, .int l4] (xh A V tx cu) (qI r (xh A V tx cu)) := by
  obtain ⟨d, rfl⟩ : ∃ d1, d = d1 + 1 := ⟨d - 1, by omega⟩
  replace hd : 60 ≤ d := by omega
  have hd0 : 60 ≤ d := by omega
  refine xe_of (co := xk_192) (nl := 5) rfl rfl rfl ?_
  unfold fX9_isAsked at e
  rcases ite_ok e with ⟨h1, e⟩ | ⟨h1, e⟩
  · cases e
    exact xw_yr hd0 20 [1, 1] rfl ⟨decide_eq_true h1, rfl, rfl, rfl, rfl, trivial⟩ ⟨rfl, rfl⟩
  · rcases ite_ok e with ⟨h2, e⟩ | ⟨h2, e⟩
    · cases e
      exact xw_yr hd0 23 [0, 1, 1] rfl ⟨nt h1, decide_eq_true h2, rfl, rfl, rfl, rfl, trivial⟩ ⟨rfl, rfl⟩
    · rcases ite_ok e with ⟨h3, e⟩ | ⟨h3, e⟩
      · cases e
        exact xw_yr hd0 34 [0, 0, 0, 1, 1] rfl ⟨nt h1, nt h2, rfl, rfl, rfl, decide_eq_true h3, rfl, rfl, rfl, trivial⟩ ⟨rfl, rfl⟩
      · rcases ite_ok e with ⟨h4, e⟩ | ⟨h4, e⟩
        · cases e
          exact xw_yr hd0 37 [0, 0, 0, 0, 1, 1] rfl ⟨nt h1, nt h2, rfl, rfl, rfl, nt h3, decide_eq_true h4, rfl, rfl, rfl, trivial⟩ ⟨rfl, rfl⟩
        · rcases ite_ok e with ⟨h5, e⟩ | ⟨h5, e⟩
          · cases e
            exact xw_yr hd0 46 [0, 0, 0, 0, 0, 0, 1, 1] rfl ⟨nt h1, nt h2, rfl, rfl, rfl, nt h3, nt h4, rfl, rfl, decide_eq_true h5, rfl, rfl, rfl, trivial⟩ ⟨rfl, rfl⟩
          · rcases ite_ok e with ⟨h6, e⟩ | ⟨h6, e⟩
            · cases e
              exact xw_yr hd0 52 [0, 0, 0, 0, 0, 0, 0, 1, 1] rfl ⟨nt h1, nt h2, rfl, rfl, rfl, nt h3, nt h4, rfl, rfl, nt h5, decide_eq_true h6, rfl, rfl, rfl, trivial⟩ ⟨rfl, rfl⟩
            · rcases ite_ok e with ⟨h7, e⟩ | ⟨h7, e⟩
              · cases e
                exact xw_yr hd0 61 [0, 0, 0, 0, 0, 0, 0, 0, 0, 1, 1] rfl ⟨nt h1, nt h2, rfl, rfl, rfl, nt h3, nt h4, rfl, rfl, nt h5, nt h6, rfl, rfl, decide_eq_true h7, rfl, rfl, rfl, trivial⟩ ⟨rfl, rfl⟩
              · rcases ite_ok e with ⟨h8, e⟩ | ⟨h8, e⟩
                · cases e
                  exact xw_yr hd0 67 [0, 0, 0, 0, 0, 0, 0, 0, 0, 0, 1, 1] rfl ⟨nt h1, nt h2, rfl, rfl, rfl, nt h3, nt h4, rfl, rfl, nt h5, nt h6, rfl, rfl, nt h7, decide_eq_true h8, rfl, rfl, rfl, trivial⟩ ⟨rfl, rfl⟩
                · cases e
                  exact xw_yr hd0 69 [0, 0, 0, 0, 0, 0, 0, 0, 0, 0, 0, 0] rfl ⟨nt h1, nt h2, rfl, rfl, rfl, nt h3, nt h4, rfl, rfl, nt h5, nt h6, rfl, rfl, nt h7, nt h8, rfl, rfl, rfl, trivial⟩ ⟨rfl, rfl⟩
set_option maxRecDepth 20000 in
set_option maxHeartbeats 4000000 in
theorem sX9_least {LL : Nat} {xs : Nat → Int32} {tx : List xh_T} {d : Nat} {A V : xM} {cu : Value} {A' V' : xM} {c' : Value} {r : Int32} {l1 l2 l3 l4 l5 : Int32} (hd : 66 ≤ d) (e : fX9_least l1 l2 l3 l4 l5 A V cu = some (r, A', V', c')) : xe (xk_ro LL xs) d 193 [.ref 132, .int l1, .int l2, .int l3, .int l4, .int l5] (xh A V tx cu) (qI r (xh A' V' tx c')) := by
  obtain ⟨d, rfl⟩ : ∃ d1, d = d1 + 1 := ⟨d - 1, by omega⟩
  replace hd : 65 ≤ d := by omega
  have hd0 : 60 ≤ d := by omega
  refine xe_of (co := xk_193) (nl := 6) rfl rfl rfl ?_
  unfold fX9_least at e
  refine xw_y hd0 5 [] rfl trivial ?_
  obtain ⟨x1, e2, e⟩ := bI_ok e
  refine xw_call (k := 192) (j := 5) rfl (fun F => xm_c_ok (y_c_ok rfl) F) rfl rfl rfl (sX9_isAsked (by omega) e2) ?_
  rintro _ _ ⟨rfl, rfl⟩
  rcases ite_ok e with ⟨h3, e⟩ | ⟨h3, e⟩
  · cases e
    exact xw_yr hd0 4 [0] rfl ⟨nnt h3, rfl, trivial⟩ ⟨rfl, rfl⟩
  · rcases ite_ok e with ⟨h4, e⟩ | ⟨h4, e⟩
    · cases e
      exact xw_yr hd0 14 [1, 1, 0] rfl ⟨nt h3, decide_eq_true h4, rfl, rfl, rfl, trivial⟩ ⟨rfl, rfl⟩
    · rcases ite_ok e with ⟨h5, e⟩ | ⟨h5, e⟩
      · cases e
        exact xw_yr hd0 17 [1, 0, 1, 0] rfl ⟨nt h3, nt h4, decide_eq_true h5, rfl, rfl, rfl, trivial⟩ ⟨rfl, rfl⟩
      · refine xw_y hd0 21 [1, 0, 0, 1] rfl ⟨nt h3, nt h4, nt h5, rfl, rfl, trivial⟩ ?_
        obtain ⟨A7, V8, c9, e10, e⟩ := bS_ok e
        refine xw_call (k := 191) (j := 6) rfl (fun F => xm_c_ok (y_c_ok rfl) F) rfl rfl rfl (sX9_plan (by omega) e10) ?_
        rintro _ _ ⟨rfl, rfl⟩
        rcases ite_ok e with ⟨h11, e⟩ | ⟨h11, e⟩
        · cases e
          exact xw_yr hd0 7 [0] rfl ⟨nnt h11, rfl, trivial⟩ ⟨rfl, rfl⟩
        · cases e
          exact xw_yr hd0 6 [1] rfl ⟨nt h11, rfl, trivial⟩ ⟨rfl, rfl⟩
set_option maxRecDepth 20000 in
set_option maxHeartbeats 4000000 in
theorem slX9_why_L41 {LL : Nat} {xs : Nat → Int32} {tx : List xh_T} {d : Nat} {A' V' : xM} {c' : Value} {r : Int32} {l1 : Int32} {l2 : Int32} {l3 : Int32} {l4 : Int32} {ex : Int32 → xM → xM → Value → Option (Int32 × xS)} (hd : 65 ≤ d) (hex : ∀ (y5 : Int32) (w0 w1 w2 w3 w4 w6 : Option Value) (A V : xM) (cu : Value), ex y5 A V cu = some (r, A', V', c') → xw (xk_ro LL xs) d xk_194 97 [w0, w1, w2, w3, w4, some (.int y5), w6] [] (xh A V tx cu) (qI r (xh A' V' tx c'))) : ∀ (n : Nat) (l5 : Int32) (l6 : Int32) (A V : xM) (cu : Value), fX9_why_L41 l1 l2 l3 l4 ex n l5 l6 A V cu = some (r, A', V', c') → xw (xk_ro LL xs) d xk_194 41 [some (.ref 132), some (.int l1), some (.int l2), some (.int l3), some (.int l4), some (.int l5), some (.int l6)] [] (xh A V tx cu) (qI r (xh A' V' tx c')) := by
  have hd0 : 60 ≤ d := by omega
  intro n
  induction n with
  | zero =>
    intro l5 l6 A V cu e
    rw [fX9_why_L41] at e
    cases e
  | succ n ih =>
    intro l5 l6 A V cu e
    rw [fX9_why_L41] at e
    rcases ite_ok e with ⟨h1, e⟩ | ⟨h1, e⟩
    · refine xw_y hd0 4 [1] rfl ⟨decide_eq_true h1, trivial⟩ ?_
      exact hex _ _ _ _ _ _ _ _ _ _ e
    · refine xw_y hd0 18 [0] rfl ⟨nt h1, trivial⟩ ?_
      obtain ⟨A3, V4, c5, e6, e⟩ := bS_ok e
      refine xw_call (k := 191) (j := 6) rfl (fun F => xm_c_ok (y_c_ok rfl) F) rfl rfl rfl (sX9_plan (by omega) e6) ?_
      rintro _ _ ⟨rfl, rfl⟩
      rcases ite_ok e with ⟨h7, e⟩ | ⟨h7, e⟩
      · refine xw_y hd0 10 [1] rfl ⟨decide_eq_true h7, trivial⟩ ?_
        exact ih _ _ _ _ _ e
      · refine xw_y hd0 13 [0] rfl ⟨nt h7, trivial⟩ ?_
        exact ih _ _ _ _ _ e
set_option maxRecDepth 20000 in
set_option maxHeartbeats 4000000 in
theorem sX9_why {LL : Nat} {xs : Nat → Int32} {tx : List xh_T} {d : Nat} {A V : xM} {cu : Value} {A' V' : xM} {c' : Value} {r : Int32} {l1 l2 l3 l4 : Int32} (hd : 66 ≤ d) (e : fX9_why l1 l2 l3 l4 A V cu = some (r, A', V', c')) : xe (xk_ro LL xs) d 194 [.ref 132, .int l1, .int l2, .int l3, .int l4] (xh A V tx cu) (qI r (xh A' V' tx c')) := by
  obtain ⟨d, rfl⟩ : ∃ d1, d = d1 + 1 := ⟨d - 1, by omega⟩
  replace hd : 65 ≤ d := by omega
  have hd0 : 60 ≤ d := by omega
  refine xe_of (co := xk_194) (nl := 7) rfl rfl rfl ?_
  unfold fX9_why at e
  refine xw_y hd0 5 [] rfl trivial ?_
  obtain ⟨x8, e9, e⟩ := bI_ok e
  refine xw_call (k := 192) (j := 5) rfl (fun F => xm_c_ok (y_c_ok rfl) F) rfl rfl rfl (sX9_isAsked (by omega) e9) ?_
  rintro _ _ ⟨rfl, rfl⟩
  rcases ite_ok e with ⟨h10, e⟩ | ⟨h10, e⟩
  · cases e
    exact xw_yr hd0 4 [0] rfl ⟨nnt h10, rfl, trivial⟩ ⟨rfl, rfl⟩
  · refine xw_y hd0 7 [1] rfl ⟨nt h10, trivial⟩ ?_
    obtain ⟨A12, V13, c14, e15, e⟩ := bS_ok e
    refine xw_call (k := 191) (j := 6) rfl (fun F => xm_c_ok (y_c_ok rfl) F) rfl rfl rfl (sX9_plan (by omega) e15) ?_
    rintro _ _ ⟨rfl, rfl⟩
    rcases ite_ok e with ⟨h16, e⟩ | ⟨h16, e⟩
    · refine xw_y hd0 8 [1] rfl ⟨decide_eq_true h16, trivial⟩ ?_
      refine slX9_why_L41 hd ?_ FU _ _ _ _ _ e
      · intro l5_17 z18 z19 z20 z21 z22 z23 A24 V25 c26 e
        cases e
        exact xw_yr hd0 3 [] rfl ⟨rfl, trivial⟩ ⟨rfl, rfl⟩
    · cases e
      exact xw_yr hd0 7 [0] rfl ⟨nt h16, rfl, trivial⟩ ⟨rfl, rfl⟩
set_option maxRecDepth 20000 in
set_option maxHeartbeats 4000000 in
theorem slX9_place_L23 {LL : Nat} {xs : Nat → Int32} {tx : List xh_T} {d : Nat} {A' V' : xM} {c' : Value} {r : Int32} {l1 : Int32} {l2 : Int32} {l3 : Int32} {ex : Int32 → xM → xM → Value → Option (Int32 × xS)} (hd : 65 ≤ d) (hex : ∀ (y5 : Int32) (w0 w1 w2 w3 w4 w6 : Option Value) (A V : xM) (cu : Value), ex y5 A V cu = some (r, A', V', c') → xw (xk_ro LL xs) d xk_195 78 [w0, w1, w2, w3, w4, some (.int y5), w6] [] (xh A V tx cu) (qI r (xh A' V' tx c'))) : ∀ (n : Nat) (l4 : Int32) (l5 : Int32) (l6 : Int32) (A V : xM) (cu : Value), fX9_place_L23 l1 l2 l3 ex n l4 l5 l6 A V cu = some (r, A', V', c') → xw (xk_ro LL xs) d xk_195 23 [some (.ref 132), some (.int l1), some (.int l2), some (.int l3), some (.int l4), some (.int l5), some (.int l6)] [] (xh A V tx cu) (qI r (xh A' V' tx c')) := by
  have hd0 : 60 ≤ d := by omega
  intro n
  induction n with
  | zero =>
    intro l4 l5 l6 A V cu e
    rw [fX9_place_L23] at e
    cases e
  | succ n ih =>
    intro l4 l5 l6 A V cu e
    rw [fX9_place_L23] at e
    rcases ite_ok e with ⟨h1, e⟩ | ⟨h1, e⟩
    · refine xw_y hd0 3 [1] rfl ⟨decide_eq_true h1, trivial⟩ ?_
      exact hex _ _ _ _ _ _ _ _ _ _ e
    · refine xw_y hd0 9 [0] rfl ⟨nt h1, trivial⟩ ?_
      obtain ⟨A3, V4, c5, e6, e⟩ := bS_ok e
      refine xw_call (k := 191) (j := 6) rfl (fun F => xm_c_ok (y_c_ok rfl) F) rfl rfl rfl (sX9_plan (by omega) e6) ?_
      rintro _ _ ⟨rfl, rfl⟩
      rcases ite_ok e with ⟨h7, e⟩ | ⟨h7, e⟩
      · refine xw_y hd0 6 [1] rfl ⟨decide_eq_true h7, trivial⟩ ?_
        exact ih _ _ _ _ _ _ e
      · rcases ite_ok e with ⟨h8, e⟩ | ⟨h8, e⟩
        · refine xw_y hd0 14 [0, 1] rfl ⟨nt h7, decide_eq_true h8, trivial⟩ ?_
          exact ih _ _ _ _ _ _ e
        · rcases ite_ok e with ⟨h9, e⟩ | ⟨h9, e⟩
          · refine xw_y hd0 13 [0, 0, 1] rfl ⟨nt h7, nt h8, decide_eq_true h9, trivial⟩ ?_
            exact ih _ _ _ _ _ _ e
          · refine xw_y hd0 18 [0, 0, 0] rfl ⟨nt h7, nt h8, nt h9, trivial⟩ ?_
            exact ih _ _ _ _ _ _ e
set_option maxRecDepth 20000 in
set_option maxHeartbeats 4000000 in
theorem sX9_place {LL : Nat} {xs : Nat → Int32} {tx : List xh_T} {d : Nat} {A V : xM} {cu : Value} {A' V' : xM} {c' : Value} {r : Int32} {l1 l2 l3 : Int32} (hd : 66 ≤ d) (e : fX9_place l1 l2 l3 A V cu = some (r, A', V', c')) : xe (xk_ro LL xs) d 195 [.ref 132, .int l1, .int l2, .int l3] (xh A V tx cu) (qI r (xh A' V' tx c')) := by
  obtain ⟨d, rfl⟩ : ∃ d1, d = d1 + 1 := ⟨d - 1, by omega⟩
  replace hd : 65 ≤ d := by omega
  have hd0 : 60 ≤ d := by omega
  refine xe_of (co := xk_195) (nl := 7) rfl rfl rfl ?_
  unfold fX9_place at e
  refine xw_y hd0 5 [] rfl trivial ?_
  obtain ⟨x10, e11, e⟩ := bI_ok e
  refine xw_call (k := 192) (j := 5) rfl (fun F => xm_c_ok (y_c_ok rfl) F) rfl rfl rfl (sX9_isAsked (by omega) e11) ?_
  rintro _ _ ⟨rfl, rfl⟩
  rcases ite_ok e with ⟨h12, e⟩ | ⟨h12, e⟩
  · cases e
    exact xw_yr hd0 4 [0] rfl ⟨nnt h12, rfl, trivial⟩ ⟨rfl, rfl⟩
  · refine xw_y hd0 7 [1] rfl ⟨nt h12, trivial⟩ ?_
    refine slX9_place_L23 hd ?_ FU _ _ _ _ _ _ e
    · intro l5_13 z14 z15 z16 z17 z18 z19 A20 V21 c22 e
      cases e
      exact xw_yr hd0 3 [] rfl ⟨rfl, trivial⟩ ⟨rfl, rfl⟩
set_option maxRecDepth 20000 in
set_option maxHeartbeats 4000000 in
theorem slX9_whole_L25 {LL : Nat} {xs : Nat → Int32} {tx : List xh_T} {d : Nat} {A' V' : xM} {c' : Value} {r : Int32} {l1 : Int32} {l2 : Int32} {ex : Int32 → xM → xM → Value → Option (Int32 × xS)} (hd : 65 ≤ d) (hex : ∀ (y3 : Int32) (w0 w1 w2 w4 : Option Value) (A V : xM) (cu : Value), ex y3 A V cu = some (r, A', V', c') → xw (xk_ro LL xs) d xk_196 67 [w0, w1, w2, some (.int y3), w4] [] (xh A V tx cu) (qI r (xh A' V' tx c'))) : ∀ (n : Nat) (l3 : Int32) (l4 : Int32) (A V : xM) (cu : Value), fX9_whole_L25 l1 l2 ex n l3 l4 A V cu = some (r, A', V', c') → xw (xk_ro LL xs) d xk_196 25 [some (.ref 132), some (.int l1), some (.int l2), some (.int l3), some (.int l4)] [] (xh A V tx cu) (qI r (xh A' V' tx c')) := by
  have hd0 : 60 ≤ d := by omega
  intro n
  induction n with
  | zero =>
    intro l3 l4 A V cu e
    rw [fX9_whole_L25] at e
    cases e
  | succ n ih =>
    intro l3 l4 A V cu e
    rw [fX9_whole_L25] at e
    rcases ite_ok e with ⟨h1, e⟩ | ⟨h1, e⟩
    · refine xw_y hd0 4 [1] rfl ⟨decide_eq_true h1, trivial⟩ ?_
      exact hex _ _ _ _ _ _ _ _ e
    · refine xw_y hd0 10 [0] rfl ⟨nt h1, trivial⟩ ?_
      obtain ⟨A3, V4, c5, e6, e⟩ := bS_ok e
      refine xw_call (k := 191) (j := 6) rfl (fun F => xm_c_ok (y_c_ok rfl) F) rfl rfl rfl (sX9_plan (by omega) e6) ?_
      rintro _ _ ⟨rfl, rfl⟩
      rcases ite_ok e with ⟨h7, e⟩ | ⟨h7, e⟩
      · cases e
        exact xw_yr hd0 7 [0] rfl ⟨nnt h7, rfl, trivial⟩ ⟨rfl, rfl⟩
      · refine xw_y hd0 11 [1] rfl ⟨nt h7, trivial⟩ ?_
        exact ih _ _ _ _ _ e
set_option maxRecDepth 20000 in
set_option maxHeartbeats 4000000 in
theorem sX9_whole {LL : Nat} {xs : Nat → Int32} {tx : List xh_T} {d : Nat} {A V : xM} {cu : Value} {A' V' : xM} {c' : Value} {r : Int32} {l1 l2 : Int32} (hd : 66 ≤ d) (e : fX9_whole l1 l2 A V cu = some (r, A', V', c')) : xe (xk_ro LL xs) d 196 [.ref 132, .int l1, .int l2] (xh A V tx cu) (qI r (xh A' V' tx c')) := by
  obtain ⟨d, rfl⟩ : ∃ d1, d = d1 + 1 := ⟨d - 1, by omega⟩
  replace hd : 65 ≤ d := by omega
  have hd0 : 60 ≤ d := by omega
  refine xe_of (co := xk_196) (nl := 5) rfl rfl rfl ?_
  unfold fX9_whole at e
  rcases ite_ok e with ⟨h8, e⟩ | ⟨h8, e⟩
  · cases e
    exact xw_yr hd0 13 [1, 1] rfl ⟨decide_eq_true h8, rfl, rfl, rfl, trivial⟩ ⟨rfl, rfl⟩
  · rcases ite_ok e with ⟨h9, e⟩ | ⟨h9, e⟩
    · cases e
      exact xw_yr hd0 16 [0, 1, 1] rfl ⟨nt h8, decide_eq_true h9, rfl, rfl, rfl, trivial⟩ ⟨rfl, rfl⟩
    · rcases ite_ok e with ⟨h10, e⟩ | ⟨h10, e⟩
      · cases e
        exact xw_yr hd0 25 [0, 0, 0, 1, 0] rfl ⟨nt h8, nt h9, rfl, rfl, decide_eq_true h10, rfl, rfl, rfl, trivial⟩ ⟨rfl, rfl⟩
      · rcases ite_ok e with ⟨h11, e⟩ | ⟨h11, e⟩
        · cases e
          exact xw_yr hd0 31 [0, 0, 0, 0, 1, 0] rfl ⟨nt h8, nt h9, rfl, rfl, nt h10, decide_eq_true h11, rfl, rfl, rfl, trivial⟩ ⟨rfl, rfl⟩
        · refine xw_y hd0 33 [0, 0, 0, 0, 0, 1] rfl ⟨nt h8, nt h9, rfl, rfl, nt h10, nt h11, rfl, rfl, trivial⟩ ?_
          refine slX9_whole_L25 hd ?_ FU _ _ _ _ _ e
          · intro l3_12 z13 z14 z15 z16 A17 V18 c19 e
            cases e
            exact xw_yr hd0 3 [] rfl ⟨rfl, trivial⟩ ⟨rfl, rfl⟩
set_option maxRecDepth 20000 in
set_option maxHeartbeats 4000000 in
theorem slX9_was_L156 {LL : Nat} {xs : Nat → Int32} {tx : List xh_T} {d : Nat}{A V : xM} {cu : Value} {A' V' : xM} {c' : Value} {r : Int32} {l1 : Int32} {l2 : Int32} {l3 : Int32} {l4 : Int32} {l5 : Int32} {l6 : Int32} {l7 : Int32} {l8 : Int32} {l9 : Int32} {ex : Int32 → Option (Int32 × xS)} (hd : 64 ≤ d) (hex : ∀ (y10 : Int32) (w11 : Option Value), ex y10 = some (r, A', V', c') → xw (xk_ro LL xs) d xk_197 209 [some (.ref 132), some (.int l1), some (.int l2), some (.int l3), some (.int l4), some (.int l5), some (.int l6), some (.int l7), some (.int l8), some (.int l9), some (.int y10), w11] [] (xh A V tx cu) (qI r (xh A' V' tx c'))) : ∀ (n : Nat) (l10 : Int32) (l11 : Int32), fX9_was_L156 l1 l2 l3 l4 l5 l6 l7 l8 l9 A V cu ex n l10 l11 = some (r, A', V', c') → xw (xk_ro LL xs) d xk_197 156 [some (.ref 132), some (.int l1), some (.int l2), some (.int l3), some (.int l4), some (.int l5), some (.int l6), some (.int l7), some (.int l8), some (.int l9), some (.int l10), some (.int l11)] [] (xh A V tx cu) (qI r (xh A' V' tx c')) := by
  have hd0 : 60 ≤ d := by omega
  intro n
  induction n with
  | zero =>
    intro l10 l11 e
    rw [fX9_was_L156] at e
    cases e
  | succ n ih =>
    intro l10 l11 e
    rw [fX9_was_L156] at e
    rcases ite_ok e with ⟨h1, e⟩ | ⟨h1, e⟩
    · refine xw_y hd0 4 [1] rfl ⟨decide_eq_true h1, trivial⟩ ?_
      exact hex _ _ e
    · rcases ite_ok e with ⟨h2, e⟩ | ⟨h2, e⟩
      · refine xw_y hd0 10 [0, 1] rfl ⟨nt h1, decide_eq_true h2, trivial⟩ ?_
        exact ih _ _ e
      · obtain ⟨h3, e⟩ := bC_ok e
        obtain ⟨h4, e⟩ := bC_ok e
        rcases ite_ok e with ⟨h5, e⟩ | ⟨h5, e⟩
        · refine xw_y hd0 26 [0, 0, 0] rfl ⟨nt h1, nt h2, h3, h4, nnt h5, trivial⟩ ?_
          exact ih _ _ e
        · refine xw_y hd0 25 [0, 0, 1] rfl ⟨nt h1, nt h2, h3, h4, nt h5, trivial⟩ ?_
          exact ih _ _ e
set_option maxRecDepth 20000 in
set_option maxHeartbeats 4000000 in
theorem slX9_was_L101 {LL : Nat} {xs : Nat → Int32} {tx : List xh_T} {d : Nat} {A' V' : xM} {c' : Value} {r : Int32} {l1 : Int32} {l2 : Int32} {l3 : Int32} {l4 : Int32} {l5 : Int32} {ex : Int32 → Int32 → Int32 → xM → xM → Value → Option (Int32 × xS)} (hd : 64 ≤ d) (hex : ∀ (y6 : Int32) (y7 : Int32) (y8 : Int32) (w0 w1 w2 w3 w5 w9 w10 w11 : Option Value) (A V : xM) (cu : Value), ex y6 y7 y8 A V cu = some (r, A', V', c') → xw (xk_ro LL xs) d xk_197 237 [w0, w1, w2, w3, some (.int l4), w5, some (.int y6), some (.int y7), some (.int y8), w9, w10, w11] [] (xh A V tx cu) (qI r (xh A' V' tx c'))) : ∀ (n : Nat) (l6 : Int32) (l7 : Int32) (l8 : Int32) (l9 : Int32) (z10 z11 : Option Value) (A V : xM) (cu : Value), fX9_was_L101 l1 l2 l3 l4 l5 ex n l6 l7 l8 l9 A V cu = some (r, A', V', c') → xw (xk_ro LL xs) d xk_197 101 [some (.ref 132), some (.int l1), some (.int l2), some (.int l3), some (.int l4), some (.int l5), some (.int l6), some (.int l7), some (.int l8), some (.int l9), z10, z11] [] (xh A V tx cu) (qI r (xh A' V' tx c')) := by
  have hd0 : 60 ≤ d := by omega
  intro n
  induction n with
  | zero =>
    intro l6 l7 l8 l9 z10 z11 A V cu e
    rw [fX9_was_L101] at e
    cases e
  | succ n ih =>
    intro l6 l7 l8 l9 z10 z11 A V cu e
    rw [fX9_was_L101] at e
    rcases ite_ok e with ⟨h6, e⟩ | ⟨h6, e⟩
    · refine xw_y hd0 6 [1] rfl ⟨decide_eq_true h6, trivial⟩ ?_
      exact hex _ _ _ _ _ _ _ _ _ _ _ _ _ _ e
    · refine xw_y hd0 7 [0] rfl ⟨nt h6, trivial⟩ ?_
      obtain ⟨x7, e8, e⟩ := bI_ok e
      refine xw_call (k := 167) (j := 1) rfl (fun F => xm_c_ok (y_c_ok rfl) F) rfl rfl rfl (sX9_size (by omega) e8) ?_
      rintro _ _ ⟨rfl, rfl⟩
      obtain ⟨h9, e⟩ := bC_ok e
      rcases ite_ok e with ⟨h10, e⟩ | ⟨h10, e⟩
      · refine xw_y hd0 7 [1] rfl ⟨h9, decide_eq_true h10, trivial⟩ ?_
        exact ih _ _ _ _ _ _ _ _ _ e
      · refine xw_y hd0 9 [0] rfl ⟨h9, nt h10, trivial⟩ ?_
        obtain ⟨A12, V13, c14, e15, e⟩ := bS_ok e
        refine xw_call (k := 172) (j := 3) rfl (fun F => xm_c_ok (y_c_ok rfl) F) rfl rfl rfl (sX9_take_139 (by omega) e15) ?_
        rintro _ _ ⟨rfl, rfl⟩
        refine xw_y hd0 9 [] rfl trivial ?_
        obtain ⟨x16, A17, V18, c19, e20, e⟩ := bX_ok e
        refine xw_call (k := 170) (j := 8) rfl (fun F => xm_c_ok (y_c_ok rfl) F) rfl rfl rfl (sX9_begin (by omega) e20) ?_
        rintro _ _ ⟨rfl, rfl⟩
        refine xw_y hd0 3 [] rfl trivial ?_
        refine slX9_was_L156 hd ?_ FU _ _ e
        · intro l10_21 z22 e
          rcases ite_ok e with ⟨h23, e⟩ | ⟨h23, e⟩
          · refine xw_y hd0 4 [1] rfl ⟨decide_eq_true h23, trivial⟩ ?_
            exact ih _ _ _ _ _ _ _ _ _ e
          · refine xw_y hd0 13 [0] rfl ⟨nt h23, trivial⟩ ?_
            exact ih _ _ _ _ _ _ _ _ _ e
set_option maxRecDepth 20000 in
set_option maxHeartbeats 4000000 in
theorem sX9_was {LL : Nat} {xs : Nat → Int32} {tx : List xh_T} {d : Nat} {A V : xM} {cu : Value} {A' V' : xM} {c' : Value} {r : Int32} {l1 l2 l3 l4 : Int32} (hd : 65 ≤ d) (e : fX9_was l1 l2 l3 l4 A V cu = some (r, A', V', c')) : xe (xk_ro LL xs) d 197 [.ref 132, .int l1, .int l2, .int l3, .int l4] (xh A V tx cu) (qI r (xh A' V' tx c')) := by
  obtain ⟨d, rfl⟩ : ∃ d1, d = d1 + 1 := ⟨d - 1, by omega⟩
  replace hd : 64 ≤ d := by omega
  have hd0 : 60 ≤ d := by omega
  refine xe_of (co := xk_197) (nl := 12) rfl rfl rfl ?_
  unfold fX9_was at e
  rcases ite_ok e with ⟨h24, e⟩ | ⟨h24, e⟩
  · cases e
    exact xw_yr hd0 20 [1, 0] rfl ⟨decide_eq_true h24, rfl, rfl, rfl, rfl, trivial⟩ ⟨rfl, rfl⟩
  · rcases ite_ok e with ⟨h25, e⟩ | ⟨h25, e⟩
    · cases e
      exact xw_yr hd0 23 [0, 1, 0] rfl ⟨nt h24, decide_eq_true h25, rfl, rfl, rfl, rfl, trivial⟩ ⟨rfl, rfl⟩
    · rcases ite_ok e with ⟨h26, e⟩ | ⟨h26, e⟩
      · cases e
        exact xw_yr hd0 34 [0, 0, 1, 1, 1] rfl ⟨nt h24, nt h25, rfl, rfl, rfl, decide_eq_true h26, rfl, rfl, rfl, trivial⟩ ⟨rfl, rfl⟩
      · rcases ite_ok e with ⟨h27, e⟩ | ⟨h27, e⟩
        · cases e
          exact xw_yr hd0 37 [0, 0, 1, 0, 1, 1] rfl ⟨nt h24, nt h25, rfl, rfl, rfl, nt h26, decide_eq_true h27, rfl, rfl, rfl, trivial⟩ ⟨rfl, rfl⟩
        · rcases ite_ok e with ⟨h28, e⟩ | ⟨h28, e⟩
          · cases e
            exact xw_yr hd0 48 [0, 0, 1, 0, 0, 0, 1, 0] rfl ⟨nt h24, nt h25, rfl, rfl, rfl, nt h26, nt h27, rfl, rfl, decide_eq_true h28, rfl, rfl, rfl, trivial⟩ ⟨rfl, rfl⟩
          · rcases ite_ok e with ⟨h29, e⟩ | ⟨h29, e⟩
            · cases e
              exact xw_yr hd0 51 [0, 0, 1, 0, 0, 0, 0, 1, 0] rfl ⟨nt h24, nt h25, rfl, rfl, rfl, nt h26, nt h27, rfl, rfl, nt h28, decide_eq_true h29, rfl, rfl, rfl, trivial⟩ ⟨rfl, rfl⟩
            · rcases ite_ok e with ⟨h30, e⟩ | ⟨h30, e⟩
              · cases e
                exact xw_yr hd0 65 [0, 0, 1, 0, 0, 0, 0, 0, 1, 1, 0] rfl ⟨nt h24, nt h25, rfl, rfl, rfl, nt h26, nt h27, rfl, rfl, nt h28, nt h29, rfl, rfl, decide_eq_true h30, rfl, rfl, rfl, rfl, trivial⟩ ⟨rfl, rfl⟩
              · rcases ite_ok e with ⟨h31, e⟩ | ⟨h31, e⟩
                · cases e
                  exact xw_yr hd0 68 [0, 0, 1, 0, 0, 0, 0, 0, 1, 0, 1, 0] rfl ⟨nt h24, nt h25, rfl, rfl, rfl, nt h26, nt h27, rfl, rfl, nt h28, nt h29, rfl, rfl, nt h30, decide_eq_true h31, rfl, rfl, rfl, rfl, trivial⟩ ⟨rfl, rfl⟩
                · obtain ⟨h32, e⟩ := bC_ok e
                  rcases ite_ok e with ⟨h33, e⟩ | ⟨h33, e⟩
                  · rcases ite_ok e with ⟨h34, e⟩ | ⟨h34, e⟩
                    · refine xw_y hd0 82 [0, 0, 1, 0, 0, 0, 0, 0, 1, 0, 0, 1, 1, 1] rfl ⟨nt h24, nt h25, rfl, rfl, rfl, nt h26, nt h27, rfl, rfl, nt h28, nt h29, rfl, rfl, nt h30, nt h31, rfl, rfl, rfl, h32, decide_eq_true h33, h32, decide_eq_true h34, trivial⟩ ?_
                      obtain ⟨x35, e36, e⟩ := bI_ok e
                      refine xw_call (k := 171) (j := 3) rfl (fun F => xm_c_ok (y_c_ok rfl) F) rfl rfl rfl (sX9_whoHas_139 (by omega) e36) ?_
                      rintro _ _ ⟨rfl, rfl⟩
                      refine xw_y hd0 14 [] rfl trivial ?_
                      refine slX9_was_L101 hd ?_ FU _ _ _ _ _ _ _ _ _ e
                      · intro l6_37 l7_38 l8_39 z40 z41 z42 z43 z44 z45 z46 z47 A48 V49 c50 e
                        rcases ite_ok e with ⟨h51, e⟩ | ⟨h51, e⟩
                        · cases e
                          exact xw_yr hd0 6 [0] rfl ⟨nnt h51, rfl, trivial⟩ ⟨rfl, rfl⟩
                        · rcases ite_ok e with ⟨h52, e⟩ | ⟨h52, e⟩
                          · rcases ite_ok e with ⟨h53, e⟩ | ⟨h53, e⟩
                            · cases e
                              exact xw_yr hd0 11 [1, 0, 0] rfl ⟨nt h51, nnt h52, nnt h53, rfl, trivial⟩ ⟨rfl, rfl⟩
                            · cases e
                              exact xw_yr hd0 11 [1, 0, 1] rfl ⟨nt h51, nnt h52, nt h53, rfl, trivial⟩ ⟨rfl, rfl⟩
                          · cases e
                            exact xw_yr hd0 8 [1, 1] rfl ⟨nt h51, nt h52, rfl, trivial⟩ ⟨rfl, rfl⟩
                    · cases e
                      exact xw_yr hd0 81 [0, 0, 1, 0, 0, 0, 0, 0, 1, 0, 0, 1, 1, 0] rfl ⟨nt h24, nt h25, rfl, rfl, rfl, nt h26, nt h27, rfl, rfl, nt h28, nt h29, rfl, rfl, nt h30, nt h31, rfl, rfl, rfl, h32, decide_eq_true h33, h32, nt h34, rfl, trivial⟩ ⟨rfl, rfl⟩
                  · cases e
                    exact xw_yr hd0 74 [0, 0, 1, 0, 0, 0, 0, 0, 1, 0, 0, 1, 0] rfl ⟨nt h24, nt h25, rfl, rfl, rfl, nt h26, nt h27, rfl, rfl, nt h28, nt h29, rfl, rfl, nt h30, nt h31, rfl, rfl, rfl, h32, nt h33, rfl, trivial⟩ ⟨rfl, rfl⟩
set_option maxRecDepth 20000 in
set_option maxHeartbeats 4000000 in
theorem slX9_parts_L7 {LL : Nat} {xs : Nat → Int32} {tx : List xh_T} {d : Nat}{A V : xM} {cu : Value} {r : Int64} {l1 : Int32} {l2 : Int32} {ex : Int64 → Option (Int64)} (hd : 60 ≤ d) (hex : ∀ (y3 : Int64) (w0 w1 w2 w5 : Option Value), ex y3 = some r → xw (xk_ro LL xs) d xk_198 63 [w0, w1, w2, some (.long y3), none, w5] [] (xh A V tx cu) (qL r (xh A V tx cu))) : ∀ (n : Nat) (l3 : Int64) (l5 : Int32), fX9_parts_L7 l1 l2 A V ex n l3 l5 = some r → xw (xk_ro LL xs) d xk_198 7 [some (.ref 132), some (.int l1), some (.int l2), some (.long l3), none, some (.int l5)] [] (xh A V tx cu) (qL r (xh A V tx cu)) := by
  have hd0 : 60 ≤ d := by omega
  intro n
  induction n with
  | zero =>
    intro l3 l5 e
    rw [fX9_parts_L7] at e
    cases e
  | succ n ih =>
    intro l3 l5 e
    rw [fX9_parts_L7] at e
    rcases ite_ok e with ⟨h1, e⟩ | ⟨h1, e⟩
    · refine xw_y hd0 4 [1] rfl ⟨decide_eq_true h1, trivial⟩ ?_
      exact hex _ _ _ _ _ e
    · rcases ite_ok e with ⟨h2, e⟩ | ⟨h2, e⟩
      · obtain ⟨h3, e⟩ := bC_ok e
        refine xw_y hd0 23 [0, 1] rfl ⟨nt h1, decide_eq_true h2, h3, rfl, trivial⟩ ?_
        exact ih _ _ e
      · obtain ⟨h4, e⟩ := bC_ok e
        rcases ite_ok e with ⟨h5, e⟩ | ⟨h5, e⟩
        · refine xw_y hd0 23 [0, 0, 1] rfl ⟨nt h1, nt h2, h4, decide_eq_true h5, trivial⟩ ?_
          exact ih _ _ e
        · obtain ⟨h6, e⟩ := bC_ok e
          refine xw_y hd0 33 [0, 0, 0] rfl ⟨nt h1, nt h2, h4, nt h5, h6, rfl, trivial⟩ ?_
          exact ih _ _ e
set_option maxRecDepth 20000 in
set_option maxHeartbeats 4000000 in
theorem sX9_parts {LL : Nat} {xs : Nat → Int32} {tx : List xh_T} {d : Nat} {A V : xM} {cu : Value} {r : Int64} {l1 l2 : Int32} (hd : 61 ≤ d) (e : fX9_parts l1 l2 A V = some r) : xe (xk_ro LL xs) d 198 [.ref 132, .int l1, .int l2] (xh A V tx cu) (qL r (xh A V tx cu)) := by
  obtain ⟨d, rfl⟩ : ∃ d1, d = d1 + 1 := ⟨d - 1, by omega⟩
  replace hd : 60 ≤ d := by omega
  have hd0 : 60 ≤ d := by omega
  refine xe_of (co := xk_198) (nl := 6) rfl rfl rfl ?_
  unfold fX9_parts at e
  refine xw_y hd0 4 [] rfl trivial ?_
  refine slX9_parts_L7 hd ?_ FU _ _ e
  · intro l3_7 z8 z9 z10 z11 e
    cases e
    exact xw_yr hd0 3 [] rfl trivial ⟨rfl, rfl⟩
set_option maxRecDepth 20000 in
set_option maxHeartbeats 4000000 in
theorem sX9_lost {LL : Nat} {xs : Nat → Int32} {tx : List xh_T} {d : Nat} {A V : xM} {cu : Value} {r : Int64} {l1 l2 : Int32} (hd : 62 ≤ d) (e : fX9_lost l1 l2 A V = some r) : xe (xk_ro LL xs) d 199 [.ref 132, .int l1, .int l2] (xh A V tx cu) (qL r (xh A V tx cu)) := by
  obtain ⟨d, rfl⟩ : ∃ d1, d = d1 + 1 := ⟨d - 1, by omega⟩
  replace hd : 61 ≤ d := by omega
  have hd0 : 60 ≤ d := by omega
  refine xe_of (co := xk_199) (nl := 3) rfl rfl rfl ?_
  unfold fX9_lost at e
  rcases ite_ok e with ⟨h1, e⟩ | ⟨h1, e⟩
  · cases e
    exact xw_yr hd0 20 [1, 1] rfl ⟨decide_eq_true h1, rfl, rfl, rfl, trivial⟩ ⟨rfl, rfl⟩
  · rcases ite_ok e with ⟨h2, e⟩ | ⟨h2, e⟩
    · cases e
      exact xw_yr hd0 23 [0, 1, 1] rfl ⟨nt h1, decide_eq_true h2, rfl, rfl, rfl, trivial⟩ ⟨rfl, rfl⟩
    · rcases ite_ok e with ⟨h3, e⟩ | ⟨h3, e⟩
      · cases e
        exact xw_yr hd0 32 [0, 0, 0, 1, 1] rfl ⟨nt h1, nt h2, rfl, rfl, rfl, decide_eq_true h3, rfl, rfl, trivial⟩ ⟨rfl, rfl⟩
      · rcases ite_ok e with ⟨h4, e⟩ | ⟨h4, e⟩
        · cases e
          exact xw_yr hd0 38 [0, 0, 0, 0, 1, 1] rfl ⟨nt h1, nt h2, rfl, rfl, rfl, nt h3, decide_eq_true h4, rfl, rfl, trivial⟩ ⟨rfl, rfl⟩
        · refine xw_y hd0 39 [0, 0, 0, 0, 0, 0] rfl ⟨nt h1, nt h2, rfl, rfl, rfl, nt h3, nt h4, rfl, rfl, trivial⟩ ?_
          obtain ⟨x5, e6, e⟩ := bI_ok e
          refine xw_call (k := 198) (j := 3) rfl (fun F => xm_c_ok (y_c_ok rfl) F) rfl rfl rfl (sX9_parts (by omega) e6) ?_
          rintro _ _ ⟨rfl, rfl⟩
          cases e
          exact xw_yr hd0 3 [] rfl trivial ⟨rfl, rfl⟩
set_option maxRecDepth 20000 in
set_option maxHeartbeats 4000000 in
theorem slX9_keep_L38 {LL : Nat} {xs : Nat → Int32} {tx : List xh_T} {d : Nat}{A V : xM} {cu : Value} {r : Int32} {l1 : Int32} {l2 : Int32} {l3 : Int32} {ex : Option (Int32)} (hd : 61 ≤ d) (hex : ∀ (w4 : Option Value), ex  = some r → xw (xk_ro LL xs) d xk_200 84 [some (.ref 132), some (.int l1), some (.int l2), some (.int l3), w4] [] (xh A V tx cu) (qI r (xh A V tx cu))) : ∀ (n : Nat) (l4 : Int32), fX9_keep_L38 l1 l2 l3 A V ex n l4 = some r → xw (xk_ro LL xs) d xk_200 38 [some (.ref 132), some (.int l1), some (.int l2), some (.int l3), some (.int l4)] [] (xh A V tx cu) (qI r (xh A V tx cu)) := by
  have hd0 : 60 ≤ d := by omega
  intro n
  induction n with
  | zero =>
    intro l4 e
    rw [fX9_keep_L38] at e
    cases e
  | succ n ih =>
    intro l4 e
    rw [fX9_keep_L38] at e
    rcases ite_ok e with ⟨h1, e⟩ | ⟨h1, e⟩
    · refine xw_y hd0 6 [1] rfl ⟨decide_eq_true h1, trivial⟩ ?_
      exact hex _ e
    · refine xw_y hd0 7 [0] rfl ⟨nt h1, trivial⟩ ?_
      obtain ⟨x2, e3, e⟩ := bI_ok e
      refine xw_call (k := 167) (j := 1) rfl (fun F => xm_c_ok (y_c_ok rfl) F) rfl rfl rfl (sX9_size (by omega) e3) ?_
      rintro _ _ ⟨rfl, rfl⟩
      rcases ite_ok e with ⟨h4, e⟩ | ⟨h4, e⟩
      · refine xw_y hd0 5 [0] rfl ⟨nnt h4, trivial⟩ ?_
        obtain ⟨x5, e6, e⟩ := bI_ok e
        refine xw_call (k := 198) (j := 3) rfl (fun F => xm_c_ok (y_c_ok rfl) F) rfl rfl rfl (sX9_parts (by omega) e6) ?_
        rintro _ _ ⟨rfl, rfl⟩
        rcases ite_ok e with ⟨h7, e⟩ | ⟨h7, e⟩
        · refine xw_y hd0 8 [1] rfl ⟨decide_eq_true h7, trivial⟩ ?_
          exact ih _ e
        · cases e
          exact xw_yr hd0 9 [0] rfl ⟨nt h7, rfl, trivial⟩ ⟨rfl, rfl⟩
      · refine xw_y hd0 4 [1] rfl ⟨nt h4, trivial⟩ ?_
        exact ih _ e
set_option maxRecDepth 20000 in
set_option maxHeartbeats 4000000 in
theorem slX9_keep_L27 {LL : Nat} {xs : Nat → Int32} {tx : List xh_T} {d : Nat}{A V : xM} {cu : Value} {r : Int32} {l1 : Int32} {l2 : Int32} {ex : Option (Int32)} (hd : 61 ≤ d) (hex : ∀ (w0 w1 w2 w3 w4 : Option Value), ex  = some r → xw (xk_ro LL xs) d xk_200 90 [w0, w1, w2, w3, w4] [] (xh A V tx cu) (qI r (xh A V tx cu))) : ∀ (n : Nat) (l3 : Int32) (z4 : Option Value), fX9_keep_L27 l1 l2 A V ex n l3 = some r → xw (xk_ro LL xs) d xk_200 27 [some (.ref 132), some (.int l1), some (.int l2), some (.int l3), z4] [] (xh A V tx cu) (qI r (xh A V tx cu)) := by
  have hd0 : 60 ≤ d := by omega
  intro n
  induction n with
  | zero =>
    intro l3 z4 e
    rw [fX9_keep_L27] at e
    cases e
  | succ n ih =>
    intro l3 z4 e
    rw [fX9_keep_L27] at e
    rcases ite_ok e with ⟨h8, e⟩ | ⟨h8, e⟩
    · refine xw_y hd0 4 [1] rfl ⟨decide_eq_true h8, trivial⟩ ?_
      exact hex _ _ _ _ _ e
    · refine xw_y hd0 6 [0] rfl ⟨nt h8, trivial⟩ ?_
      refine slX9_keep_L38 hd ?_ FU _ e
      · intro z9 e
        refine xw_y hd0 2 [] rfl trivial ?_
        exact ih _ _ e
set_option maxRecDepth 20000 in
set_option maxHeartbeats 4000000 in
theorem sX9_keep {LL : Nat} {xs : Nat → Int32} {tx : List xh_T} {d : Nat} {A V : xM} {cu : Value} {r : Int32} {l1 l2 : Int32} (hd : 62 ≤ d) (e : fX9_keep l1 l2 A V = some r) : xe (xk_ro LL xs) d 200 [.ref 132, .int l1, .int l2] (xh A V tx cu) (qI r (xh A V tx cu)) := by
  obtain ⟨d, rfl⟩ : ∃ d1, d = d1 + 1 := ⟨d - 1, by omega⟩
  replace hd : 61 ≤ d := by omega
  have hd0 : 60 ≤ d := by omega
  refine xe_of (co := xk_200) (nl := 5) rfl rfl rfl ?_
  unfold fX9_keep at e
  rcases ite_ok e with ⟨h10, e⟩ | ⟨h10, e⟩
  · cases e
    exact xw_yr hd0 20 [1, 0] rfl ⟨decide_eq_true h10, rfl, rfl, rfl, rfl, trivial⟩ ⟨rfl, rfl⟩
  · rcases ite_ok e with ⟨h11, e⟩ | ⟨h11, e⟩
    · cases e
      exact xw_yr hd0 23 [0, 1, 0] rfl ⟨nt h10, decide_eq_true h11, rfl, rfl, rfl, rfl, trivial⟩ ⟨rfl, rfl⟩
    · rcases ite_ok e with ⟨h12, e⟩ | ⟨h12, e⟩
      · cases e
        exact xw_yr hd0 34 [0, 0, 1, 1, 0] rfl ⟨nt h10, nt h11, rfl, rfl, rfl, decide_eq_true h12, rfl, rfl, rfl, trivial⟩ ⟨rfl, rfl⟩
      · rcases ite_ok e with ⟨h13, e⟩ | ⟨h13, e⟩
        · cases e
          exact xw_yr hd0 37 [0, 0, 1, 0, 1, 0] rfl ⟨nt h10, nt h11, rfl, rfl, rfl, nt h12, decide_eq_true h13, rfl, rfl, rfl, trivial⟩ ⟨rfl, rfl⟩
        · refine xw_y hd0 37 [0, 0, 1, 0, 0, 1] rfl ⟨nt h10, nt h11, rfl, rfl, rfl, nt h12, nt h13, rfl, rfl, trivial⟩ ?_
          refine slX9_keep_L27 hd ?_ FU _ _ e
          · intro z14 z15 z16 z17 z18 e
            cases e
            exact xw_yr hd0 3 [] rfl ⟨rfl, trivial⟩ ⟨rfl, rfl⟩
set_option maxRecDepth 20000 in
set_option maxHeartbeats 4000000 in
theorem slX9_rarest_L9 {LL : Nat} {xs : Nat → Int32} {tx : List xh_T} {d : Nat}{A V : xM} {cu : Value} {r : Int32} {ex : Int32 → Option (Int32)} (hd : 61 ≤ d) (hex : ∀ (y1 : Int32) (w0 w2 w3 w4 : Option Value), ex y1 = some r → xw (xk_ro LL xs) d xk_201 47 [w0, some (.int y1), w2, w3, w4] [] (xh A V tx cu) (qI r (xh A V tx cu))) : ∀ (n : Nat) (l1 : Int32) (l2 : Int64) (l4 : Int32), fX9_rarest_L9 A V ex n l1 l2 l4 = some r → xw (xk_ro LL xs) d xk_201 9 [some (.ref 132), some (.int l1), some (.long l2), none, some (.int l4)] [] (xh A V tx cu) (qI r (xh A V tx cu)) := by
  have hd0 : 60 ≤ d := by omega
  intro n
  induction n with
  | zero =>
    intro l1 l2 l4 e
    rw [fX9_rarest_L9] at e
    cases e
  | succ n ih =>
    intro l1 l2 l4 e
    rw [fX9_rarest_L9] at e
    rcases ite_ok e with ⟨h1, e⟩ | ⟨h1, e⟩
    · refine xw_y hd0 4 [1] rfl ⟨decide_eq_true h1, trivial⟩ ?_
      exact hex _ _ _ _ _ e
    · refine xw_y hd0 7 [0] rfl ⟨nt h1, trivial⟩ ?_
      obtain ⟨x2, e3, e⟩ := bI_ok e
      refine xw_call (k := 198) (j := 3) rfl (fun F => xm_c_ok (y_c_ok rfl) F) rfl rfl rfl (sX9_parts (by omega) e3) ?_
      rintro _ _ ⟨rfl, rfl⟩
      rcases ite_ok e with ⟨h4, e⟩ | ⟨h4, e⟩
      · refine xw_y hd0 5 [1] rfl ⟨decide_eq_true h4, trivial⟩ ?_
        exact ih _ _ _ e
      · refine xw_y hd0 6 [0] rfl ⟨nt h4, trivial⟩ ?_
        obtain ⟨x5, e6, e⟩ := bI_ok e
        refine xw_call (k := 198) (j := 3) rfl (fun F => xm_c_ok (y_c_ok rfl) F) rfl rfl rfl (sX9_parts (by omega) e6) ?_
        rintro _ _ ⟨rfl, rfl⟩
        refine xw_y hd0 5 [] rfl trivial ?_
        exact ih _ _ _ e
set_option maxRecDepth 20000 in
set_option maxHeartbeats 4000000 in
theorem sX9_rarest {LL : Nat} {xs : Nat → Int32} {tx : List xh_T} {d : Nat} {A V : xM} {cu : Value} {r : Int32} (hd : 62 ≤ d) (e : fX9_rarest A V = some r) : xe (xk_ro LL xs) d 201 [.ref 132] (xh A V tx cu) (qI r (xh A V tx cu)) := by
  obtain ⟨d, rfl⟩ : ∃ d1, d = d1 + 1 := ⟨d - 1, by omega⟩
  replace hd : 61 ≤ d := by omega
  have hd0 : 60 ≤ d := by omega
  refine xe_of (co := xk_201) (nl := 5) rfl rfl rfl ?_
  unfold fX9_rarest at e
  refine xw_y hd0 6 [] rfl trivial ?_
  refine slX9_rarest_L9 hd ?_ FU _ _ _ e
  · intro l1_7 z8 z9 z10 z11 e
    cases e
    exact xw_yr hd0 3 [] rfl ⟨rfl, trivial⟩ ⟨rfl, rfl⟩
set_option maxRecDepth 20000 in
set_option maxHeartbeats 4000000 in
theorem slX9_draw_L42 {LL : Nat} {xs : Nat → Int32} {tx : List xh_T} {d : Nat}{A V : xM} {cu : Value} {A' V' : xM} {c' : Value} {l2 : Int32} {l3 : Int32} {l4 : Int32} {l7 : Int32} {l8 : Int32} {ex : Int64 → Int32 → Option (xS)} (hd : 64 ≤ d) (hex : ∀ (y5 : Int64) (y9 : Int32) (w1 w10 : Option Value), ex y5 y9 = some (A', V', c') → xw (xk_ro LL xs) d xk_202 103 [some (.ref 132), w1, some (.int l2), some (.int l3), some (.int l4), some (.long y5), none, some (.int l7), some (.int l8), some (.int y9), w10] [] (xh A V tx cu) (qU (xh A' V' tx c'))) : ∀ (n : Nat) (l5 : Int64) (l9 : Int32) (l10 : Int32) (z1 : Option Value), fX9_draw_L42 l2 l3 l4 l7 l8 A V cu ex n l5 l9 l10 = some (A', V', c') → xw (xk_ro LL xs) d xk_202 42 [some (.ref 132), z1, some (.int l2), some (.int l3), some (.int l4), some (.long l5), none, some (.int l7), some (.int l8), some (.int l9), some (.int l10)] [] (xh A V tx cu) (qU (xh A' V' tx c')) := by
  have hd0 : 60 ≤ d := by omega
  intro n
  induction n with
  | zero =>
    intro l5 l9 l10 z1 e
    rw [fX9_draw_L42] at e
    cases e
  | succ n ih =>
    intro l5 l9 l10 z1 e
    rw [fX9_draw_L42] at e
    rcases ite_ok e with ⟨h1, e⟩ | ⟨h1, e⟩
    · refine xw_y hd0 4 [1] rfl ⟨decide_eq_true h1, trivial⟩ ?_
      exact hex _ _ _ _ e
    · rcases ite_ok e with ⟨h2, e⟩ | ⟨h2, e⟩
      · refine xw_y hd0 17 [0, 0] rfl ⟨nt h1, rfl, rfl, nnt h2, trivial⟩ ?_
        obtain ⟨x3, e4, e⟩ := bI_ok e
        refine xw_call (k := 167) (j := 1) rfl (fun F => xm_c_ok (y_c_ok rfl) F) rfl rfl rfl (sX9_size (by omega) e4) ?_
        rintro _ _ ⟨rfl, rfl⟩
        obtain ⟨h5, e⟩ := bC_ok e
        rcases ite_ok e with ⟨h6, e⟩ | ⟨h6, e⟩
        · refine xw_y hd0 7 [1] rfl ⟨h5, decide_eq_true h6, trivial⟩ ?_
          exact ih _ _ _ _ e
        · refine xw_y hd0 13 [0] rfl ⟨h5, nt h6, trivial⟩ ?_
          exact ih _ _ _ _ e
      · refine xw_y hd0 18 [0, 1] rfl ⟨nt h1, rfl, rfl, nt h2, trivial⟩ ?_
        exact ih _ _ _ _ e
set_option maxRecDepth 20000 in
set_option maxHeartbeats 4000000 in
theorem slX9_draw_L29 {LL : Nat} {xs : Nat → Int32} {tx : List xh_T} {d : Nat} {A' V' : xM} {c' : Value} {l2 : Int32} {l3 : Int32} {l4 : Int32} {l7 : Int32} {ex : xM → xM → Value → Option (xS)} (hd : 64 ≤ d) (hex : ∀ (w0 w1 w2 w3 w4 w5 w6 w7 w8 w9 w10 : Option Value) (A V : xM) (cu : Value), ex  A V cu = some (A', V', c') → xw (xk_ro LL xs) d xk_202 127 [w0, w1, w2, w3, w4, w5, w6, w7, w8, w9, w10] [] (xh A V tx cu) (qU (xh A' V' tx c'))) : ∀ (n : Nat) (l5 : Int64) (l8 : Int32) (z1 z9 z10 : Option Value) (A V : xM) (cu : Value), fX9_draw_L29 l2 l3 l4 l7 ex n l5 l8 A V cu = some (A', V', c') → xw (xk_ro LL xs) d xk_202 29 [some (.ref 132), z1, some (.int l2), some (.int l3), some (.int l4), some (.long l5), none, some (.int l7), some (.int l8), z9, z10] [] (xh A V tx cu) (qU (xh A' V' tx c')) := by
  have hd0 : 60 ≤ d := by omega
  intro n
  induction n with
  | zero =>
    intro l5 l8 z1 z9 z10 A V cu e
    rw [fX9_draw_L29] at e
    cases e
  | succ n ih =>
    intro l5 l8 z1 z9 z10 A V cu e
    rw [fX9_draw_L29] at e
    rcases ite_ok e with ⟨h7, e⟩ | ⟨h7, e⟩
    · refine xw_y hd0 3 [1] rfl ⟨decide_eq_true h7, trivial⟩ ?_
      exact hex _ _ _ _ _ _ _ _ _ _ _ _ _ _ e
    · refine xw_y hd0 7 [0] rfl ⟨nt h7, trivial⟩ ?_
      refine slX9_draw_L42 hd ?_ FU _ _ _ _ e
      · intro l5_8 l9_9 z10 z11 e
        refine xw_y hd0 9 [] rfl trivial ?_
        obtain ⟨x12, A13, V14, c15, e16, e⟩ := bX_ok e
        refine xw_call (k := 170) (j := 8) rfl (fun F => xm_c_ok (y_c_ok rfl) F) rfl rfl rfl (sX9_begin (by omega) e16) ?_
        rintro _ _ ⟨rfl, rfl⟩
        refine xw_y hd0 3 [] rfl trivial ?_
        exact ih _ _ _ _ _ _ _ _ e
set_option maxRecDepth 20000 in
set_option maxHeartbeats 4000000 in
theorem sX9_draw {LL : Nat} {xs : Nat → Int32} {tx : List xh_T} {d : Nat} {A V : xM} {cu : Value} {A' V' : xM} {c' : Value} {l1 l2 l3 l4 : Int32} (hd : 65 ≤ d) (e : fX9_draw l1 l2 l3 l4 A V cu = some (A', V', c')) : xe (xk_ro LL xs) d 202 [.ref 132, .int l1, .int l2, .int l3, .int l4] (xh A V tx cu) (qU (xh A' V' tx c')) := by
  obtain ⟨d, rfl⟩ : ∃ d1, d = d1 + 1 := ⟨d - 1, by omega⟩
  replace hd : 64 ≤ d := by omega
  have hd0 : 60 ≤ d := by omega
  refine xe_of (co := xk_202) (nl := 11) rfl rfl rfl ?_
  unfold fX9_draw at e
  refine xw_y hd0 9 [] rfl trivial ?_
  obtain ⟨x17, e18, e⟩ := bI_ok e
  refine xw_call (k := 171) (j := 3) rfl (fun F => xm_c_ok (y_c_ok rfl) F) rfl rfl rfl (sX9_whoHas_139 (by omega) e18) ?_
  rintro _ _ ⟨rfl, rfl⟩
  refine xw_y hd0 5 [] rfl trivial ?_
  obtain ⟨A20, V21, c22, e23, e⟩ := bS_ok e
  refine xw_call (k := 172) (j := 3) rfl (fun F => xm_c_ok (y_c_ok rfl) F) rfl rfl rfl (sX9_take_139 (by omega) e23) ?_
  rintro _ _ ⟨rfl, rfl⟩
  refine xw_y hd0 2 [] rfl trivial ?_
  refine slX9_draw_L29 hd ?_ FU _ _ _ _ _ _ _ _ e
  · intro z24 z25 z26 z27 z28 z29 z30 z31 z32 z33 z34 A35 V36 c37 e
    cases e
    exact xw_yr hd0 2 [] rfl trivial ⟨rfl, rfl⟩
set_option maxRecDepth 20000 in
set_option maxHeartbeats 4000000 in
theorem slX9_drawn_L62 {LL : Nat} {xs : Nat → Int32} {tx : List xh_T} {d : Nat}{A V : xM} {cu : Value} {A' V' : xM} {c' : Value} {r : Int32} {l4 : Int32} {ex : Int32 → Option (Int32 × xS)} (hd : 65 ≤ d) (hex : ∀ (y5 : Int32) (w0 w1 w2 w3 w4 w6 : Option Value), ex y5 = some (r, A', V', c') → xw (xk_ro LL xs) d xk_204 105 [w0, w1, w2, w3, w4, some (.int y5), w6] [] (xh A V tx cu) (qI r (xh A' V' tx c'))) : ∀ (n : Nat) (l5 : Int32) (l6 : Int32) (z1 z2 z3 : Option Value), fX9_drawn_L62 l4 A V cu ex n l5 l6 = some (r, A', V', c') → xw (xk_ro LL xs) d xk_204 62 [some (.ref 132), z1, z2, z3, some (.int l4), some (.int l5), some (.int l6)] [] (xh A V tx cu) (qI r (xh A' V' tx c')) := by
  have hd0 : 60 ≤ d := by omega
  intro n
  induction n with
  | zero =>
    intro l5 l6 z1 z2 z3 e
    rw [fX9_drawn_L62] at e
    cases e
  | succ n ih =>
    intro l5 l6 z1 z2 z3 e
    rw [fX9_drawn_L62] at e
    rcases ite_ok e with ⟨h1, e⟩ | ⟨h1, e⟩
    · refine xw_y hd0 4 [1] rfl ⟨decide_eq_true h1, trivial⟩ ?_
      exact hex _ _ _ _ _ _ _ e
    · obtain ⟨h2, e⟩ := bC_ok e
      refine xw_y hd0 10 [0] rfl ⟨nt h1, h2, trivial⟩ ?_
      obtain ⟨x3, e4, e⟩ := bI_ok e
      refine xw_call (k := 178) (j := 2) rfl (fun F => xm_c_ok (y_c_ok rfl) F) rfl rfl rfl (sX9_isSo (by omega) e4) ?_
      rintro _ _ ⟨rfl, rfl⟩
      rcases ite_ok e with ⟨h5, e⟩ | ⟨h5, e⟩
      · refine xw_y hd0 6 [1] rfl ⟨decide_eq_true h5, trivial⟩ ?_
        exact ih _ _ _ _ _ e
      · refine xw_y hd0 9 [0] rfl ⟨nt h5, trivial⟩ ?_
        exact ih _ _ _ _ _ e
set_option maxRecDepth 20000 in
set_option maxHeartbeats 4000000 in
theorem sX9_drawn {LL : Nat} {xs : Nat → Int32} {tx : List xh_T} {d : Nat} {A V : xM} {cu : Value} {A' V' : xM} {c' : Value} {r : Int32} {l1 l2 l3 l4 : Int32} (hd : 66 ≤ d) (e : fX9_drawn l1 l2 l3 l4 A V cu = some (r, A', V', c')) : xe (xk_ro LL xs) d 204 [.ref 132, .int l1, .int l2, .int l3, .int l4] (xh A V tx cu) (qI r (xh A' V' tx c')) := by
  obtain ⟨d, rfl⟩ : ∃ d1, d = d1 + 1 := ⟨d - 1, by omega⟩
  replace hd : 65 ≤ d := by omega
  have hd0 : 60 ≤ d := by omega
  refine xe_of (co := xk_204) (nl := 7) rfl rfl rfl ?_
  unfold fX9_drawn at e
  rcases ite_ok e with ⟨h6, e⟩ | ⟨h6, e⟩
  · cases e
    exact xw_yr hd0 20 [1, 0] rfl ⟨decide_eq_true h6, rfl, rfl, rfl, rfl, trivial⟩ ⟨rfl, rfl⟩
  · rcases ite_ok e with ⟨h7, e⟩ | ⟨h7, e⟩
    · cases e
      exact xw_yr hd0 23 [0, 1, 0] rfl ⟨nt h6, decide_eq_true h7, rfl, rfl, rfl, rfl, trivial⟩ ⟨rfl, rfl⟩
    · rcases ite_ok e with ⟨h8, e⟩ | ⟨h8, e⟩
      · cases e
        exact xw_yr hd0 34 [0, 0, 1, 1, 1] rfl ⟨nt h6, nt h7, rfl, rfl, rfl, decide_eq_true h8, rfl, rfl, rfl, trivial⟩ ⟨rfl, rfl⟩
      · rcases ite_ok e with ⟨h9, e⟩ | ⟨h9, e⟩
        · cases e
          exact xw_yr hd0 37 [0, 0, 1, 0, 1, 1] rfl ⟨nt h6, nt h7, rfl, rfl, rfl, nt h8, decide_eq_true h9, rfl, rfl, rfl, trivial⟩ ⟨rfl, rfl⟩
        · rcases ite_ok e with ⟨h10, e⟩ | ⟨h10, e⟩
          · cases e
            exact xw_yr hd0 53 [0, 0, 1, 0, 0, 0, 1, 1, 1] rfl ⟨nt h6, nt h7, rfl, rfl, rfl, nt h8, nt h9, rfl, rfl, decide_eq_true h10, rfl, rfl, rfl, rfl, rfl, trivial⟩ ⟨rfl, rfl⟩
          · rcases ite_ok e with ⟨h11, e⟩ | ⟨h11, e⟩
            · cases e
              exact xw_yr hd0 56 [0, 0, 1, 0, 0, 0, 0, 1, 1, 1] rfl ⟨nt h6, nt h7, rfl, rfl, rfl, nt h8, nt h9, rfl, rfl, nt h10, decide_eq_true h11, rfl, rfl, rfl, rfl, rfl, trivial⟩ ⟨rfl, rfl⟩
            · rcases ite_ok e with ⟨h12, e⟩ | ⟨h12, e⟩
              · cases e
                exact xw_yr hd0 62 [0, 0, 1, 0, 0, 0, 0, 0, 0, 1, 1] rfl ⟨nt h6, nt h7, rfl, rfl, rfl, nt h8, nt h9, rfl, rfl, nt h10, nt h11, rfl, rfl, rfl, decide_eq_true h12, rfl, rfl, rfl, trivial⟩ ⟨rfl, rfl⟩
              · rcases ite_ok e with ⟨h13, e⟩ | ⟨h13, e⟩
                · cases e
                  exact xw_yr hd0 73 [0, 0, 1, 0, 0, 0, 0, 0, 0, 0, 0, 1, 0] rfl ⟨nt h6, nt h7, rfl, rfl, rfl, nt h8, nt h9, rfl, rfl, nt h10, nt h11, rfl, rfl, rfl, nt h12, rfl, rfl, decide_eq_true h13, rfl, rfl, rfl, trivial⟩ ⟨rfl, rfl⟩
                · rcases ite_ok e with ⟨h14, e⟩ | ⟨h14, e⟩
                  · cases e
                    exact xw_yr hd0 76 [0, 0, 1, 0, 0, 0, 0, 0, 0, 0, 0, 0, 1, 0] rfl ⟨nt h6, nt h7, rfl, rfl, rfl, nt h8, nt h9, rfl, rfl, nt h10, nt h11, rfl, rfl, rfl, nt h12, rfl, rfl, nt h13, decide_eq_true h14, rfl, rfl, rfl, trivial⟩ ⟨rfl, rfl⟩
                  · refine xw_y hd0 83 [0, 0, 1, 0, 0, 0, 0, 0, 0, 0, 0, 0, 0, 1] rfl ⟨nt h6, nt h7, rfl, rfl, rfl, nt h8, nt h9, rfl, rfl, nt h10, nt h11, rfl, rfl, rfl, nt h12, rfl, rfl, nt h13, nt h14, rfl, rfl, rfl, rfl, trivial⟩ ?_
                    obtain ⟨A16, V17, c18, e19, e⟩ := bS_ok e
                    refine xw_call (k := 202) (j := 5) rfl (fun F => xm_c_ok (y_c_ok rfl) F) rfl rfl rfl (sX9_draw (by omega) e19) ?_
                    rintro _ _ ⟨rfl, rfl⟩
                    refine xw_y hd0 4 [] rfl trivial ?_
                    refine slX9_drawn_L62 hd ?_ FU _ _ _ _ _ e
                    · intro l5_20 z21 z22 z23 z24 z25 z26 e
                      cases e
                      exact xw_yr hd0 3 [] rfl ⟨rfl, trivial⟩ ⟨rfl, rfl⟩
set_option maxRecDepth 20000 in
set_option maxHeartbeats 4000000 in
theorem slX9_divisor_L4 {LL : Nat} {xs : Nat → Int32} {tx : List xh_T} {d : Nat}{A V : xM} {cu : Value} {r : Int32} {l1 : Int32} {ex : Int32 → Option (Int32)} (hd : 60 ≤ d) (hex : ∀ (y2 : Int32) (w0 w1 w3 w4 : Option Value), ex y2 = some r → xw (xk_ro LL xs) d xk_205 21 [w0, w1, some (.int y2), w3, w4] [] (xh A V tx cu) (qI r (xh A V tx cu))) : ∀ (n : Nat) (l2 : Int32) (l3 : Int32) (z0 z4 : Option Value), fX9_divisor_L4 A V ex n l2 l3 = some r → xw (xk_ro LL xs) d xk_205 4 [z0, some (.int l1), some (.int l2), some (.int l3), z4] [] (xh A V tx cu) (qI r (xh A V tx cu)) := by
  have hd0 : 60 ≤ d := by omega
  intro n
  induction n with
  | zero =>
    intro l2 l3 z0 z4 e
    rw [fX9_divisor_L4] at e
    cases e
  | succ n ih =>
    intro l2 l3 z0 z4 e
    rw [fX9_divisor_L4] at e
    rcases ite_ok e with ⟨h1, e⟩ | ⟨h1, e⟩
    · refine xw_y hd0 2 [1] rfl ⟨decide_eq_true h1, trivial⟩ ?_
      exact hex _ _ _ _ _ e
    · obtain ⟨h2, e⟩ := bC_ok e
      refine xw_y hd0 11 [0] rfl ⟨nt h1, h2, trivial⟩ ?_
      exact ih _ _ _ _ e
set_option maxRecDepth 20000 in
set_option maxHeartbeats 4000000 in
theorem sX9_divisor {LL : Nat} {xs : Nat → Int32} {tx : List xh_T} {d : Nat} {A V : xM} {cu : Value} {r : Int32} {l0 l1 : Int32} (hd : 61 ≤ d) (e : fX9_divisor l0 l1 A V = some r) : xe (xk_ro LL xs) d 205 [.int l0, .int l1] (xh A V tx cu) (qI r (xh A V tx cu)) := by
  obtain ⟨d, rfl⟩ : ∃ d1, d = d1 + 1 := ⟨d - 1, by omega⟩
  replace hd : 60 ≤ d := by omega
  have hd0 : 60 ≤ d := by omega
  refine xe_of (co := xk_205) (nl := 5) rfl rfl rfl ?_
  unfold fX9_divisor at e
  refine xw_y hd0 4 [] rfl trivial ?_
  refine slX9_divisor_L4 hd ?_ FU _ _ _ _ e
  · intro l2_3 z4 z5 z6 z7 e
    cases e
    exact xw_yr hd0 3 [] rfl ⟨rfl, trivial⟩ ⟨rfl, rfl⟩
set_option maxRecDepth 20000 in
set_option maxHeartbeats 4000000 in
theorem slX9_odds_L79 {LL : Nat} {xs : Nat → Int32} {tx : List xh_T} {d : Nat} {A' V' : xM} {c' : Value} {r : Int64} {l1 : Int32} {l2 : Int32} {l3 : Int32} {l4 : Int32} {l5 : Int32} {l6 : Int32} {ex : Int32 → xM → xM → Value → Option (Int64 × xS)} (hd : 65 ≤ d) (hex : ∀ (y7 : Int32) (w0 w1 w2 w3 w4 w8 : Option Value) (A V : xM) (cu : Value), ex y7 A V cu = some (r, A', V', c') → xw (xk_ro LL xs) d xk_206 134 [w0, w1, w2, w3, w4, some (.int l5), some (.int l6), some (.int y7), w8] [] (xh A V tx cu) (qL r (xh A' V' tx c'))) : ∀ (n : Nat) (l7 : Int32) (l8 : Int32) (A V : xM) (cu : Value), fX9_odds_L79 l1 l2 l3 l4 l5 l6 ex n l7 l8 A V cu = some (r, A', V', c') → xw (xk_ro LL xs) d xk_206 79 [some (.ref 132), some (.int l1), some (.int l2), some (.int l3), some (.int l4), some (.int l5), some (.int l6), some (.int l7), some (.int l8)] [] (xh A V tx cu) (qL r (xh A' V' tx c')) := by
  have hd0 : 60 ≤ d := by omega
  intro n
  induction n with
  | zero =>
    intro l7 l8 A V cu e
    rw [fX9_odds_L79] at e
    cases e
  | succ n ih =>
    intro l7 l8 A V cu e
    rw [fX9_odds_L79] at e
    rcases ite_ok e with ⟨h1, e⟩ | ⟨h1, e⟩
    · refine xw_y hd0 3 [1] rfl ⟨decide_eq_true h1, trivial⟩ ?_
      exact hex _ _ _ _ _ _ _ _ _ _ e
    · refine xw_y hd0 14 [0] rfl ⟨nt h1, rfl, rfl, trivial⟩ ?_
      obtain ⟨A3, V4, c5, e6, e⟩ := bS_ok e
      refine xw_call (k := 202) (j := 5) rfl (fun F => xm_c_ok (y_c_ok rfl) F) rfl rfl rfl (sX9_draw (by omega) e6) ?_
      rintro _ _ ⟨rfl, rfl⟩
      obtain ⟨h7, e⟩ := bC_ok e
      rcases ite_ok e with ⟨h8, e⟩ | ⟨h8, e⟩
      · refine xw_y hd0 14 [1] rfl ⟨rfl, h7, decide_eq_true h8, trivial⟩ ?_
        exact ih _ _ _ _ _ e
      · refine xw_y hd0 15 [0] rfl ⟨rfl, h7, nt h8, trivial⟩ ?_
        exact ih _ _ _ _ _ e
set_option maxRecDepth 20000 in
set_option maxHeartbeats 4000000 in
theorem sX9_odds {LL : Nat} {xs : Nat → Int32} {tx : List xh_T} {d : Nat} {A V : xM} {cu : Value} {A' V' : xM} {c' : Value} {r : Int64} {l1 l2 l3 l4 l5 : Int32} (hd : 66 ≤ d) (e : fX9_odds l1 l2 l3 l4 l5 A V cu = some (r, A', V', c')) : xe (xk_ro LL xs) d 206 [.ref 132, .int l1, .int l2, .int l3, .int l4, .int l5] (xh A V tx cu) (qL r (xh A' V' tx c')) := by
  obtain ⟨d, rfl⟩ : ∃ d1, d = d1 + 1 := ⟨d - 1, by omega⟩
  replace hd : 65 ≤ d := by omega
  have hd0 : 60 ≤ d := by omega
  refine xe_of (co := xk_206) (nl := 9) rfl rfl rfl ?_
  unfold fX9_odds at e
  rcases ite_ok e with ⟨h9, e⟩ | ⟨h9, e⟩
  · cases e
    exact xw_yr hd0 9 [1] rfl ⟨rfl, decide_eq_true h9, trivial⟩ ⟨rfl, rfl⟩
  · rcases ite_ok e with ⟨h10, e⟩ | ⟨h10, e⟩
    · cases e
      exact xw_yr hd0 28 [0, 1, 1] rfl ⟨rfl, nt h9, rfl, decide_eq_true h10, rfl, rfl, rfl, trivial⟩ ⟨rfl, rfl⟩
    · rcases ite_ok e with ⟨h11, e⟩ | ⟨h11, e⟩
      · cases e
        exact xw_yr hd0 31 [0, 0, 1, 1] rfl ⟨rfl, nt h9, rfl, nt h10, decide_eq_true h11, rfl, rfl, rfl, trivial⟩ ⟨rfl, rfl⟩
      · rcases ite_ok e with ⟨h12, e⟩ | ⟨h12, e⟩
        · cases e
          exact xw_yr hd0 42 [0, 0, 0, 0, 1, 1] rfl ⟨rfl, nt h9, rfl, nt h10, nt h11, rfl, rfl, rfl, decide_eq_true h12, rfl, rfl, trivial⟩ ⟨rfl, rfl⟩
        · rcases ite_ok e with ⟨h13, e⟩ | ⟨h13, e⟩
          · cases e
            exact xw_yr hd0 45 [0, 0, 0, 0, 0, 1, 1] rfl ⟨rfl, nt h9, rfl, nt h10, nt h11, rfl, rfl, rfl, nt h12, decide_eq_true h13, rfl, rfl, trivial⟩ ⟨rfl, rfl⟩
          · rcases ite_ok e with ⟨h14, e⟩ | ⟨h14, e⟩
            · cases e
              exact xw_yr hd0 56 [0, 0, 0, 0, 0, 0, 0, 1, 1] rfl ⟨rfl, nt h9, rfl, nt h10, nt h11, rfl, rfl, rfl, nt h12, nt h13, rfl, rfl, decide_eq_true h14, rfl, rfl, trivial⟩ ⟨rfl, rfl⟩
            · rcases ite_ok e with ⟨h15, e⟩ | ⟨h15, e⟩
              · cases e
                exact xw_yr hd0 59 [0, 0, 0, 0, 0, 0, 0, 0, 1, 1] rfl ⟨rfl, nt h9, rfl, nt h10, nt h11, rfl, rfl, rfl, nt h12, nt h13, rfl, rfl, nt h14, decide_eq_true h15, rfl, rfl, trivial⟩ ⟨rfl, rfl⟩
              · rcases ite_ok e with ⟨h16, e⟩ | ⟨h16, e⟩
                · cases e
                  exact xw_yr hd0 77 [0, 0, 0, 0, 0, 0, 0, 0, 0, 0, 1, 1] rfl ⟨rfl, nt h9, rfl, nt h10, nt h11, rfl, rfl, rfl, nt h12, nt h13, rfl, rfl, nt h14, nt h15, rfl, rfl, decide_eq_true h16, rfl, rfl, rfl, trivial⟩ ⟨rfl, rfl⟩
                · rcases ite_ok e with ⟨h17, e⟩ | ⟨h17, e⟩
                  · cases e
                    exact xw_yr hd0 80 [0, 0, 0, 0, 0, 0, 0, 0, 0, 0, 0, 1, 1] rfl ⟨rfl, nt h9, rfl, nt h10, nt h11, rfl, rfl, rfl, nt h12, nt h13, rfl, rfl, nt h14, nt h15, rfl, rfl, nt h16, decide_eq_true h17, rfl, rfl, rfl, trivial⟩ ⟨rfl, rfl⟩
                  · rcases ite_ok e with ⟨h18, e⟩ | ⟨h18, e⟩
                    · cases e
                      exact xw_yr hd0 96 [0, 0, 0, 0, 0, 0, 0, 0, 0, 0, 0, 0, 0, 1, 1, 1] rfl ⟨rfl, nt h9, rfl, nt h10, nt h11, rfl, rfl, rfl, nt h12, nt h13, rfl, rfl, nt h14, nt h15, rfl, rfl, nt h16, nt h17, rfl, rfl, rfl, decide_eq_true h18, rfl, rfl, rfl, rfl, trivial⟩ ⟨rfl, rfl⟩
                    · rcases ite_ok e with ⟨h19, e⟩ | ⟨h19, e⟩
                      · cases e
                        exact xw_yr hd0 99 [0, 0, 0, 0, 0, 0, 0, 0, 0, 0, 0, 0, 0, 0, 1, 1, 1] rfl ⟨rfl, nt h9, rfl, nt h10, nt h11, rfl, rfl, rfl, nt h12, nt h13, rfl, rfl, nt h14, nt h15, rfl, rfl, nt h16, nt h17, rfl, rfl, rfl, nt h18, decide_eq_true h19, rfl, rfl, rfl, rfl, trivial⟩ ⟨rfl, rfl⟩
                      · rcases ite_ok e with ⟨h20, e⟩ | ⟨h20, e⟩
                        · cases e
                          exact xw_yr hd0 105 [0, 0, 0, 0, 0, 0, 0, 0, 0, 0, 0, 0, 0, 0, 0, 0, 1, 1] rfl ⟨rfl, nt h9, rfl, nt h10, nt h11, rfl, rfl, rfl, nt h12, nt h13, rfl, rfl, nt h14, nt h15, rfl, rfl, nt h16, nt h17, rfl, rfl, rfl, nt h18, nt h19, rfl, rfl, rfl, decide_eq_true h20, rfl, rfl, trivial⟩ ⟨rfl, rfl⟩
                        · rcases ite_ok e with ⟨h21, e⟩ | ⟨h21, e⟩
                          · cases e
                            exact xw_yr hd0 116 [0, 0, 0, 0, 0, 0, 0, 0, 0, 0, 0, 0, 0, 0, 0, 0, 0, 0, 1, 0] rfl ⟨rfl, nt h9, rfl, nt h10, nt h11, rfl, rfl, rfl, nt h12, nt h13, rfl, rfl, nt h14, nt h15, rfl, rfl, nt h16, nt h17, rfl, rfl, rfl, nt h18, nt h19, rfl, rfl, rfl, nt h20, rfl, rfl, decide_eq_true h21, rfl, rfl, trivial⟩ ⟨rfl, rfl⟩
                          · rcases ite_ok e with ⟨h22, e⟩ | ⟨h22, e⟩
                            · cases e
                              exact xw_yr hd0 119 [0, 0, 0, 0, 0, 0, 0, 0, 0, 0, 0, 0, 0, 0, 0, 0, 0, 0, 0, 1, 0] rfl ⟨rfl, nt h9, rfl, nt h10, nt h11, rfl, rfl, rfl, nt h12, nt h13, rfl, rfl, nt h14, nt h15, rfl, rfl, nt h16, nt h17, rfl, rfl, rfl, nt h18, nt h19, rfl, rfl, rfl, nt h20, rfl, rfl, nt h21, decide_eq_true h22, rfl, rfl, trivial⟩ ⟨rfl, rfl⟩
                            · refine xw_y hd0 121 [0, 0, 0, 0, 0, 0, 0, 0, 0, 0, 0, 0, 0, 0, 0, 0, 0, 0, 0, 0, 1] rfl ⟨rfl, nt h9, rfl, nt h10, nt h11, rfl, rfl, rfl, nt h12, nt h13, rfl, rfl, nt h14, nt h15, rfl, rfl, nt h16, nt h17, rfl, rfl, rfl, nt h18, nt h19, rfl, rfl, rfl, nt h20, rfl, rfl, nt h21, nt h22, rfl, rfl, trivial⟩ ?_
                              refine slX9_odds_L79 hd ?_ FU _ _ _ _ _ e
                              · intro l7_23 z24 z25 z26 z27 z28 z29 A30 V31 c32 e
                                refine xw_y hd0 2 [] rfl trivial ?_
                                obtain ⟨x33, e34, e⟩ := bI_ok e
                                refine xw_call (k := 205) (j := 2) rfl (fun F => xm_c_ok (y_c_ok rfl) F) rfl rfl rfl (sX9_divisor (by omega) e34) ?_
                                rintro _ _ ⟨rfl, rfl⟩
                                rcases ite_ok e with ⟨h35, e⟩ | ⟨h35, e⟩
                                · obtain ⟨h36, e⟩ := bC_ok e
                                  cases e
                                  exact xw_yr hd0 10 [0] rfl ⟨nnt h35, h36, trivial⟩ ⟨rfl, rfl⟩
                                · obtain ⟨h37, e⟩ := bC_ok e
                                  cases e
                                  exact xw_yr hd0 9 [1] rfl ⟨nt h35, h37, trivial⟩ ⟨rfl, rfl⟩
set_option maxRecDepth 20000 in
set_option maxHeartbeats 4000000 in
theorem slX9_copy_L2_133_157 {LL : Nat} {xs : Nat → Int32} {tx : List xh_T} {d : Nat} {A' V' : xM} {c' : Value} {ex : xM → xM → Value → Option (xS)} (hd : 60 ≤ d) (hex : ∀ (w0 w1 w2 : Option Value) (A V : xM) (cu : Value), ex  A V cu = some (A', V', c') → xw (xk_ro LL xs) d xk_207 20 [w0, w1, w2] [] (xh A V tx cu) (qU (xh A' V' tx c'))) : ∀ (n : Nat) (l2 : Int32) (A V : xM) (cu : Value), fX9_copy_L2 133 157 ex n l2 A V cu = some (A', V', c') → xw (xk_ro LL xs) d xk_207 2 [some (.ref 133), some (.ref 157), some (.int l2)] [] (xh A V tx cu) (qU (xh A' V' tx c')) := by
  have hd0 : 60 ≤ d := by omega
  intro n
  induction n with
  | zero =>
    intro l2 A V cu e
    rw [fX9_copy_L2] at e
    cases e
  | succ n ih =>
    intro l2 A V cu e
    rw [fX9_copy_L2] at e
    rcases ite_ok e with ⟨h1, e⟩ | ⟨h1, e⟩
    · refine xw_y hd0 4 [1] rfl ⟨decide_eq_true h1, trivial⟩ ?_
      exact hex _ _ _ _ _ _ e
    · obtain ⟨h2, e⟩ := bC_ok e
      obtain ⟨h3, e⟩ := bC_ok e
      refine xw_y hd0 12 [0] rfl ⟨nt h1, h2, h3, trivial⟩ ?_
      exact ih _ _ _ _ e
set_option maxRecDepth 20000 in
set_option maxHeartbeats 4000000 in
theorem sX9_copy_133_157 {LL : Nat} {xs : Nat → Int32} {tx : List xh_T} {d : Nat} {A V : xM} {cu : Value} {A' V' : xM} {c' : Value} (hd : 61 ≤ d) (e : fX9_copy 133 157 A V cu = some (A', V', c')) : xe (xk_ro LL xs) d 207 [.ref 133, .ref 157] (xh A V tx cu) (qU (xh A' V' tx c')) := by
  obtain ⟨d, rfl⟩ : ∃ d1, d = d1 + 1 := ⟨d - 1, by omega⟩
  replace hd : 60 ≤ d := by omega
  have hd0 : 60 ≤ d := by omega
  refine xe_of (co := xk_207) (nl := 3) rfl rfl rfl ?_
  unfold fX9_copy at e
  refine xw_y hd0 2 [] rfl trivial ?_
  refine slX9_copy_L2_133_157 hd ?_ FU _ _ _ _ e
  · intro z4 z5 z6 A7 V8 c9 e
    cases e
    exact xw_yr hd0 2 [] rfl trivial ⟨rfl, rfl⟩
set_option maxRecDepth 20000 in
set_option maxHeartbeats 4000000 in
theorem slX9_copy_L2_134_158 {LL : Nat} {xs : Nat → Int32} {tx : List xh_T} {d : Nat} {A' V' : xM} {c' : Value} {ex : xM → xM → Value → Option (xS)} (hd : 60 ≤ d) (hex : ∀ (w0 w1 w2 : Option Value) (A V : xM) (cu : Value), ex  A V cu = some (A', V', c') → xw (xk_ro LL xs) d xk_207 20 [w0, w1, w2] [] (xh A V tx cu) (qU (xh A' V' tx c'))) : ∀ (n : Nat) (l2 : Int32) (A V : xM) (cu : Value), fX9_copy_L2 134 158 ex n l2 A V cu = some (A', V', c') → xw (xk_ro LL xs) d xk_207 2 [some (.ref 134), some (.ref 158), some (.int l2)] [] (xh A V tx cu) (qU (xh A' V' tx c')) := by
  have hd0 : 60 ≤ d := by omega
  intro n
  induction n with
  | zero =>
    intro l2 A V cu e
    rw [fX9_copy_L2] at e
    cases e
  | succ n ih =>
    intro l2 A V cu e
    rw [fX9_copy_L2] at e
    rcases ite_ok e with ⟨h1, e⟩ | ⟨h1, e⟩
    · refine xw_y hd0 4 [1] rfl ⟨decide_eq_true h1, trivial⟩ ?_
      exact hex _ _ _ _ _ _ e
    · obtain ⟨h2, e⟩ := bC_ok e
      obtain ⟨h3, e⟩ := bC_ok e
      refine xw_y hd0 12 [0] rfl ⟨nt h1, h2, h3, trivial⟩ ?_
      exact ih _ _ _ _ e
set_option maxRecDepth 20000 in
set_option maxHeartbeats 4000000 in
theorem sX9_copy_134_158 {LL : Nat} {xs : Nat → Int32} {tx : List xh_T} {d : Nat} {A V : xM} {cu : Value} {A' V' : xM} {c' : Value} (hd : 61 ≤ d) (e : fX9_copy 134 158 A V cu = some (A', V', c')) : xe (xk_ro LL xs) d 207 [.ref 134, .ref 158] (xh A V tx cu) (qU (xh A' V' tx c')) := by
  obtain ⟨d, rfl⟩ : ∃ d1, d = d1 + 1 := ⟨d - 1, by omega⟩
  replace hd : 60 ≤ d := by omega
  have hd0 : 60 ≤ d := by omega
  refine xe_of (co := xk_207) (nl := 3) rfl rfl rfl ?_
  unfold fX9_copy at e
  refine xw_y hd0 2 [] rfl trivial ?_
  refine slX9_copy_L2_134_158 hd ?_ FU _ _ _ _ e
  · intro z4 z5 z6 A7 V8 c9 e
    cases e
    exact xw_yr hd0 2 [] rfl trivial ⟨rfl, rfl⟩
set_option maxRecDepth 20000 in
set_option maxHeartbeats 4000000 in
theorem slX9_copy_L2_139_159 {LL : Nat} {xs : Nat → Int32} {tx : List xh_T} {d : Nat} {A' V' : xM} {c' : Value} {ex : xM → xM → Value → Option (xS)} (hd : 60 ≤ d) (hex : ∀ (w0 w1 w2 : Option Value) (A V : xM) (cu : Value), ex  A V cu = some (A', V', c') → xw (xk_ro LL xs) d xk_207 20 [w0, w1, w2] [] (xh A V tx cu) (qU (xh A' V' tx c'))) : ∀ (n : Nat) (l2 : Int32) (A V : xM) (cu : Value), fX9_copy_L2 139 159 ex n l2 A V cu = some (A', V', c') → xw (xk_ro LL xs) d xk_207 2 [some (.ref 139), some (.ref 159), some (.int l2)] [] (xh A V tx cu) (qU (xh A' V' tx c')) := by
  have hd0 : 60 ≤ d := by omega
  intro n
  induction n with
  | zero =>
    intro l2 A V cu e
    rw [fX9_copy_L2] at e
    cases e
  | succ n ih =>
    intro l2 A V cu e
    rw [fX9_copy_L2] at e
    rcases ite_ok e with ⟨h1, e⟩ | ⟨h1, e⟩
    · refine xw_y hd0 4 [1] rfl ⟨decide_eq_true h1, trivial⟩ ?_
      exact hex _ _ _ _ _ _ e
    · obtain ⟨h2, e⟩ := bC_ok e
      obtain ⟨h3, e⟩ := bC_ok e
      refine xw_y hd0 12 [0] rfl ⟨nt h1, h2, h3, trivial⟩ ?_
      exact ih _ _ _ _ e
set_option maxRecDepth 20000 in
set_option maxHeartbeats 4000000 in
theorem sX9_copy_139_159 {LL : Nat} {xs : Nat → Int32} {tx : List xh_T} {d : Nat} {A V : xM} {cu : Value} {A' V' : xM} {c' : Value} (hd : 61 ≤ d) (e : fX9_copy 139 159 A V cu = some (A', V', c')) : xe (xk_ro LL xs) d 207 [.ref 139, .ref 159] (xh A V tx cu) (qU (xh A' V' tx c')) := by
  obtain ⟨d, rfl⟩ : ∃ d1, d = d1 + 1 := ⟨d - 1, by omega⟩
  replace hd : 60 ≤ d := by omega
  have hd0 : 60 ≤ d := by omega
  refine xe_of (co := xk_207) (nl := 3) rfl rfl rfl ?_
  unfold fX9_copy at e
  refine xw_y hd0 2 [] rfl trivial ?_
  refine slX9_copy_L2_139_159 hd ?_ FU _ _ _ _ e
  · intro z4 z5 z6 A7 V8 c9 e
    cases e
    exact xw_yr hd0 2 [] rfl trivial ⟨rfl, rfl⟩
set_option maxRecDepth 20000 in
set_option maxHeartbeats 4000000 in
theorem slX9_copy_L2_157_133 {LL : Nat} {xs : Nat → Int32} {tx : List xh_T} {d : Nat} {A' V' : xM} {c' : Value} {ex : xM → xM → Value → Option (xS)} (hd : 60 ≤ d) (hex : ∀ (w0 w1 w2 : Option Value) (A V : xM) (cu : Value), ex  A V cu = some (A', V', c') → xw (xk_ro LL xs) d xk_207 20 [w0, w1, w2] [] (xh A V tx cu) (qU (xh A' V' tx c'))) : ∀ (n : Nat) (l2 : Int32) (A V : xM) (cu : Value), fX9_copy_L2 157 133 ex n l2 A V cu = some (A', V', c') → xw (xk_ro LL xs) d xk_207 2 [some (.ref 157), some (.ref 133), some (.int l2)] [] (xh A V tx cu) (qU (xh A' V' tx c')) := by
  have hd0 : 60 ≤ d := by omega
  intro n
  induction n with
  | zero =>
    intro l2 A V cu e
    rw [fX9_copy_L2] at e
    cases e
  | succ n ih =>
    intro l2 A V cu e
    rw [fX9_copy_L2] at e
    rcases ite_ok e with ⟨h1, e⟩ | ⟨h1, e⟩
    · refine xw_y hd0 4 [1] rfl ⟨decide_eq_true h1, trivial⟩ ?_
      exact hex _ _ _ _ _ _ e
    · obtain ⟨h2, e⟩ := bC_ok e
      obtain ⟨h3, e⟩ := bC_ok e
      refine xw_y hd0 12 [0] rfl ⟨nt h1, h2, h3, trivial⟩ ?_
      exact ih _ _ _ _ e
set_option maxRecDepth 20000 in
set_option maxHeartbeats 4000000 in
theorem sX9_copy_157_133 {LL : Nat} {xs : Nat → Int32} {tx : List xh_T} {d : Nat} {A V : xM} {cu : Value} {A' V' : xM} {c' : Value} (hd : 61 ≤ d) (e : fX9_copy 157 133 A V cu = some (A', V', c')) : xe (xk_ro LL xs) d 207 [.ref 157, .ref 133] (xh A V tx cu) (qU (xh A' V' tx c')) := by
  obtain ⟨d, rfl⟩ : ∃ d1, d = d1 + 1 := ⟨d - 1, by omega⟩
  replace hd : 60 ≤ d := by omega
  have hd0 : 60 ≤ d := by omega
  refine xe_of (co := xk_207) (nl := 3) rfl rfl rfl ?_
  unfold fX9_copy at e
  refine xw_y hd0 2 [] rfl trivial ?_
  refine slX9_copy_L2_157_133 hd ?_ FU _ _ _ _ e
  · intro z4 z5 z6 A7 V8 c9 e
    cases e
    exact xw_yr hd0 2 [] rfl trivial ⟨rfl, rfl⟩
set_option maxRecDepth 20000 in
set_option maxHeartbeats 4000000 in
theorem slX9_copy_L2_158_134 {LL : Nat} {xs : Nat → Int32} {tx : List xh_T} {d : Nat} {A' V' : xM} {c' : Value} {ex : xM → xM → Value → Option (xS)} (hd : 60 ≤ d) (hex : ∀ (w0 w1 w2 : Option Value) (A V : xM) (cu : Value), ex  A V cu = some (A', V', c') → xw (xk_ro LL xs) d xk_207 20 [w0, w1, w2] [] (xh A V tx cu) (qU (xh A' V' tx c'))) : ∀ (n : Nat) (l2 : Int32) (A V : xM) (cu : Value), fX9_copy_L2 158 134 ex n l2 A V cu = some (A', V', c') → xw (xk_ro LL xs) d xk_207 2 [some (.ref 158), some (.ref 134), some (.int l2)] [] (xh A V tx cu) (qU (xh A' V' tx c')) := by
  have hd0 : 60 ≤ d := by omega
  intro n
  induction n with
  | zero =>
    intro l2 A V cu e
    rw [fX9_copy_L2] at e
    cases e
  | succ n ih =>
    intro l2 A V cu e
    rw [fX9_copy_L2] at e
    rcases ite_ok e with ⟨h1, e⟩ | ⟨h1, e⟩
    · refine xw_y hd0 4 [1] rfl ⟨decide_eq_true h1, trivial⟩ ?_
      exact hex _ _ _ _ _ _ e
    · obtain ⟨h2, e⟩ := bC_ok e
      obtain ⟨h3, e⟩ := bC_ok e
      refine xw_y hd0 12 [0] rfl ⟨nt h1, h2, h3, trivial⟩ ?_
      exact ih _ _ _ _ e
set_option maxRecDepth 20000 in
set_option maxHeartbeats 4000000 in
theorem sX9_copy_158_134 {LL : Nat} {xs : Nat → Int32} {tx : List xh_T} {d : Nat} {A V : xM} {cu : Value} {A' V' : xM} {c' : Value} (hd : 61 ≤ d) (e : fX9_copy 158 134 A V cu = some (A', V', c')) : xe (xk_ro LL xs) d 207 [.ref 158, .ref 134] (xh A V tx cu) (qU (xh A' V' tx c')) := by
  obtain ⟨d, rfl⟩ : ∃ d1, d = d1 + 1 := ⟨d - 1, by omega⟩
  replace hd : 60 ≤ d := by omega
  have hd0 : 60 ≤ d := by omega
  refine xe_of (co := xk_207) (nl := 3) rfl rfl rfl ?_
  unfold fX9_copy at e
  refine xw_y hd0 2 [] rfl trivial ?_
  refine slX9_copy_L2_158_134 hd ?_ FU _ _ _ _ e
  · intro z4 z5 z6 A7 V8 c9 e
    cases e
    exact xw_yr hd0 2 [] rfl trivial ⟨rfl, rfl⟩
set_option maxRecDepth 20000 in
set_option maxHeartbeats 4000000 in
theorem sX9_image {LL : Nat} {xs : Nat → Int32} {tx : List xh_T} {d : Nat} {A V : xM} {cu : Value} {A' V' : xM} {c' : Value} {r : Int32} (hd : 62 ≤ d) (e : fX9_image A V cu = some (r, A', V', c')) : xe (xk_ro LL xs) d 208 [.ref 132] (xh A V tx cu) (qI r (xh A' V' tx c')) := by
  obtain ⟨d, rfl⟩ : ∃ d1, d = d1 + 1 := ⟨d - 1, by omega⟩
  replace hd : 61 ≤ d := by omega
  have hd0 : 60 ≤ d := by omega
  refine xe_of (co := xk_208) (nl := 1) rfl rfl rfl ?_
  unfold fX9_image at e
  refine xw_y hd0 7 [] rfl ⟨rfl, trivial⟩ ?_
  obtain ⟨A2, V3, c4, e5, e⟩ := bS_ok e
  refine xw_call (k := 207) (j := 2) rfl (fun F => xm_c_ok (y_c_ok rfl) F) rfl rfl rfl (sX9_copy_133_157 (by omega) e5) ?_
  rintro _ _ ⟨rfl, rfl⟩
  refine xw_y hd0 4 [] rfl trivial ?_
  obtain ⟨A7, V8, c9, e10, e⟩ := bS_ok e
  refine xw_call (k := 207) (j := 2) rfl (fun F => xm_c_ok (y_c_ok rfl) F) rfl rfl rfl (sX9_copy_134_158 (by omega) e10) ?_
  rintro _ _ ⟨rfl, rfl⟩
  refine xw_y hd0 4 [] rfl trivial ?_
  obtain ⟨A12, V13, c14, e15, e⟩ := bS_ok e
  refine xw_call (k := 207) (j := 2) rfl (fun F => xm_c_ok (y_c_ok rfl) F) rfl rfl rfl (sX9_copy_139_159 (by omega) e15) ?_
  rintro _ _ ⟨rfl, rfl⟩
  cases e
  exact xw_yr hd0 20 [] rfl ⟨rfl, rfl, rfl, rfl, rfl, trivial⟩ ⟨rfl, rfl⟩
set_option maxRecDepth 20000 in
set_option maxHeartbeats 4000000 in
theorem slX9_back_L44 {LL : Nat} {xs : Nat → Int32} {tx : List xh_T} {d : Nat} {A' V' : xM} {c' : Value} {r : Int32} {l1 : Int32} {ex : xM → xM → Value → Option (Int32 × xS)} (hd : 61 ≤ d) (hex : ∀ (w2 : Option Value) (A V : xM) (cu : Value), ex  A V cu = some (r, A', V', c') → xw (xk_ro LL xs) d xk_209 90 [some (.ref 132), some (.int l1), w2] [] (xh A V tx cu) (qI r (xh A' V' tx c'))) : ∀ (n : Nat) (l2 : Int32) (A V : xM) (cu : Value), fX9_back_L44 l1 ex n l2 A V cu = some (r, A', V', c') → xw (xk_ro LL xs) d xk_209 44 [some (.ref 132), some (.int l1), some (.int l2)] [] (xh A V tx cu) (qI r (xh A' V' tx c')) := by
  have hd0 : 60 ≤ d := by omega
  intro n
  induction n with
  | zero =>
    intro l2 A V cu e
    rw [fX9_back_L44] at e
    cases e
  | succ n ih =>
    intro l2 A V cu e
    rw [fX9_back_L44] at e
    rcases ite_ok e with ⟨h1, e⟩ | ⟨h1, e⟩
    · refine xw_y hd0 3 [1] rfl ⟨decide_eq_true h1, trivial⟩ ?_
      exact hex _ _ _ _ e
    · rcases ite_ok e with ⟨h2, e⟩ | ⟨h2, e⟩
      · obtain ⟨h3, e⟩ := bC_ok e
        refine xw_y hd0 18 [0, 1] rfl ⟨nt h1, decide_eq_true h2, h3, trivial⟩ ?_
        exact ih _ _ _ _ e
      · obtain ⟨h4, e⟩ := bC_ok e
        refine xw_y hd0 26 [0, 0] rfl ⟨nt h1, nt h2, h4, h4, trivial⟩ ?_
        exact ih _ _ _ _ e
set_option maxRecDepth 20000 in
set_option maxHeartbeats 4000000 in
theorem slX9_back_L34 {LL : Nat} {xs : Nat → Int32} {tx : List xh_T} {d : Nat} {A' V' : xM} {c' : Value} {r : Int32} {ex : xM → xM → Value → Option (Int32 × xS)} (hd : 61 ≤ d) (hex : ∀ (w1 w2 : Option Value) (A V : xM) (cu : Value), ex  A V cu = some (r, A', V', c') → xw (xk_ro LL xs) d xk_209 96 [some (.ref 132), w1, w2] [] (xh A V tx cu) (qI r (xh A' V' tx c'))) : ∀ (n : Nat) (l1 : Int32) (z2 : Option Value) (A V : xM) (cu : Value), fX9_back_L34 ex n l1 A V cu = some (r, A', V', c') → xw (xk_ro LL xs) d xk_209 34 [some (.ref 132), some (.int l1), z2] [] (xh A V tx cu) (qI r (xh A' V' tx c')) := by
  have hd0 : 60 ≤ d := by omega
  intro n
  induction n with
  | zero =>
    intro l1 z2 A V cu e
    rw [fX9_back_L34] at e
    cases e
  | succ n ih =>
    intro l1 z2 A V cu e
    rw [fX9_back_L34] at e
    rcases ite_ok e with ⟨h5, e⟩ | ⟨h5, e⟩
    · refine xw_y hd0 4 [1] rfl ⟨decide_eq_true h5, trivial⟩ ?_
      exact hex _ _ _ _ _ e
    · refine xw_y hd0 6 [0] rfl ⟨nt h5, trivial⟩ ?_
      refine slX9_back_L44 hd ?_ FU _ _ _ _ e
      · intro z6 A7 V8 c9 e
        refine xw_y hd0 2 [] rfl trivial ?_
        exact ih _ _ _ _ _ e
set_option maxRecDepth 20000 in
set_option maxHeartbeats 4000000 in
theorem sX9_back {LL : Nat} {xs : Nat → Int32} {tx : List xh_T} {d : Nat} {A V : xM} {cu : Value} {A' V' : xM} {c' : Value} {r : Int32} (hd : 62 ≤ d) (e : fX9_back A V cu = some (r, A', V', c')) : xe (xk_ro LL xs) d 209 [.ref 132] (xh A V tx cu) (qI r (xh A' V' tx c')) := by
  obtain ⟨d, rfl⟩ : ∃ d1, d = d1 + 1 := ⟨d - 1, by omega⟩
  replace hd : 61 ≤ d := by omega
  have hd0 : 60 ≤ d := by omega
  refine xe_of (co := xk_209) (nl := 3) rfl rfl rfl ?_
  unfold fX9_back at e
  rcases ite_ok e with ⟨h10, e⟩ | ⟨h10, e⟩
  · cases e
    exact xw_yr hd0 6 [0] rfl ⟨nnt h10, rfl, trivial⟩ ⟨rfl, rfl⟩
  · refine xw_y hd0 7 [1] rfl ⟨nt h10, trivial⟩ ?_
    obtain ⟨A12, V13, c14, e15, e⟩ := bS_ok e
    refine xw_call (k := 207) (j := 2) rfl (fun F => xm_c_ok (y_c_ok rfl) F) rfl rfl rfl (sX9_copy_157_133 (by omega) e15) ?_
    rintro _ _ ⟨rfl, rfl⟩
    refine xw_y hd0 4 [] rfl trivial ?_
    obtain ⟨A17, V18, c19, e20, e⟩ := bS_ok e
    refine xw_call (k := 207) (j := 2) rfl (fun F => xm_c_ok (y_c_ok rfl) F) rfl rfl rfl (sX9_copy_158_134 (by omega) e20) ?_
    rintro _ _ ⟨rfl, rfl⟩
    refine xw_y hd0 2 [] rfl trivial ?_
    refine slX9_back_L34 hd ?_ FU _ _ _ _ _ e
    · intro z21 z22 A23 V24 c25 e
      cases e
      exact xw_yr hd0 15 [] rfl ⟨rfl, rfl, rfl, trivial⟩ ⟨rfl, rfl⟩
set_option maxRecDepth 20000 in
set_option maxHeartbeats 4000000 in
theorem slX9_sheet_L65 {LL : Nat} {xs : Nat → Int32} {tx : List xh_T} {d : Nat} {A' V' : xM} {c' : Value} {r : Int32} {l1 : Int32} {l3 : Int32} {ex : xM → xM → Value → Option (Int32 × xS)} (hd : 60 ≤ d) (hex : ∀ (w0 w1 w2 w3 w4 : Option Value) (A V : xM) (cu : Value), ex  A V cu = some (r, A', V', c') → xw (xk_ro LL xs) d xk_211 91 [w0, w1, w2, w3, w4] [] (xh A V tx cu) (qI r (xh A' V' tx c'))) : ∀ (n : Nat) (l4 : Int32) (z2 : Option Value) (A V : xM) (cu : Value), fX9_sheet_L65 l1 ex n l4 A V cu = some (r, A', V', c') → xw (xk_ro LL xs) d xk_211 65 [some (.ref 132), some (.int l1), z2, some (.int l3), some (.int l4)] [] (xh A V tx cu) (qI r (xh A' V' tx c')) := by
  have hd0 : 60 ≤ d := by omega
  intro n
  induction n with
  | zero =>
    intro l4 z2 A V cu e
    rw [fX9_sheet_L65] at e
    cases e
  | succ n ih =>
    intro l4 z2 A V cu e
    rw [fX9_sheet_L65] at e
    rcases ite_ok e with ⟨h1, e⟩ | ⟨h1, e⟩
    · refine xw_y hd0 3 [1] rfl ⟨decide_eq_true h1, trivial⟩ ?_
      exact hex _ _ _ _ _ _ _ _ e
    · obtain ⟨h2, e⟩ := bC_ok e
      refine xw_y hd0 14 [0] rfl ⟨nt h1, h2, trivial⟩ ?_
      exact ih _ _ _ _ _ e
set_option maxRecDepth 20000 in
set_option maxHeartbeats 4000000 in
theorem sX9_sheet {LL : Nat} {xs : Nat → Int32} {tx : List xh_T} {d : Nat} {A V : xM} {cu : Value} {A' V' : xM} {c' : Value} {r : Int32} {l1 l2 l3 : Int32} (hd : 61 ≤ d) (e : fX9_sheet l1 l2 l3 A V cu = some (r, A', V', c')) : xe (xk_ro LL xs) d 211 [.ref 132, .int l1, .int l2, .int l3] (xh A V tx cu) (qI r (xh A' V' tx c')) := by
  obtain ⟨d, rfl⟩ : ∃ d1, d = d1 + 1 := ⟨d - 1, by omega⟩
  replace hd : 60 ≤ d := by omega
  have hd0 : 60 ≤ d := by omega
  refine xe_of (co := xk_211) (nl := 5) rfl rfl rfl ?_
  unfold fX9_sheet at e
  rcases ite_ok e with ⟨h3, e⟩ | ⟨h3, e⟩
  · cases e
    exact xw_yr hd0 16 [1, 1] rfl ⟨decide_eq_true h3, rfl, rfl, rfl, rfl, trivial⟩ ⟨rfl, rfl⟩
  · rcases ite_ok e with ⟨h4, e⟩ | ⟨h4, e⟩
    · cases e
      exact xw_yr hd0 19 [0, 1, 1] rfl ⟨nt h3, decide_eq_true h4, rfl, rfl, rfl, rfl, trivial⟩ ⟨rfl, rfl⟩
    · rcases ite_ok e with ⟨h5, e⟩ | ⟨h5, e⟩
      · cases e
        exact xw_yr hd0 30 [0, 0, 0, 1, 1] rfl ⟨nt h3, nt h4, rfl, rfl, rfl, decide_eq_true h5, rfl, rfl, rfl, trivial⟩ ⟨rfl, rfl⟩
      · rcases ite_ok e with ⟨h6, e⟩ | ⟨h6, e⟩
        · cases e
          exact xw_yr hd0 33 [0, 0, 0, 0, 1, 1] rfl ⟨nt h3, nt h4, rfl, rfl, rfl, nt h5, decide_eq_true h6, rfl, rfl, rfl, trivial⟩ ⟨rfl, rfl⟩
        · rcases ite_ok e with ⟨h7, e⟩ | ⟨h7, e⟩
          · obtain ⟨h8, e⟩ := bC_ok e
            rcases ite_ok e with ⟨h9, e⟩ | ⟨h9, e⟩
            · refine xw_y hd0 49 [0, 0, 0, 0, 0, 0, 1, 1, 1] rfl ⟨nt h3, nt h4, rfl, rfl, rfl, nt h5, nt h6, rfl, rfl, decide_eq_true h7, decide_eq_true h7, h8, decide_eq_true h9, h8, trivial⟩ ?_
              refine slX9_sheet_L65 hd ?_ FU _ _ _ _ _ e
              · intro z10 z11 z12 z13 z14 A15 V16 c17 e
                cases e
                exact xw_yr hd0 3 [] rfl ⟨rfl, trivial⟩ ⟨rfl, rfl⟩
            · refine xw_y hd0 50 [0, 0, 0, 0, 0, 0, 1, 1, 0] rfl ⟨nt h3, nt h4, rfl, rfl, rfl, nt h5, nt h6, rfl, rfl, decide_eq_true h7, decide_eq_true h7, h8, nt h9, h8, trivial⟩ ?_
              refine slX9_sheet_L65 hd ?_ FU _ _ _ _ _ e
              · intro z18 z19 z20 z21 z22 A23 V24 c25 e
                cases e
                exact xw_yr hd0 3 [] rfl ⟨rfl, trivial⟩ ⟨rfl, rfl⟩
          · rcases ite_ok e with ⟨h26, e⟩ | ⟨h26, e⟩
            · rcases ite_ok e with ⟨h27, e⟩ | ⟨h27, e⟩
              · obtain ⟨h28, e⟩ := bC_ok e
                rcases ite_ok e with ⟨h29, e⟩ | ⟨h29, e⟩
                · refine xw_y hd0 54 [0, 0, 0, 0, 0, 0, 0, 1, 0, 1, 1] rfl ⟨nt h3, nt h4, rfl, rfl, rfl, nt h5, nt h6, rfl, rfl, nt h7, decide_eq_true h26, nt h7, decide_eq_true h27, h28, decide_eq_true h29, h28, trivial⟩ ?_
                  refine slX9_sheet_L65 hd ?_ FU _ _ _ _ _ e
                  · intro z30 z31 z32 z33 z34 A35 V36 c37 e
                    cases e
                    exact xw_yr hd0 3 [] rfl ⟨rfl, trivial⟩ ⟨rfl, rfl⟩
                · refine xw_y hd0 55 [0, 0, 0, 0, 0, 0, 0, 1, 0, 1, 0] rfl ⟨nt h3, nt h4, rfl, rfl, rfl, nt h5, nt h6, rfl, rfl, nt h7, decide_eq_true h26, nt h7, decide_eq_true h27, h28, nt h29, h28, trivial⟩ ?_
                  refine slX9_sheet_L65 hd ?_ FU _ _ _ _ _ e
                  · intro z38 z39 z40 z41 z42 A43 V44 c45 e
                    cases e
                    exact xw_yr hd0 3 [] rfl ⟨rfl, trivial⟩ ⟨rfl, rfl⟩
              · cases e
                exact xw_yr hd0 43 [0, 0, 0, 0, 0, 0, 0, 1, 0, 0] rfl ⟨nt h3, nt h4, rfl, rfl, rfl, nt h5, nt h6, rfl, rfl, nt h7, decide_eq_true h26, nt h7, nt h27, rfl, trivial⟩ ⟨rfl, rfl⟩
            · cases e
              exact xw_yr hd0 39 [0, 0, 0, 0, 0, 0, 0, 0] rfl ⟨nt h3, nt h4, rfl, rfl, rfl, nt h5, nt h6, rfl, rfl, nt h7, nt h26, rfl, trivial⟩ ⟨rfl, rfl⟩
set_option maxRecDepth 20000 in
set_option maxHeartbeats 4000000 in
theorem slX9_copy__L103 {LL : Nat} {xs : Nat → Int32} {tx : List xh_T} {d : Nat} {A' V' : xM} {c' : Value} {r : Int32} {l1 : Int32} {l2 : Int32} {l3 : Int32} {l4 : Int32} {l5 : Int32} {ex : xM → xM → Value → Option (Int32 × xS)} (hd : 60 ≤ d) (hex : ∀ (w1 w2 w6 : Option Value) (A V : xM) (cu : Value), ex  A V cu = some (r, A', V', c') → xw (xk_ro LL xs) d xk_213 137 [some (.ref 132), w1, w2, some (.int l3), some (.int l4), some (.int l5), w6] [] (xh A V tx cu) (qI r (xh A' V' tx c'))) : ∀ (n : Nat) (l6 : Int32) (A V : xM) (cu : Value), fX9_copy__L103 l1 l2 l3 l4 l5 ex n l6 A V cu = some (r, A', V', c') → xw (xk_ro LL xs) d xk_213 103 [some (.ref 132), some (.int l1), some (.int l2), some (.int l3), some (.int l4), some (.int l5), some (.int l6)] [] (xh A V tx cu) (qI r (xh A' V' tx c')) := by
  have hd0 : 60 ≤ d := by omega
  intro n
  induction n with
  | zero =>
    intro l6 A V cu e
    rw [fX9_copy__L103] at e
    cases e
  | succ n ih =>
    intro l6 A V cu e
    rw [fX9_copy__L103] at e
    rcases ite_ok e with ⟨h1, e⟩ | ⟨h1, e⟩
    · refine xw_y hd0 3 [1] rfl ⟨decide_eq_true h1, trivial⟩ ?_
      exact hex _ _ _ _ _ _ e
    · obtain ⟨h2, e⟩ := bC_ok e
      obtain ⟨h3, e⟩ := bC_ok e
      refine xw_y hd0 19 [0] rfl ⟨nt h1, h2, h3, trivial⟩ ?_
      exact ih _ _ _ _ e
set_option maxRecDepth 20000 in
set_option maxHeartbeats 4000000 in
theorem slX9_copy__L140 {LL : Nat} {xs : Nat → Int32} {tx : List xh_T} {d : Nat} {A' V' : xM} {c' : Value} {r : Int32} {l3 : Int32} {l4 : Int32} {l5 : Int32} {ex : xM → xM → Value → Option (Int32 × xS)} (hd : 60 ≤ d) (hex : ∀ (w0 w1 w2 w3 w4 w6 : Option Value) (A V : xM) (cu : Value), ex  A V cu = some (r, A', V', c') → xw (xk_ro LL xs) d xk_213 175 [w0, w1, w2, w3, w4, some (.int l5), w6] [] (xh A V tx cu) (qI r (xh A' V' tx c'))) : ∀ (n : Nat) (l6 : Int32) (z1 z2 : Option Value) (A V : xM) (cu : Value), fX9_copy__L140 l3 l4 l5 ex n l6 A V cu = some (r, A', V', c') → xw (xk_ro LL xs) d xk_213 140 [some (.ref 132), z1, z2, some (.int l3), some (.int l4), some (.int l5), some (.int l6)] [] (xh A V tx cu) (qI r (xh A' V' tx c')) := by
  have hd0 : 60 ≤ d := by omega
  intro n
  induction n with
  | zero =>
    intro l6 z1 z2 A V cu e
    rw [fX9_copy__L140] at e
    cases e
  | succ n ih =>
    intro l6 z1 z2 A V cu e
    rw [fX9_copy__L140] at e
    rcases ite_ok e with ⟨h4, e⟩ | ⟨h4, e⟩
    · refine xw_y hd0 3 [1] rfl ⟨decide_eq_true h4, trivial⟩ ?_
      exact hex _ _ _ _ _ _ _ _ _ e
    · obtain ⟨h5, e⟩ := bC_ok e
      obtain ⟨h6, e⟩ := bC_ok e
      refine xw_y hd0 19 [0] rfl ⟨nt h4, h5, h6, trivial⟩ ?_
      exact ih _ _ _ _ _ _ e
set_option maxRecDepth 20000 in
set_option maxHeartbeats 4000000 in
theorem sX9_copy_ {LL : Nat} {xs : Nat → Int32} {tx : List xh_T} {d : Nat} {A V : xM} {cu : Value} {A' V' : xM} {c' : Value} {r : Int32} {l1 l2 l3 l4 l5 : Int32} (hd : 61 ≤ d) (e : fX9_copy_ l1 l2 l3 l4 l5 A V cu = some (r, A', V', c')) : xe (xk_ro LL xs) d 213 [.ref 132, .int l1, .int l2, .int l3, .int l4, .int l5] (xh A V tx cu) (qI r (xh A' V' tx c')) := by
  obtain ⟨d, rfl⟩ : ∃ d1, d = d1 + 1 := ⟨d - 1, by omega⟩
  replace hd : 60 ≤ d := by omega
  have hd0 : 60 ≤ d := by omega
  refine xe_of (co := xk_213) (nl := 7) rfl rfl rfl ?_
  unfold fX9_copy_ at e
  rcases ite_ok e with ⟨h7, e⟩ | ⟨h7, e⟩
  · cases e
    exact xw_yr hd0 16 [1, 1] rfl ⟨decide_eq_true h7, rfl, rfl, rfl, rfl, trivial⟩ ⟨rfl, rfl⟩
  · rcases ite_ok e with ⟨h8, e⟩ | ⟨h8, e⟩
    · cases e
      exact xw_yr hd0 19 [0, 1, 1] rfl ⟨nt h7, decide_eq_true h8, rfl, rfl, rfl, rfl, trivial⟩ ⟨rfl, rfl⟩
    · rcases ite_ok e with ⟨h9, e⟩ | ⟨h9, e⟩
      · cases e
        exact xw_yr hd0 33 [0, 0, 0, 1, 0] rfl ⟨nt h7, nt h8, rfl, rfl, rfl, decide_eq_true h9, rfl, rfl, rfl, rfl, trivial⟩ ⟨rfl, rfl⟩
      · rcases ite_ok e with ⟨h10, e⟩ | ⟨h10, e⟩
        · cases e
          exact xw_yr hd0 36 [0, 0, 0, 0, 1, 0] rfl ⟨nt h7, nt h8, rfl, rfl, rfl, nt h9, decide_eq_true h10, rfl, rfl, rfl, rfl, trivial⟩ ⟨rfl, rfl⟩
        · obtain ⟨h11, e⟩ := bC_ok e
          rcases ite_ok e with ⟨h12, e⟩ | ⟨h12, e⟩
          · cases e
            exact xw_yr hd0 42 [0, 0, 0, 0, 0, 1, 1] rfl ⟨nt h7, nt h8, rfl, rfl, rfl, nt h9, nt h10, rfl, rfl, rfl, h11, decide_eq_true h12, rfl, trivial⟩ ⟨rfl, rfl⟩
          · obtain ⟨h13, e⟩ := bC_ok e
            rcases ite_ok e with ⟨h14, e⟩ | ⟨h14, e⟩
            · rcases ite_ok e with ⟨h15, e⟩ | ⟨h15, e⟩
              · rcases ite_ok e with ⟨h16, e⟩ | ⟨h16, e⟩
                · cases e
                  exact xw_yr hd0 58 [0, 0, 0, 0, 0, 1, 0, 1, 1, 1] rfl ⟨nt h7, nt h8, rfl, rfl, rfl, nt h9, nt h10, rfl, rfl, rfl, h11, nt h12, h13, decide_eq_true h14, h11, h13, decide_eq_true h15, decide_eq_true h16, rfl, trivial⟩ ⟨rfl, rfl⟩
                · rcases ite_ok e with ⟨h17, e⟩ | ⟨h17, e⟩
                  · cases e
                    exact xw_yr hd0 60 [0, 0, 0, 0, 0, 1, 0, 1, 1, 0, 1] rfl ⟨nt h7, nt h8, rfl, rfl, rfl, nt h9, nt h10, rfl, rfl, rfl, h11, nt h12, h13, decide_eq_true h14, h11, h13, decide_eq_true h15, nt h16, decide_eq_true h17, rfl, trivial⟩ ⟨rfl, rfl⟩
                  · rcases ite_ok e with ⟨h18, e⟩ | ⟨h18, e⟩
                    · cases e
                      exact xw_yr hd0 62 [0, 0, 0, 0, 0, 1, 0, 1, 1, 0, 0, 1] rfl ⟨nt h7, nt h8, rfl, rfl, rfl, nt h9, nt h10, rfl, rfl, rfl, h11, nt h12, h13, decide_eq_true h14, h11, h13, decide_eq_true h15, nt h16, nt h17, decide_eq_true h18, rfl, trivial⟩ ⟨rfl, rfl⟩
                    · rcases ite_ok e with ⟨h19, e⟩ | ⟨h19, e⟩
                      · cases e
                        exact xw_yr hd0 70 [0, 0, 0, 0, 0, 1, 0, 1, 1, 0, 0, 0, 1] rfl ⟨nt h7, nt h8, rfl, rfl, rfl, nt h9, nt h10, rfl, rfl, rfl, h11, nt h12, h13, decide_eq_true h14, h11, h13, decide_eq_true h15, nt h16, nt h17, nt h18, h11, decide_eq_true h19, rfl, trivial⟩ ⟨rfl, rfl⟩
                      · rcases ite_ok e with ⟨h20, e⟩ | ⟨h20, e⟩
                        · refine xw_y hd0 77 [0, 0, 0, 0, 0, 1, 0, 1, 1, 0, 0, 0, 0, 1] rfl ⟨nt h7, nt h8, rfl, rfl, rfl, nt h9, nt h10, rfl, rfl, rfl, h11, nt h12, h13, decide_eq_true h14, h11, h13, decide_eq_true h15, nt h16, nt h17, nt h18, h11, nt h19, h13, decide_eq_true h20, trivial⟩ ?_
                          refine slX9_copy__L103 hd ?_ FU _ _ _ _ e
                          · intro z21 z22 z23 A24 V25 c26 e
                            refine xw_y hd0 2 [] rfl trivial ?_
                            refine slX9_copy__L140 hd ?_ FU _ _ _ _ _ _ e
                            · intro z27 z28 z29 z30 z31 z32 A33 V34 c35 e
                              cases e
                              exact xw_yr hd0 3 [] rfl ⟨rfl, trivial⟩ ⟨rfl, rfl⟩
                        · cases e
                          exact xw_yr hd0 78 [0, 0, 0, 0, 0, 1, 0, 1, 1, 0, 0, 0, 0, 0] rfl ⟨nt h7, nt h8, rfl, rfl, rfl, nt h9, nt h10, rfl, rfl, rfl, h11, nt h12, h13, decide_eq_true h14, h11, h13, decide_eq_true h15, nt h16, nt h17, nt h18, h11, nt h19, h13, nt h20, rfl, trivial⟩ ⟨rfl, rfl⟩
              · cases e
                exact xw_yr hd0 56 [0, 0, 0, 0, 0, 1, 0, 1, 0] rfl ⟨nt h7, nt h8, rfl, rfl, rfl, nt h9, nt h10, rfl, rfl, rfl, h11, nt h12, h13, decide_eq_true h14, h11, h13, nt h15, rfl, trivial⟩ ⟨rfl, rfl⟩
            · cases e
              exact xw_yr hd0 47 [0, 0, 0, 0, 0, 1, 0, 0] rfl ⟨nt h7, nt h8, rfl, rfl, rfl, nt h9, nt h10, rfl, rfl, rfl, h11, nt h12, h13, nt h14, rfl, trivial⟩ ⟨rfl, rfl⟩
set_option maxRecDepth 20000 in
set_option maxHeartbeats 4000000 in
theorem slX9_peopleBy_L60 {LL : Nat} {xs : Nat → Int32} {tx : List xh_T} {d : Nat} {A' V' : xM} {c' : Value} {r : Int32} {l1 : Int32} {l3 : Int32} {l4 : Int32} {ex : Int32 → xM → xM → Value → Option (Int32 × xS)} (hd : 61 ≤ d) (hex : ∀ (y5 : Int32) (w0 w1 w2 w3 w4 w6 w7 w8 w9 : Option Value) (A V : xM) (cu : Value), ex y5 A V cu = some (r, A', V', c') → xw (xk_ro LL xs) d xk_214 164 [w0, w1, w2, w3, w4, some (.int y5), w6, w7, w8, w9] [] (xh A V tx cu) (qI r (xh A' V' tx c'))) : ∀ (n : Nat) (l5 : Int32) (l6 : Int32) (z2 z7 z8 z9 : Option Value) (A V : xM) (cu : Value), fX9_peopleBy_L60 l1 l3 l4 ex n l5 l6 A V cu = some (r, A', V', c') → xw (xk_ro LL xs) d xk_214 60 [some (.ref 132), some (.int l1), z2, some (.int l3), some (.int l4), some (.int l5), some (.int l6), z7, z8, z9] [] (xh A V tx cu) (qI r (xh A' V' tx c')) := by
  have hd0 : 60 ≤ d := by omega
  intro n
  induction n with
  | zero =>
    intro l5 l6 z2 z7 z8 z9 A V cu e
    rw [fX9_peopleBy_L60] at e
    cases e
  | succ n ih =>
    intro l5 l6 z2 z7 z8 z9 A V cu e
    rw [fX9_peopleBy_L60] at e
    rcases ite_ok e with ⟨h1, e⟩ | ⟨h1, e⟩
    · refine xw_y hd0 3 [1] rfl ⟨decide_eq_true h1, trivial⟩ ?_
      exact hex _ _ _ _ _ _ _ _ _ _ _ _ _ e
    · rcases ite_ok e with ⟨h2, e⟩ | ⟨h2, e⟩
      · cases e
        exact xw_yr hd0 18 [0, 1] rfl ⟨nt h1, decide_eq_true h2, rfl, trivial⟩ ⟨rfl, rfl⟩
      · obtain ⟨h3, e⟩ := bC_ok e
        rcases ite_ok e with ⟨h4, e⟩ | ⟨h4, e⟩
        · obtain ⟨h5, e⟩ := bC_ok e
          obtain ⟨h6, e⟩ := bC_ok e
          obtain ⟨h7, e⟩ := bC_ok e
          refine xw_y hd0 50 [0, 0, 1] rfl ⟨nt h1, nt h2, h3, decide_eq_true h4, h5, h6, h7, trivial⟩ ?_
          obtain ⟨x8, A9, V10, c11, e12, e⟩ := bX_ok e
          refine xw_call (k := 164) (j := 4) rfl (fun F => xm_c_ok (y_c_ok rfl) F) rfl rfl rfl (sX9_person (by omega) e12) ?_
          rintro _ _ ⟨rfl, rfl⟩
          rcases ite_ok e with ⟨h13, e⟩ | ⟨h13, e⟩
          · refine xw_y hd0 6 [1] rfl ⟨decide_eq_true h13, trivial⟩ ?_
            exact ih _ _ _ _ _ _ _ _ _ e
          · refine xw_y hd0 7 [0] rfl ⟨nt h13, trivial⟩ ?_
            exact ih _ _ _ _ _ _ _ _ _ e
        · cases e
          exact xw_yr hd0 28 [0, 0, 0] rfl ⟨nt h1, nt h2, h3, nt h4, rfl, trivial⟩ ⟨rfl, rfl⟩
set_option maxRecDepth 20000 in
set_option maxHeartbeats 4000000 in
theorem sX9_peopleBy {LL : Nat} {xs : Nat → Int32} {tx : List xh_T} {d : Nat} {A V : xM} {cu : Value} {A' V' : xM} {c' : Value} {r : Int32} {l1 l2 l3 l4 : Int32} (hd : 62 ≤ d) (e : fX9_peopleBy l1 l2 l3 l4 A V cu = some (r, A', V', c')) : xe (xk_ro LL xs) d 214 [.ref 132, .int l1, .int l2, .int l3, .int l4] (xh A V tx cu) (qI r (xh A' V' tx c')) := by
  obtain ⟨d, rfl⟩ : ∃ d1, d = d1 + 1 := ⟨d - 1, by omega⟩
  replace hd : 61 ≤ d := by omega
  have hd0 : 60 ≤ d := by omega
  refine xe_of (co := xk_214) (nl := 10) rfl rfl rfl ?_
  unfold fX9_peopleBy at e
  rcases ite_ok e with ⟨h14, e⟩ | ⟨h14, e⟩
  · cases e
    exact xw_yr hd0 16 [1, 1] rfl ⟨decide_eq_true h14, rfl, rfl, rfl, rfl, trivial⟩ ⟨rfl, rfl⟩
  · rcases ite_ok e with ⟨h15, e⟩ | ⟨h15, e⟩
    · cases e
      exact xw_yr hd0 19 [0, 1, 1] rfl ⟨nt h14, decide_eq_true h15, rfl, rfl, rfl, rfl, trivial⟩ ⟨rfl, rfl⟩
    · rcases ite_ok e with ⟨h16, e⟩ | ⟨h16, e⟩
      · cases e
        exact xw_yr hd0 30 [0, 0, 0, 1, 1] rfl ⟨nt h14, nt h15, rfl, rfl, rfl, decide_eq_true h16, rfl, rfl, rfl, trivial⟩ ⟨rfl, rfl⟩
      · rcases ite_ok e with ⟨h17, e⟩ | ⟨h17, e⟩
        · cases e
          exact xw_yr hd0 33 [0, 0, 0, 0, 1, 1] rfl ⟨nt h14, nt h15, rfl, rfl, rfl, nt h16, decide_eq_true h17, rfl, rfl, rfl, trivial⟩ ⟨rfl, rfl⟩
        · rcases ite_ok e with ⟨h18, e⟩ | ⟨h18, e⟩
          · cases e
            exact xw_yr hd0 44 [0, 0, 0, 0, 0, 0, 1, 0] rfl ⟨nt h14, nt h15, rfl, rfl, rfl, nt h16, nt h17, rfl, rfl, decide_eq_true h18, rfl, rfl, rfl, trivial⟩ ⟨rfl, rfl⟩
          · rcases ite_ok e with ⟨h19, e⟩ | ⟨h19, e⟩
            · cases e
              exact xw_yr hd0 47 [0, 0, 0, 0, 0, 0, 0, 1, 0] rfl ⟨nt h14, nt h15, rfl, rfl, rfl, nt h16, nt h17, rfl, rfl, nt h18, decide_eq_true h19, rfl, rfl, rfl, trivial⟩ ⟨rfl, rfl⟩
            · obtain ⟨h20, e⟩ := bC_ok e
              rcases ite_ok e with ⟨h21, e⟩ | ⟨h21, e⟩
              · rcases ite_ok e with ⟨h22, e⟩ | ⟨h22, e⟩
                · refine xw_y hd0 60 [0, 0, 0, 0, 0, 0, 0, 0, 1, 1, 1] rfl ⟨nt h14, nt h15, rfl, rfl, rfl, nt h16, nt h17, rfl, rfl, nt h18, nt h19, rfl, rfl, h20, decide_eq_true h21, h20, decide_eq_true h22, trivial⟩ ?_
                  refine slX9_peopleBy_L60 hd ?_ FU _ _ _ _ _ _ _ _ _ e
                  · intro l5_23 z24 z25 z26 z27 z28 z29 z30 z31 z32 A33 V34 c35 e
                    cases e
                    exact xw_yr hd0 3 [] rfl ⟨rfl, trivial⟩ ⟨rfl, rfl⟩
                · cases e
                  exact xw_yr hd0 59 [0, 0, 0, 0, 0, 0, 0, 0, 1, 1, 0] rfl ⟨nt h14, nt h15, rfl, rfl, rfl, nt h16, nt h17, rfl, rfl, nt h18, nt h19, rfl, rfl, h20, decide_eq_true h21, h20, nt h22, rfl, trivial⟩ ⟨rfl, rfl⟩
              · cases e
                exact xw_yr hd0 53 [0, 0, 0, 0, 0, 0, 0, 0, 1, 0] rfl ⟨nt h14, nt h15, rfl, rfl, rfl, nt h16, nt h17, rfl, rfl, nt h18, nt h19, rfl, rfl, h20, nt h21, rfl, trivial⟩ ⟨rfl, rfl⟩
set_option maxRecDepth 20000 in
set_option maxHeartbeats 4000000 in
theorem sX9_taken {LL : Nat} {xs : Nat → Int32} {tx : List xh_T} {d : Nat} {A V : xM} {cu : Value} {r : Int32} {l1 l2 : Int32} (hd : 61 ≤ d) (e : fX9_taken l1 l2 A V = some r) : xe (xk_ro LL xs) d 215 [.ref 132, .int l1, .int l2] (xh A V tx cu) (qI r (xh A V tx cu)) := by
  obtain ⟨d, rfl⟩ : ∃ d1, d = d1 + 1 := ⟨d - 1, by omega⟩
  replace hd : 60 ≤ d := by omega
  have hd0 : 60 ≤ d := by omega
  refine xe_of (co := xk_215) (nl := 6) rfl rfl rfl ?_
  unfold fX9_taken at e
  rcases ite_ok e with ⟨h1, e⟩ | ⟨h1, e⟩
  · cases e
    exact xw_yr hd0 13 [1, 0] rfl ⟨decide_eq_true h1, rfl, rfl, rfl, trivial⟩ ⟨rfl, rfl⟩
  · rcases ite_ok e with ⟨h2, e⟩ | ⟨h2, e⟩
    · cases e
      exact xw_yr hd0 16 [0, 1, 0] rfl ⟨nt h1, decide_eq_true h2, rfl, rfl, rfl, trivial⟩ ⟨rfl, rfl⟩
    · rcases ite_ok e with ⟨h3, e⟩ | ⟨h3, e⟩
      · cases e
        exact xw_yr hd0 27 [0, 0, 1, 1, 0] rfl ⟨nt h1, nt h2, rfl, rfl, decide_eq_true h3, rfl, rfl, rfl, trivial⟩ ⟨rfl, rfl⟩
      · rcases ite_ok e with ⟨h4, e⟩ | ⟨h4, e⟩
        · cases e
          exact xw_yr hd0 30 [0, 0, 1, 0, 1, 0] rfl ⟨nt h1, nt h2, rfl, rfl, nt h3, decide_eq_true h4, rfl, rfl, rfl, trivial⟩ ⟨rfl, rfl⟩
        · rcases ite_ok e with ⟨h5, e⟩ | ⟨h5, e⟩
          · rcases ite_ok e with ⟨h6, e⟩ | ⟨h6, e⟩
            · rcases ite_ok e with ⟨h7, e⟩ | ⟨h7, e⟩
              · obtain ⟨h8, e⟩ := bC_ok e
                cases e
                exact xw_yr hd0 51 [0, 0, 1, 0, 0, 1, 1, 1, 1, 0, 0] rfl ⟨nt h1, nt h2, rfl, rfl, nt h3, nt h4, rfl, rfl, decide_eq_true h5, rfl, decide_eq_true h6, rfl, nnt h7, h8, rfl, trivial⟩ ⟨rfl, rfl⟩
              · cases e
                exact xw_yr hd0 47 [0, 0, 1, 0, 0, 1, 1, 1, 1, 0, 1] rfl ⟨nt h1, nt h2, rfl, rfl, nt h3, nt h4, rfl, rfl, decide_eq_true h5, rfl, decide_eq_true h6, rfl, nt h7, rfl, trivial⟩ ⟨rfl, rfl⟩
            · cases e
              exact xw_yr hd0 42 [0, 0, 1, 0, 0, 1, 1, 1, 0] rfl ⟨nt h1, nt h2, rfl, rfl, nt h3, nt h4, rfl, rfl, decide_eq_true h5, rfl, nt h6, rfl, trivial⟩ ⟨rfl, rfl⟩
          · rcases ite_ok e with ⟨h9, e⟩ | ⟨h9, e⟩
            · obtain ⟨h10, e⟩ := bC_ok e
              rcases ite_ok e with ⟨h11, e⟩ | ⟨h11, e⟩
              · cases e
                exact xw_yr hd0 64 [0, 0, 1, 0, 0, 1, 0, 0, 1, 1, 1, 0] rfl ⟨nt h1, nt h2, rfl, rfl, nt h3, nt h4, rfl, rfl, nt h5, rfl, decide_eq_true h9, rfl, h10, decide_eq_true h11, rfl, rfl, trivial⟩ ⟨rfl, rfl⟩
              · rcases ite_ok e with ⟨h12, e⟩ | ⟨h12, e⟩
                · cases e
                  exact xw_yr hd0 67 [0, 0, 1, 0, 0, 1, 0, 0, 1, 1, 0, 1, 0] rfl ⟨nt h1, nt h2, rfl, rfl, nt h3, nt h4, rfl, rfl, nt h5, rfl, decide_eq_true h9, rfl, h10, nt h11, decide_eq_true h12, rfl, rfl, trivial⟩ ⟨rfl, rfl⟩
                · rcases ite_ok e with ⟨h13, e⟩ | ⟨h13, e⟩
                  · rcases ite_ok e with ⟨h14, e⟩ | ⟨h14, e⟩
                    · cases e
                      exact xw_yr hd0 73 [0, 0, 1, 0, 0, 1, 0, 0, 1, 1, 0, 0, 0, 1, 0] rfl ⟨nt h1, nt h2, rfl, rfl, nt h3, nt h4, rfl, rfl, nt h5, rfl, decide_eq_true h9, rfl, h10, nt h11, nt h12, nnt h13, decide_eq_true h14, rfl, rfl, trivial⟩ ⟨rfl, rfl⟩
                    · rcases ite_ok e with ⟨h15, e⟩ | ⟨h15, e⟩
                      · rcases ite_ok e with ⟨h16, e⟩ | ⟨h16, e⟩
                        · cases e
                          exact xw_yr hd0 79 [0, 0, 1, 0, 0, 1, 0, 0, 1, 1, 0, 0, 0, 0, 0, 0, 0] rfl ⟨nt h1, nt h2, rfl, rfl, nt h3, nt h4, rfl, rfl, nt h5, rfl, decide_eq_true h9, rfl, h10, nt h11, nt h12, nnt h13, nt h14, nnt h15, nnt h16, rfl, rfl, trivial⟩ ⟨rfl, rfl⟩
                        · cases e
                          exact xw_yr hd0 75 [0, 0, 1, 0, 0, 1, 0, 0, 1, 1, 0, 0, 0, 0, 0, 1, 1] rfl ⟨nt h1, nt h2, rfl, rfl, nt h3, nt h4, rfl, rfl, nt h5, rfl, decide_eq_true h9, rfl, h10, nt h11, nt h12, nnt h13, nt h14, nnt h15, nt h16, rfl, rfl, trivial⟩ ⟨rfl, rfl⟩
                      · cases e
                        exact xw_yr hd0 72 [0, 0, 1, 0, 0, 1, 0, 0, 1, 1, 0, 0, 0, 0, 1, 1] rfl ⟨nt h1, nt h2, rfl, rfl, nt h3, nt h4, rfl, rfl, nt h5, rfl, decide_eq_true h9, rfl, h10, nt h11, nt h12, nnt h13, nt h14, nt h15, rfl, rfl, trivial⟩ ⟨rfl, rfl⟩
                  · rcases ite_ok e with ⟨h17, e⟩ | ⟨h17, e⟩
                    · rcases ite_ok e with ⟨h18, e⟩ | ⟨h18, e⟩
                      · cases e
                        exact xw_yr hd0 76 [0, 0, 1, 0, 0, 1, 0, 0, 1, 1, 0, 0, 1, 0, 0, 0] rfl ⟨nt h1, nt h2, rfl, rfl, nt h3, nt h4, rfl, rfl, nt h5, rfl, decide_eq_true h9, rfl, h10, nt h11, nt h12, nt h13, nnt h17, nnt h18, rfl, rfl, trivial⟩ ⟨rfl, rfl⟩
                      · cases e
                        exact xw_yr hd0 72 [0, 0, 1, 0, 0, 1, 0, 0, 1, 1, 0, 0, 1, 0, 1, 1] rfl ⟨nt h1, nt h2, rfl, rfl, nt h3, nt h4, rfl, rfl, nt h5, rfl, decide_eq_true h9, rfl, h10, nt h11, nt h12, nt h13, nnt h17, nt h18, rfl, rfl, trivial⟩ ⟨rfl, rfl⟩
                    · cases e
                      exact xw_yr hd0 69 [0, 0, 1, 0, 0, 1, 0, 0, 1, 1, 0, 0, 1, 1, 1] rfl ⟨nt h1, nt h2, rfl, rfl, nt h3, nt h4, rfl, rfl, nt h5, rfl, decide_eq_true h9, rfl, h10, nt h11, nt h12, nt h13, nt h17, rfl, rfl, trivial⟩ ⟨rfl, rfl⟩
            · cases e
              exact xw_yr hd0 46 [0, 0, 1, 0, 0, 1, 0, 0, 0] rfl ⟨nt h1, nt h2, rfl, rfl, nt h3, nt h4, rfl, rfl, nt h5, rfl, nt h9, rfl, trivial⟩ ⟨rfl, rfl⟩
