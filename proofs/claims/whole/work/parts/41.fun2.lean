def fX6_begin (l1 : Nat) (l2 : Int32) (l3 : Int32) (l4 : Int32) (A V : xM) (cu : Value) : Option (xS) := some ((aw (aw (aw A 83 (3 : Int32) l2) 83 (4 : Int32) l3) 83 (5 : Int32) l4), (up2 V 81 5 l2), (.ref l1))
def fX3_prepare (l1 : Nat) (l2 : Int32) (l3 : Int32) (l4 : Int32) (A V : xM) (cu : Value) : Option (xS) := bS (fX6_begin l1 l2 l3 (0 : Int32) A V cu) (fun A2 V3 c4 => bS (fJ7_fill_53178 94 (-1 : Int32) A2 (up2 (up2 V3 84 13 l2) 84 14 l4) c4) (fun A7 V8 c9 => some (A7, V8, c9)))
def fX3_standing (l0 : Int32) (l1 : Int32) (A V : xM) : Option (Int32) := bC (xq_in (l0 &&& (31 : Int32)) 32) (bC (xq_in (l1 &&& (31 : Int32)) 32) (some (((2 : Int32) * (xk_three.getD (l0 &&& (31 : Int32)).toNatClampNeg 0)) + (xk_three.getD (l1 &&& (31 : Int32)).toNatClampNeg 0))))
def fX3_reach (l1 : Int32) (l2 : Int32) (l3 : Int32) (l4 : Int32) (A V : xM) (cu : Value) : Option (xS) := bI (fX3_standing l1 l2 A V) (fun x1 => if x1 < 0 then (some (A, V, cu)) else (if (243 : Int32) ≤ x1 then (some (A, V, cu)) else (bC (xq_in x1 243) (if (A 89 x1.toNatClampNeg) = 0 then (if (V 84 11) < (243 : Int32) then (bC (xq_in (V 84 11) 243) (some ((aw (aw (aw (aw (aw A 89 x1 (1 : Int32)) 90 (V 84 11) l1) 91 (V 84 11) l2) 92 (V 84 11) l3) 93 (V 84 11) l4), (up2 V 84 11 ((V 84 11) + (1 : Int32))), cu))) else (some (A, V, cu))) else (some (A, V, cu))))))
def fX6_singers (l1 : Nat) (l2 : Int32) (A V : xM) : Option (Int32) := bC (xq_in (V 81 5) 6) (bI (fJ6_bitCount_0f7a4 l2 A V) (fun x2 => bI (fX2_singers ((A (l1 + 1) (V 81 5).toNatClampNeg) &&& l2) x2 A V) (fun x4 => some x4)))
def fX6_able (l1 : Nat) (A V : xM) : Option (Int32) := bC (xq_in (V 81 5) 6) (if (A 72 (V 81 5).toNatClampNeg) < 0 then (some ((-1 : Int32) &&& ((A (l1 + 1) (V 81 5).toNatClampNeg) ^^^ (-1 : Int32)))) else (if (6 : Int32) ≤ (A 72 (V 81 5).toNatClampNeg) then (some ((-1 : Int32) &&& ((A (l1 + 1) (V 81 5).toNatClampNeg) ^^^ (-1 : Int32)))) else (bC (xq_in (A 72 (V 81 5).toNatClampNeg) 6) (some ((A (l1 + 1) (A 72 (V 81 5).toNatClampNeg).toNatClampNeg) &&& ((A (l1 + 1) (V 81 5).toNatClampNeg) ^^^ (-1 : Int32)))))))
def fX6_couldTeach (l1 : Nat) (l2 : Int32) (A V : xM) : Option (Int32) := bI (fX6_singers l1 l2 A V) (fun x1 => if x1 = 0 then (some (0 : Int32)) else (bI (fX6_able l1 A V) (fun x4 => if (x4 &&& l2) = 0 then (some (0 : Int32)) else (some (1 : Int32)))))
def fX6_before (l1 : Int32) (l2 : Int32) (l3 : Int32) (A V : xM) (cu : Value) : Option (xS) := some ((aw (aw (aw A 83 (0 : Int32) l1) 83 (1 : Int32) l2) 83 (2 : Int32) l3), V, cu)
def fX3_isLesson (tx : List xh_T) (l1 : Int32) (l2 : Int32) (l3 : Int32) (A V : xM) (cu : Value) : Option (Int32 × xS) := if ((((l1 * (6 : Int32)) + l2) * (6 : Int32)) + l3) < 0 then (some ((0 : Int32), A, V, cu)) else (if ((((l1 * (6 : Int32)) + l2) * (6 : Int32)) + l3) < (Int32.ofNat 216) then (bC (xq_in ((((l1 * (6 : Int32)) + l2) * (6 : Int32)) + l3) 216) (if (A 94 ((((l1 * (6 : Int32)) + l2) * (6 : Int32)) + l3).toNatClampNeg) = (-1 : Int32) then (bS (fX6_before l1 l2 l3 A V cu) (fun A6 V7 c8 => bX (fX6_says tx (0 : Int32) A6 V7 c8) (fun x10 A11 V12 c13 => if x10 = 0 then (if ((aw A11 94 ((((l1 * (6 : Int32)) + l2) * (6 : Int32)) + l3) (0 : Int32)) 94 ((((l1 * (6 : Int32)) + l2) * (6 : Int32)) + l3).toNatClampNeg) = (1 : Int32) then (some ((1 : Int32), (aw A11 94 ((((l1 * (6 : Int32)) + l2) * (6 : Int32)) + l3) (0 : Int32)), V12, c13)) else (some ((0 : Int32), (aw A11 94 ((((l1 * (6 : Int32)) + l2) * (6 : Int32)) + l3) (0 : Int32)), V12, c13))) else (bX (fX6_says tx (1 : Int32) A11 V12 c13) (fun x17 A18 V19 c20 => if x17 = 0 then (if ((aw A18 94 ((((l1 * (6 : Int32)) + l2) * (6 : Int32)) + l3) (0 : Int32)) 94 ((((l1 * (6 : Int32)) + l2) * (6 : Int32)) + l3).toNatClampNeg) = (1 : Int32) then (some ((1 : Int32), (aw A18 94 ((((l1 * (6 : Int32)) + l2) * (6 : Int32)) + l3) (0 : Int32)), V19, c20)) else (some ((0 : Int32), (aw A18 94 ((((l1 * (6 : Int32)) + l2) * (6 : Int32)) + l3) (0 : Int32)), V19, c20))) else (if ((aw A18 94 ((((l1 * (6 : Int32)) + l2) * (6 : Int32)) + l3) (1 : Int32)) 94 ((((l1 * (6 : Int32)) + l2) * (6 : Int32)) + l3).toNatClampNeg) = (1 : Int32) then (some ((1 : Int32), (aw A18 94 ((((l1 * (6 : Int32)) + l2) * (6 : Int32)) + l3) (1 : Int32)), V19, c20)) else (some ((0 : Int32), (aw A18 94 ((((l1 * (6 : Int32)) + l2) * (6 : Int32)) + l3) (1 : Int32)), V19, c20)))))))) else (if (A 94 ((((l1 * (6 : Int32)) + l2) * (6 : Int32)) + l3).toNatClampNeg) = (1 : Int32) then (some ((1 : Int32), A, V, cu)) else (some ((0 : Int32), A, V, cu))))) else (some ((0 : Int32), A, V, cu)))
def fX6_hear (l1 : Nat) (l2 : Int32) (l3 : Int32) (l4 : Int32) (A V : xM) (cu : Value) : Option (xS) := bI (fX6_able l1 A V) (fun x1 => bC (xq_in (V 81 5) 6) (bI (fX2_wholeOf (l3 &&& x1) (0 : Int32) (A (l1 + 2) (V 81 5).toNatClampNeg) A V) (fun x4 => bI (fX2_wholeOf (l4 &&& x1) (1 : Int32) (A (l1 + 2) (V 81 5).toNatClampNeg) A V) (fun x6 => bI (fX2_halfOf (l3 &&& x1) (0 : Int32) (A (l1 + 2) (V 81 5).toNatClampNeg) A V) (fun x8 => bI (fX2_halfOf (l4 &&& x1) (1 : Int32) (A (l1 + 2) (V 81 5).toNatClampNeg) A V) (fun x10 => if (l2 &&& (V 65 7)) = 0 then (if (l2 &&& (A (l1 + 3) (V 81 5).toNatClampNeg)) = 0 then (some ((aw (aw A (l1 + 2) (V 81 5) (((A (l1 + 2) (V 81 5).toNatClampNeg) &&& (((l3 &&& x1) ||| (l4 &&& x1)) ^^^ (-1 : Int32))) ||| (x8 ||| x10))) (l1 + 1) (V 81 5) (((aw A (l1 + 2) (V 81 5) (((A (l1 + 2) (V 81 5).toNatClampNeg) &&& (((l3 &&& x1) ||| (l4 &&& x1)) ^^^ (-1 : Int32))) ||| (x8 ||| x10))) (l1 + 1) (V 81 5).toNatClampNeg) ||| (x4 ||| x6))), V, cu)) else (some ((aw (aw (aw A (l1 + 2) (V 81 5) (((A (l1 + 2) (V 81 5).toNatClampNeg) &&& (((l3 &&& x1) ||| (l4 &&& x1)) ^^^ (-1 : Int32))) ||| (x8 ||| x10))) (l1 + 1) (V 81 5) (((aw A (l1 + 2) (V 81 5) (((A (l1 + 2) (V 81 5).toNatClampNeg) &&& (((l3 &&& x1) ||| (l4 &&& x1)) ^^^ (-1 : Int32))) ||| (x8 ||| x10))) (l1 + 1) (V 81 5).toNatClampNeg) ||| (x4 ||| x6))) (l1 + 3) (V 81 5) (((aw (aw A (l1 + 2) (V 81 5) (((A (l1 + 2) (V 81 5).toNatClampNeg) &&& (((l3 &&& x1) ||| (l4 &&& x1)) ^^^ (-1 : Int32))) ||| (x8 ||| x10))) (l1 + 1) (V 81 5) (((aw A (l1 + 2) (V 81 5) (((A (l1 + 2) (V 81 5).toNatClampNeg) &&& (((l3 &&& x1) ||| (l4 &&& x1)) ^^^ (-1 : Int32))) ||| (x8 ||| x10))) (l1 + 1) (V 81 5).toNatClampNeg) ||| (x4 ||| x6))) (l1 + 3) (V 81 5).toNatClampNeg) ||| (x4 ||| x6))), V, cu))) else (some ((aw (aw (aw A (l1 + 2) (V 81 5) (((A (l1 + 2) (V 81 5).toNatClampNeg) &&& (((l3 &&& x1) ||| (l4 &&& x1)) ^^^ (-1 : Int32))) ||| (x8 ||| x10))) (l1 + 1) (V 81 5) (((aw A (l1 + 2) (V 81 5) (((A (l1 + 2) (V 81 5).toNatClampNeg) &&& (((l3 &&& x1) ||| (l4 &&& x1)) ^^^ (-1 : Int32))) ||| (x8 ||| x10))) (l1 + 1) (V 81 5).toNatClampNeg) ||| (x4 ||| x6))) (l1 + 3) (V 81 5) (((aw (aw A (l1 + 2) (V 81 5) (((A (l1 + 2) (V 81 5).toNatClampNeg) &&& (((l3 &&& x1) ||| (l4 &&& x1)) ^^^ (-1 : Int32))) ||| (x8 ||| x10))) (l1 + 1) (V 81 5) (((aw A (l1 + 2) (V 81 5) (((A (l1 + 2) (V 81 5).toNatClampNeg) &&& (((l3 &&& x1) ||| (l4 &&& x1)) ^^^ (-1 : Int32))) ||| (x8 ||| x10))) (l1 + 1) (V 81 5).toNatClampNeg) ||| (x4 ||| x6))) (l1 + 3) (V 81 5).toNatClampNeg) ||| (x4 ||| x6))), V, cu))))))))
def fX3_isMoved (tx : List xh_T) (l1 : Int32) (l2 : Int32) (l3 : Int32) (A V : xM) (cu : Value) : Option (Int32 × xS) := bC (xq_in l1 243) (bC (xq_in (V 84 13) 6) (bI (fX6_couldTeach 85 l2 (aw (aw A 86 (V 84 13) (A 90 l1.toNatClampNeg)) 87 (V 84 13) (A 91 l1.toNatClampNeg)) V) (fun x3 => if x3 = 0 then (some ((0 : Int32), (aw (aw A 86 (V 84 13) (A 90 l1.toNatClampNeg)) 87 (V 84 13) (A 91 l1.toNatClampNeg)), V, cu)) else (bI (fX6_singers 85 l2 (aw (aw A 86 (V 84 13) (A 90 l1.toNatClampNeg)) 87 (V 84 13) (A 91 l1.toNatClampNeg)) V) (fun x6 => bI (fJ6_bitCount_0f7a4 ((A 90 l1.toNatClampNeg) &&& l2) (aw (aw A 86 (V 84 13) (A 90 l1.toNatClampNeg)) 87 (V 84 13) (A 91 l1.toNatClampNeg)) V) (fun x8 => bI (fJ6_bitCount_0f7a4 x6 (aw (aw A 86 (V 84 13) (A 90 l1.toNatClampNeg)) 87 (V 84 13) (A 91 l1.toNatClampNeg)) V) (fun x10 => bI (fJ6_bitCount_0f7a4 l2 (aw (aw A 86 (V 84 13) (A 90 l1.toNatClampNeg)) 87 (V 84 13) (A 91 l1.toNatClampNeg)) V) (fun x12 => bX (fX3_isLesson tx x8 x10 x12 (aw (aw A 86 (V 84 13) (A 90 l1.toNatClampNeg)) 87 (V 84 13) (A 91 l1.toNatClampNeg)) V cu) (fun x14 A15 V16 c17 => if x14 = 0 then (some ((0 : Int32), A15, V16, c17)) else (bS (fX6_hear 85 x6 l2 (0 : Int32) A15 V16 c17) (fun A21 V22 c23 => bC (xq_in (V22 84 13) 6) (if (((A21 86 (V22 84 13).toNatClampNeg) ^^^ (A 90 l1.toNatClampNeg)) ||| ((A21 87 (V22 84 13).toNatClampNeg) ^^^ (A 91 l1.toNatClampNeg))) = 0 then (some ((0 : Int32), A21, V22, c23)) else (if ((((A21 86 (V22 84 13).toNatClampNeg) ^^^ (A 90 l1.toNatClampNeg)) ||| ((A21 87 (V22 84 13).toNatClampNeg) ^^^ (A 91 l1.toNatClampNeg))) &&& l3) = 0 then (some ((1 : Int32), A21, V22, c23)) else (some ((0 : Int32), A21, V22, c23)))))))))))))))
def fX3_goOn_L3 (tx : List xh_T) (l1 : Int32) (l2 : Int32) (l3 : Int32) (l4 : Int32) (ex : xM → xM → Value → Option (xS)) : Nat → Int32 → xM → xM → Value → Option (xS)
  | 0, _, _, _, _ => none
  | n + 1, l5, A, V, cu => if (((1 : Int32) <<< ((V 65 3) &&& 31)) - (1 : Int32)) < l5 then (ex  A V cu) else (if (V 84 0) = (-1 : Int32) then (bI (fJ6_bitCount_0f7a4 l5 A V) (fun x3 => if (V 84 14) < x3 then (fX3_goOn_L3 tx l1 l2 l3 l4 ex n (l5 + Int32.ofInt 1) A V cu) else (if (l5 &&& l4) = 0 then (bX (fX3_isMoved tx l1 l5 l3 A V cu) (fun x7 A8 V9 c10 => if x7 = 0 then (fX3_goOn_L3 tx l1 l2 l3 l4 ex n (l5 + Int32.ofInt 1) A8 V9 c10) else (bC (xq_in l1 243) (if (A8 92 l1.toNatClampNeg) = 0 then (bC (xq_in (V9 84 13) 6) (bS (fX3_reach (A8 86 (V9 84 13).toNatClampNeg) (A8 87 (V9 84 13).toNatClampNeg) ((A8 92 l1.toNatClampNeg) + (1 : Int32)) l5 A8 V9 c10) (fun A17 V18 c19 => bC (xq_in (V18 84 13) 6) (if (l2 &&& ((A17 86 (V18 84 13).toNatClampNeg) ^^^ (-1 : Int32))) = 0 then (fX3_goOn_L3 tx l1 l2 l3 l4 ex n (l5 + Int32.ofInt 1) A17 (up2 (up2 V18 84 0 ((A17 92 l1.toNatClampNeg) + (1 : Int32))) 84 1 l5) c19) else (fX3_goOn_L3 tx l1 l2 l3 l4 ex n (l5 + Int32.ofInt 1) A17 V18 c19))))) else (bC (xq_in (V9 84 13) 6) (bS (fX3_reach (A8 86 (V9 84 13).toNatClampNeg) (A8 87 (V9 84 13).toNatClampNeg) ((A8 92 l1.toNatClampNeg) + (1 : Int32)) (A8 93 l1.toNatClampNeg) A8 V9 c10) (fun A25 V26 c27 => bC (xq_in (V26 84 13) 6) (if (l2 &&& ((A25 86 (V26 84 13).toNatClampNeg) ^^^ (-1 : Int32))) = 0 then (fX3_goOn_L3 tx l1 l2 l3 l4 ex n (l5 + Int32.ofInt 1) A25 (up2 (up2 V26 84 0 ((A25 92 l1.toNatClampNeg) + (1 : Int32))) 84 1 (A8 93 l1.toNatClampNeg)) c27) else (fX3_goOn_L3 tx l1 l2 l3 l4 ex n (l5 + Int32.ofInt 1) A25 V26 c27))))))))) else (fX3_goOn_L3 tx l1 l2 l3 l4 ex n (l5 + Int32.ofInt 1) A V cu)))) else (ex  A V cu))
def fX3_goOn (tx : List xh_T) (l1 : Int32) (l2 : Int32) (l3 : Int32) (l4 : Int32) (A V : xM) (cu : Value) : Option (xS) := fX3_goOn_L3 tx l1 l2 l3 l4 (fun (A39 V40 : xM) (c41 : Value) => some (A39, V40, c41)) FU (1 : Int32) A V cu
def fX3_seek_L96 (tx : List xh_T) (l1 : Int32) (l2 : Int32) (l3 : Int32) (ex : xM → xM → Value → Option (Int32 × xS)) : Nat → Int32 → xM → xM → Value → Option (Int32 × xS)
  | 0, _, _, _, _ => none
  | n + 1, l4, A, V, cu => if (V 84 11) ≤ l4 then (ex  A V cu) else (if (243 : Int32) ≤ l4 then (ex  A V cu) else (if (V 84 0) = (-1 : Int32) then (bS (fX3_goOn tx l4 l1 l2 l3 A V cu) (fun A5 V6 c7 => fX3_seek_L96 tx l1 l2 l3 ex n (l4 + Int32.ofInt 1) A5 V6 c7)) else (ex  A V cu)))
def fX3_seek (tx : List xh_T) (l1 : Int32) (l2 : Int32) (l3 : Int32) (A V : xM) (cu : Value) : Option (Int32 × xS) := bC (xq_in ((up2 (up2 V 84 0 (-1 : Int32)) 84 1 (-1 : Int32)) 84 13) 6) (if (l1 &&& ((A 74 ((up2 (up2 V 84 0 (-1 : Int32)) 84 1 (-1 : Int32)) 84 13).toNatClampNeg) ^^^ (-1 : Int32))) = 0 then (some (((up2 (up2 (up2 V 84 0 (-1 : Int32)) 84 1 (-1 : Int32)) 84 0 (0 : Int32)) 84 0), A, (up2 (up2 (up2 V 84 0 (-1 : Int32)) 84 1 (-1 : Int32)) 84 0 (0 : Int32)), cu)) else (bS (fX1_take 85 73 A (up2 (up2 V 84 0 (-1 : Int32)) 84 1 (-1 : Int32)) cu) (fun A12 V13 c14 => bS (fJ7_fill_53178 89 (0 : Int32) A12 V13 c14) (fun A17 V18 c19 => bC (xq_in ((up2 V18 84 11 (0 : Int32)) 84 13) 6) (bS (fX3_reach (A17 74 ((up2 V18 84 11 (0 : Int32)) 84 13).toNatClampNeg) (A17 75 ((up2 V18 84 11 (0 : Int32)) 84 13).toNatClampNeg) (0 : Int32) (0 : Int32) A17 (up2 V18 84 11 (0 : Int32)) c19) (fun A23 V24 c25 => fX3_seek_L96 tx l1 l2 l3 (fun (A31 V32 : xM) (c33 : Value) => some ((V32 84 0), A31, V32, c33)) FU (0 : Int32) A23 V24 c25))))))
def fX6_may (tx : List xh_T) (l1 : Nat) (l2 : Int32) (A V : xM) (cu : Value) : Option (Int32 × xS) := bC (xq_in (V 81 5) 6) (bI (fJ6_bitCount_0f7a4 ((A (l1 + 1) (V 81 5).toNatClampNeg) &&& l2) A V) (fun x2 => bI (fX6_singers l1 l2 A V) (fun x4 => bI (fJ6_bitCount_0f7a4 x4 A V) (fun x6 => bI (fJ6_bitCount_0f7a4 l2 A V) (fun x8 => bS (fX6_before x2 x6 x8 A V cu) (fun A11 V12 c13 => bX (fX6_says tx (0 : Int32) A11 V12 c13) (fun x15 A16 V17 c18 => bC (decide (x15 = 0) || decide (x15 = 1)) (some (x15, A16, V17, c18)))))))))
def fX6_spread (tx : List xh_T) (l1 : Nat) (l2 : Int32) (l3 : Int32) (A V : xM) (cu : Value) : Option (xS) := bI (fX6_singers l1 l2 A V) (fun x1 => if x1 = 0 then (some (A, V, cu)) else (bX (fX6_says tx (1 : Int32) A V cu) (fun x4 A5 V6 c7 => if x4 = 0 then (if l3 = 0 then (bS (fX6_hear l1 x1 (0 : Int32) (0 : Int32) A5 V6 c7) (fun A12 V13 c14 => some (A12, V13, c14))) else (bX (fX6_says tx (2 : Int32) A5 V6 c7) (fun x16 A17 V18 c19 => if x16 = 0 then (bS (fX6_hear l1 x1 (0 : Int32) (0 : Int32) A17 V18 c19) (fun A23 V24 c25 => some (A23, V24, c25))) else (bS (fX6_hear l1 x1 (0 : Int32) l3 A17 V18 c19) (fun A28 V29 c30 => some (A28, V29, c30)))))) else (if l3 = 0 then (bS (fX6_hear l1 x1 l2 (0 : Int32) A5 V6 c7) (fun A34 V35 c36 => some (A34, V35, c36))) else (bX (fX6_says tx (2 : Int32) A5 V6 c7) (fun x38 A39 V40 c41 => if x38 = 0 then (bS (fX6_hear l1 x1 l2 (0 : Int32) A39 V40 c41) (fun A45 V46 c47 => some (A45, V46, c47))) else (bS (fX6_hear l1 x1 l2 l3 A39 V40 c41) (fun A50 V51 c52 => some (A50, V51, c52)))))))))
set_option maxRecDepth 20000 in
set_option maxHeartbeats 4000000 in
theorem sX6_begin {LL : Nat} {xs : Nat → Int32} {tx : List xh_T} {d : Nat} {A V : xM} {cu : Value} {A' V' : xM} {c' : Value} {l1 : Nat} {l2 l3 l4 : Int32} (hd : 61 ≤ d) (e : fX6_begin l1 l2 l3 l4 A V cu = some (A', V', c')) : xe (xk_ro LL xs) d 55 [.ref 81, .ref l1, .int l2, .int l3, .int l4] (xh A V tx cu) (qU (xh A' V' tx c')) := by
  obtain ⟨d, rfl⟩ : ∃ d1, d = d1 + 1 := ⟨d - 1, by omega⟩
  replace hd : 60 ≤ d := by omega
  have hd0 : 60 ≤ d := by omega
  refine xe_of (co := xk_55) (nl := 5) rfl rfl rfl ?_
  unfold fX6_begin at e
  cases e
  exact xw_yr hd0 23 [] rfl ⟨rfl, rfl, rfl, rfl, trivial⟩ ⟨rfl, rfl⟩
set_option maxRecDepth 20000 in
set_option maxHeartbeats 4000000 in
theorem sX3_prepare {LL : Nat} {xs : Nat → Int32} {tx : List xh_T} {d : Nat} {A V : xM} {cu : Value} {A' V' : xM} {c' : Value} {l1 : Nat} {l2 l3 l4 : Int32} (hd : 62 ≤ d) (e : fX3_prepare l1 l2 l3 l4 A V cu = some (A', V', c')) : xe (xk_ro LL xs) d 19 [.ref 84, .ref l1, .int l2, .int l3, .int l4] (xh A V tx cu) (qU (xh A' V' tx c')) := by
  obtain ⟨d, rfl⟩ : ∃ d1, d = d1 + 1 := ⟨d - 1, by omega⟩
  replace hd : 61 ≤ d := by omega
  have hd0 : 60 ≤ d := by omega
  refine xe_of (co := xk_19) (nl := 5) rfl rfl rfl ?_
  unfold fX3_prepare at e
  refine xw_y hd0 6 [] rfl trivial ?_
  obtain ⟨A2, V3, c4, e5, e⟩ := bS_ok e
  refine xw_call (k := 55) (j := 5) rfl (fun F => xm_c_ok (y_c_ok rfl) F) rfl rfl rfl (sX6_begin (by omega) e5) ?_
  rintro _ _ ⟨rfl, rfl⟩
  refine xw_y hd0 9 [] rfl ⟨rfl, rfl, trivial⟩ ?_
  obtain ⟨A7, V8, c9, e10, e⟩ := bS_ok e
  refine xw_call (k := 217) (j := 2) rfl (fun F => xm_c_ok (y_c_ok rfl) F) rfl rfl rfl (sJ7_fill_53178_94 (by omega) e10) ?_
  rintro _ _ ⟨rfl, rfl⟩
  cases e
  exact xw_yr hd0 2 [] rfl trivial ⟨rfl, rfl⟩
set_option maxRecDepth 20000 in
set_option maxHeartbeats 4000000 in
theorem sX3_standing {LL : Nat} {xs : Nat → Int32} {tx : List xh_T} {d : Nat} {A V : xM} {cu : Value} {r : Int32} {l0 l1 : Int32} (hd : 61 ≤ d) (e : fX3_standing l0 l1 A V = some r) : xe (xk_ro LL xs) d 21 [.int l0, .int l1] (xh A V tx cu) (qI r (xh A V tx cu)) := by
  obtain ⟨d, rfl⟩ : ∃ d1, d = d1 + 1 := ⟨d - 1, by omega⟩
  replace hd : 60 ≤ d := by omega
  have hd0 : 60 ≤ d := by omega
  refine xe_of (co := xk_21) (nl := 2) rfl rfl rfl ?_
  unfold fX3_standing at e
  obtain ⟨h1, e⟩ := bC_ok e
  obtain ⟨h2, e⟩ := bC_ok e
  cases e
  exact xw_yr hd0 15 [] rfl ⟨h1, h2, rfl, trivial⟩ ⟨rfl, rfl⟩
set_option maxRecDepth 20000 in
set_option maxHeartbeats 4000000 in
theorem sX3_reach {LL : Nat} {xs : Nat → Int32} {tx : List xh_T} {d : Nat} {A V : xM} {cu : Value} {A' V' : xM} {c' : Value} {l1 l2 l3 l4 : Int32} (hd : 62 ≤ d) (e : fX3_reach l1 l2 l3 l4 A V cu = some (A', V', c')) : xe (xk_ro LL xs) d 25 [.ref 84, .int l1, .int l2, .int l3, .int l4] (xh A V tx cu) (qU (xh A' V' tx c')) := by
  obtain ⟨d, rfl⟩ : ∃ d1, d = d1 + 1 := ⟨d - 1, by omega⟩
  replace hd : 61 ≤ d := by omega
  have hd0 : 60 ≤ d := by omega
  refine xe_of (co := xk_25) (nl := 6) rfl rfl rfl ?_
  unfold fX3_reach at e
  refine xw_y hd0 2 [] rfl trivial ?_
  obtain ⟨x1, e2, e⟩ := bI_ok e
  refine xw_call (k := 21) (j := 2) rfl (fun F => xm_c_ok (y_c_ok rfl) F) rfl rfl rfl (sX3_standing (by omega) e2) ?_
  rintro _ _ ⟨rfl, rfl⟩
  rcases ite_ok e with ⟨h3, e⟩ | ⟨h3, e⟩
  · cases e
    exact xw_yr hd0 5 [1] rfl ⟨decide_eq_true h3, trivial⟩ ⟨rfl, rfl⟩
  · rcases ite_ok e with ⟨h4, e⟩ | ⟨h4, e⟩
    · cases e
      exact xw_yr hd0 8 [0, 1] rfl ⟨nt h3, decide_eq_true h4, trivial⟩ ⟨rfl, rfl⟩
    · obtain ⟨h5, e⟩ := bC_ok e
      rcases ite_ok e with ⟨h6, e⟩ | ⟨h6, e⟩
      · rcases ite_ok e with ⟨h7, e⟩ | ⟨h7, e⟩
        · obtain ⟨h8, e⟩ := bC_ok e
          cases e
          exact xw_yr hd0 52 [0, 0, 0, 1] rfl ⟨nt h3, nt h4, h5, nnt h6, decide_eq_true h7, h5, h8, h8, h8, h8, rfl, trivial⟩ ⟨rfl, rfl⟩
        · cases e
          exact xw_yr hd0 17 [0, 0, 0, 0] rfl ⟨nt h3, nt h4, h5, nnt h6, nt h7, trivial⟩ ⟨rfl, rfl⟩
      · cases e
        exact xw_yr hd0 13 [0, 0, 1] rfl ⟨nt h3, nt h4, h5, nt h6, trivial⟩ ⟨rfl, rfl⟩
set_option maxRecDepth 20000 in
set_option maxHeartbeats 4000000 in
theorem sX6_singers_77 {LL : Nat} {xs : Nat → Int32} {tx : List xh_T} {d : Nat} {A V : xM} {cu : Value} {r : Int32} {l2 : Int32} (hd : 62 ≤ d) (e : fX6_singers 77 l2 A V = some r) : xe (xk_ro LL xs) d 59 [.ref 81, .ref 77, .int l2] (xh A V tx cu) (qI r (xh A V tx cu)) := by
  obtain ⟨d, rfl⟩ : ∃ d1, d = d1 + 1 := ⟨d - 1, by omega⟩
  replace hd : 61 ≤ d := by omega
  have hd0 : 60 ≤ d := by omega
  refine xe_of (co := xk_59) (nl := 3) rfl rfl rfl ?_
  unfold fX6_singers at e
  obtain ⟨h1, e⟩ := bC_ok e
  refine xw_y hd0 10 [] rfl ⟨h1, trivial⟩ ?_
  obtain ⟨x2, e3, e⟩ := bI_ok e
  refine xw_call (k := 216) (j := 1) rfl (fun F => xm_c_ok (y_c_ok rfl) F) rfl rfl rfl (sJ6_bitCount_0f7a4 (by omega) e3) ?_
  rintro _ _ ⟨rfl, rfl⟩
  obtain ⟨x4, e5, e⟩ := bI_ok e
  refine xw_call (k := 14) (j := 3) rfl (fun F => xm_c_ok (y_c_ok rfl) F) rfl rfl rfl (sX2_singers (by omega) e5) ?_
  rintro _ _ ⟨rfl, rfl⟩
  cases e
  exact xw_yr hd0 2 [] rfl ⟨rfl, trivial⟩ ⟨rfl, rfl⟩
set_option maxRecDepth 20000 in
set_option maxHeartbeats 4000000 in
theorem sX6_singers_73 {LL : Nat} {xs : Nat → Int32} {tx : List xh_T} {d : Nat} {A V : xM} {cu : Value} {r : Int32} {l2 : Int32} (hd : 62 ≤ d) (e : fX6_singers 73 l2 A V = some r) : xe (xk_ro LL xs) d 59 [.ref 81, .ref 73, .int l2] (xh A V tx cu) (qI r (xh A V tx cu)) := by
  obtain ⟨d, rfl⟩ : ∃ d1, d = d1 + 1 := ⟨d - 1, by omega⟩
  replace hd : 61 ≤ d := by omega
  have hd0 : 60 ≤ d := by omega
  refine xe_of (co := xk_59) (nl := 3) rfl rfl rfl ?_
  unfold fX6_singers at e
  obtain ⟨h1, e⟩ := bC_ok e
  refine xw_y hd0 10 [] rfl ⟨h1, trivial⟩ ?_
  obtain ⟨x2, e3, e⟩ := bI_ok e
  refine xw_call (k := 216) (j := 1) rfl (fun F => xm_c_ok (y_c_ok rfl) F) rfl rfl rfl (sJ6_bitCount_0f7a4 (by omega) e3) ?_
  rintro _ _ ⟨rfl, rfl⟩
  obtain ⟨x4, e5, e⟩ := bI_ok e
  refine xw_call (k := 14) (j := 3) rfl (fun F => xm_c_ok (y_c_ok rfl) F) rfl rfl rfl (sX2_singers (by omega) e5) ?_
  rintro _ _ ⟨rfl, rfl⟩
  cases e
  exact xw_yr hd0 2 [] rfl ⟨rfl, trivial⟩ ⟨rfl, rfl⟩
set_option maxRecDepth 20000 in
set_option maxHeartbeats 4000000 in
theorem sX6_singers_85 {LL : Nat} {xs : Nat → Int32} {tx : List xh_T} {d : Nat} {A V : xM} {cu : Value} {r : Int32} {l2 : Int32} (hd : 62 ≤ d) (e : fX6_singers 85 l2 A V = some r) : xe (xk_ro LL xs) d 59 [.ref 81, .ref 85, .int l2] (xh A V tx cu) (qI r (xh A V tx cu)) := by
  obtain ⟨d, rfl⟩ : ∃ d1, d = d1 + 1 := ⟨d - 1, by omega⟩
  replace hd : 61 ≤ d := by omega
  have hd0 : 60 ≤ d := by omega
  refine xe_of (co := xk_59) (nl := 3) rfl rfl rfl ?_
  unfold fX6_singers at e
  obtain ⟨h1, e⟩ := bC_ok e
  refine xw_y hd0 10 [] rfl ⟨h1, trivial⟩ ?_
  obtain ⟨x2, e3, e⟩ := bI_ok e
  refine xw_call (k := 216) (j := 1) rfl (fun F => xm_c_ok (y_c_ok rfl) F) rfl rfl rfl (sJ6_bitCount_0f7a4 (by omega) e3) ?_
  rintro _ _ ⟨rfl, rfl⟩
  obtain ⟨x4, e5, e⟩ := bI_ok e
  refine xw_call (k := 14) (j := 3) rfl (fun F => xm_c_ok (y_c_ok rfl) F) rfl rfl rfl (sX2_singers (by omega) e5) ?_
  rintro _ _ ⟨rfl, rfl⟩
  cases e
  exact xw_yr hd0 2 [] rfl ⟨rfl, trivial⟩ ⟨rfl, rfl⟩
set_option maxRecDepth 20000 in
set_option maxHeartbeats 4000000 in
theorem sX6_able_77 {LL : Nat} {xs : Nat → Int32} {tx : List xh_T} {d : Nat} {A V : xM} {cu : Value} {r : Int32} (hd : 61 ≤ d) (e : fX6_able 77 A V = some r) : xe (xk_ro LL xs) d 60 [.ref 81, .ref 77] (xh A V tx cu) (qI r (xh A V tx cu)) := by
  obtain ⟨d, rfl⟩ : ∃ d1, d = d1 + 1 := ⟨d - 1, by omega⟩
  replace hd : 60 ≤ d := by omega
  have hd0 : 60 ≤ d := by omega
  refine xe_of (co := xk_60) (nl := 4) rfl rfl rfl ?_
  unfold fX6_able at e
  obtain ⟨h1, e⟩ := bC_ok e
  rcases ite_ok e with ⟨h2, e⟩ | ⟨h2, e⟩
  · cases e
    exact xw_yr hd0 21 [1] rfl ⟨h1, decide_eq_true h2, h1, rfl, trivial⟩ ⟨rfl, rfl⟩
  · rcases ite_ok e with ⟨h3, e⟩ | ⟨h3, e⟩
    · cases e
      exact xw_yr hd0 24 [0, 1] rfl ⟨h1, nt h2, decide_eq_true h3, h1, rfl, trivial⟩ ⟨rfl, rfl⟩
    · obtain ⟨h4, e⟩ := bC_ok e
      cases e
      exact xw_yr hd0 28 [0, 0] rfl ⟨h1, nt h2, nt h3, h4, h1, rfl, trivial⟩ ⟨rfl, rfl⟩
set_option maxRecDepth 20000 in
set_option maxHeartbeats 4000000 in
theorem sX6_able_85 {LL : Nat} {xs : Nat → Int32} {tx : List xh_T} {d : Nat} {A V : xM} {cu : Value} {r : Int32} (hd : 61 ≤ d) (e : fX6_able 85 A V = some r) : xe (xk_ro LL xs) d 60 [.ref 81, .ref 85] (xh A V tx cu) (qI r (xh A V tx cu)) := by
  obtain ⟨d, rfl⟩ : ∃ d1, d = d1 + 1 := ⟨d - 1, by omega⟩
  replace hd : 60 ≤ d := by omega
  have hd0 : 60 ≤ d := by omega
  refine xe_of (co := xk_60) (nl := 4) rfl rfl rfl ?_
  unfold fX6_able at e
  obtain ⟨h1, e⟩ := bC_ok e
  rcases ite_ok e with ⟨h2, e⟩ | ⟨h2, e⟩
  · cases e
    exact xw_yr hd0 21 [1] rfl ⟨h1, decide_eq_true h2, h1, rfl, trivial⟩ ⟨rfl, rfl⟩
  · rcases ite_ok e with ⟨h3, e⟩ | ⟨h3, e⟩
    · cases e
      exact xw_yr hd0 24 [0, 1] rfl ⟨h1, nt h2, decide_eq_true h3, h1, rfl, trivial⟩ ⟨rfl, rfl⟩
    · obtain ⟨h4, e⟩ := bC_ok e
      cases e
      exact xw_yr hd0 28 [0, 0] rfl ⟨h1, nt h2, nt h3, h4, h1, rfl, trivial⟩ ⟨rfl, rfl⟩
set_option maxRecDepth 20000 in
set_option maxHeartbeats 4000000 in
theorem sX6_couldTeach_77 {LL : Nat} {xs : Nat → Int32} {tx : List xh_T} {d : Nat} {A V : xM} {cu : Value} {r : Int32} {l2 : Int32} (hd : 63 ≤ d) (e : fX6_couldTeach 77 l2 A V = some r) : xe (xk_ro LL xs) d 61 [.ref 81, .ref 77, .int l2] (xh A V tx cu) (qI r (xh A V tx cu)) := by
  obtain ⟨d, rfl⟩ : ∃ d1, d = d1 + 1 := ⟨d - 1, by omega⟩
  replace hd : 62 ≤ d := by omega
  have hd0 : 60 ≤ d := by omega
  refine xe_of (co := xk_61) (nl := 3) rfl rfl rfl ?_
  unfold fX6_couldTeach at e
  refine xw_y hd0 3 [] rfl trivial ?_
  obtain ⟨x1, e2, e⟩ := bI_ok e
  refine xw_call (k := 59) (j := 3) rfl (fun F => xm_c_ok (y_c_ok rfl) F) rfl rfl rfl (sX6_singers_77 (by omega) e2) ?_
  rintro _ _ ⟨rfl, rfl⟩
  rcases ite_ok e with ⟨h3, e⟩ | ⟨h3, e⟩
  · cases e
    exact xw_yr hd0 4 [1] rfl ⟨decide_eq_true h3, rfl, trivial⟩ ⟨rfl, rfl⟩
  · refine xw_y hd0 3 [0] rfl ⟨nt h3, trivial⟩ ?_
    obtain ⟨x4, e5, e⟩ := bI_ok e
    refine xw_call (k := 60) (j := 2) rfl (fun F => xm_c_ok (y_c_ok rfl) F) rfl rfl rfl (sX6_able_77 (by omega) e5) ?_
    rintro _ _ ⟨rfl, rfl⟩
    rcases ite_ok e with ⟨h6, e⟩ | ⟨h6, e⟩
    · cases e
      exact xw_yr hd0 6 [1] rfl ⟨decide_eq_true h6, rfl, trivial⟩ ⟨rfl, rfl⟩
    · cases e
      exact xw_yr hd0 7 [0] rfl ⟨nt h6, rfl, trivial⟩ ⟨rfl, rfl⟩
set_option maxRecDepth 20000 in
set_option maxHeartbeats 4000000 in
theorem sX6_couldTeach_85 {LL : Nat} {xs : Nat → Int32} {tx : List xh_T} {d : Nat} {A V : xM} {cu : Value} {r : Int32} {l2 : Int32} (hd : 63 ≤ d) (e : fX6_couldTeach 85 l2 A V = some r) : xe (xk_ro LL xs) d 61 [.ref 81, .ref 85, .int l2] (xh A V tx cu) (qI r (xh A V tx cu)) := by
  obtain ⟨d, rfl⟩ : ∃ d1, d = d1 + 1 := ⟨d - 1, by omega⟩
  replace hd : 62 ≤ d := by omega
  have hd0 : 60 ≤ d := by omega
  refine xe_of (co := xk_61) (nl := 3) rfl rfl rfl ?_
  unfold fX6_couldTeach at e
  refine xw_y hd0 3 [] rfl trivial ?_
  obtain ⟨x1, e2, e⟩ := bI_ok e
  refine xw_call (k := 59) (j := 3) rfl (fun F => xm_c_ok (y_c_ok rfl) F) rfl rfl rfl (sX6_singers_85 (by omega) e2) ?_
  rintro _ _ ⟨rfl, rfl⟩
  rcases ite_ok e with ⟨h3, e⟩ | ⟨h3, e⟩
  · cases e
    exact xw_yr hd0 4 [1] rfl ⟨decide_eq_true h3, rfl, trivial⟩ ⟨rfl, rfl⟩
  · refine xw_y hd0 3 [0] rfl ⟨nt h3, trivial⟩ ?_
    obtain ⟨x4, e5, e⟩ := bI_ok e
    refine xw_call (k := 60) (j := 2) rfl (fun F => xm_c_ok (y_c_ok rfl) F) rfl rfl rfl (sX6_able_85 (by omega) e5) ?_
    rintro _ _ ⟨rfl, rfl⟩
    rcases ite_ok e with ⟨h6, e⟩ | ⟨h6, e⟩
    · cases e
      exact xw_yr hd0 6 [1] rfl ⟨decide_eq_true h6, rfl, trivial⟩ ⟨rfl, rfl⟩
    · cases e
      exact xw_yr hd0 7 [0] rfl ⟨nt h6, rfl, trivial⟩ ⟨rfl, rfl⟩
set_option maxRecDepth 20000 in
set_option maxHeartbeats 4000000 in
theorem sX6_before {LL : Nat} {xs : Nat → Int32} {tx : List xh_T} {d : Nat} {A V : xM} {cu : Value} {A' V' : xM} {c' : Value} {l1 l2 l3 : Int32} (hd : 61 ≤ d) (e : fX6_before l1 l2 l3 A V cu = some (A', V', c')) : xe (xk_ro LL xs) d 56 [.ref 81, .int l1, .int l2, .int l3] (xh A V tx cu) (qU (xh A' V' tx c')) := by
  obtain ⟨d, rfl⟩ : ∃ d1, d = d1 + 1 := ⟨d - 1, by omega⟩
  replace hd : 60 ≤ d := by omega
  have hd0 : 60 ≤ d := by omega
  refine xe_of (co := xk_56) (nl := 4) rfl rfl rfl ?_
  unfold fX6_before at e
  cases e
  exact xw_yr hd0 17 [] rfl ⟨rfl, rfl, rfl, trivial⟩ ⟨rfl, rfl⟩
set_option maxRecDepth 20000 in
set_option maxHeartbeats 4000000 in
theorem sX3_isLesson {LL : Nat} {xs : Nat → Int32} {tx : List xh_T} {d : Nat} {A V : xM} {cu : Value} {A' V' : xM} {c' : Value} {r : Int32} {l1 l2 l3 : Int32} (hd : 65 ≤ d) (e : fX3_isLesson tx l1 l2 l3 A V cu = some (r, A', V', c')) : xe (xk_ro LL xs) d 24 [.ref 84, .int l1, .int l2, .int l3] (xh A V tx cu) (qI r (xh A' V' tx c')) := by
  obtain ⟨d, rfl⟩ : ∃ d1, d = d1 + 1 := ⟨d - 1, by omega⟩
  replace hd : 64 ≤ d := by omega
  have hd0 : 60 ≤ d := by omega
  refine xe_of (co := xk_24) (nl := 6) rfl rfl rfl ?_
  unfold fX3_isLesson at e
  rcases ite_ok e with ⟨h1, e⟩ | ⟨h1, e⟩
  · cases e
    exact xw_yr hd0 15 [1] rfl ⟨decide_eq_true h1, rfl, trivial⟩ ⟨rfl, rfl⟩
  · rcases ite_ok e with ⟨h2, e⟩ | ⟨h2, e⟩
    · obtain ⟨h3, e⟩ := bC_ok e
      rcases ite_ok e with ⟨h4, e⟩ | ⟨h4, e⟩
      · refine xw_y hd0 28 [0, 1, 0] rfl ⟨nt h1, decide_eq_true h2, h3, nnt h4, trivial⟩ ?_
        obtain ⟨A6, V7, c8, e9, e⟩ := bS_ok e
        refine xw_call (k := 56) (j := 4) rfl (fun F => xm_c_ok (y_c_ok rfl) F) rfl rfl rfl (sX6_before (by omega) e9) ?_
        rintro _ _ ⟨rfl, rfl⟩
        refine xw_y hd0 3 [] rfl trivial ?_
        obtain ⟨x10, A11, V12, c13, e14, e⟩ := bX_ok e
        refine xw_call (k := 63) (j := 2) rfl (fun F => xm_c_ok (y_c_ok rfl) F) rfl rfl rfl (sX6_says (by omega) e14) ?_
        rintro _ _ ⟨rfl, rfl⟩
        rcases ite_ok e with ⟨h15, e⟩ | ⟨h15, e⟩
        · rcases ite_ok e with ⟨h16, e⟩ | ⟨h16, e⟩
          · cases e
            exact xw_yr hd0 20 [1, 1, 0] rfl ⟨decide_eq_true h15, rfl, h3, h3, nnt h16, rfl, trivial⟩ ⟨rfl, rfl⟩
          · cases e
            exact xw_yr hd0 19 [1, 1, 1] rfl ⟨decide_eq_true h15, rfl, h3, h3, nt h16, rfl, trivial⟩ ⟨rfl, rfl⟩
        · refine xw_y hd0 4 [0] rfl ⟨nt h15, trivial⟩ ?_
          obtain ⟨x17, A18, V19, c20, e21, e⟩ := bX_ok e
          refine xw_call (k := 63) (j := 2) rfl (fun F => xm_c_ok (y_c_ok rfl) F) rfl rfl rfl (sX6_says (by omega) e21) ?_
          rintro _ _ ⟨rfl, rfl⟩
          rcases ite_ok e with ⟨h22, e⟩ | ⟨h22, e⟩
          · rcases ite_ok e with ⟨h23, e⟩ | ⟨h23, e⟩
            · cases e
              exact xw_yr hd0 20 [1, 1, 0] rfl ⟨decide_eq_true h22, rfl, h3, h3, nnt h23, rfl, trivial⟩ ⟨rfl, rfl⟩
            · cases e
              exact xw_yr hd0 19 [1, 1, 1] rfl ⟨decide_eq_true h22, rfl, h3, h3, nt h23, rfl, trivial⟩ ⟨rfl, rfl⟩
          · rcases ite_ok e with ⟨h24, e⟩ | ⟨h24, e⟩
            · cases e
              exact xw_yr hd0 22 [0, 0, 0] rfl ⟨nt h22, rfl, h3, h3, nnt h24, rfl, trivial⟩ ⟨rfl, rfl⟩
            · cases e
              exact xw_yr hd0 21 [0, 0, 1] rfl ⟨nt h22, rfl, h3, h3, nt h24, rfl, trivial⟩ ⟨rfl, rfl⟩
      · rcases ite_ok e with ⟨h25, e⟩ | ⟨h25, e⟩
        · cases e
          exact xw_yr hd0 33 [0, 1, 1, 0] rfl ⟨nt h1, decide_eq_true h2, h3, nt h4, h3, nnt h25, rfl, trivial⟩ ⟨rfl, rfl⟩
        · cases e
          exact xw_yr hd0 32 [0, 1, 1, 1] rfl ⟨nt h1, decide_eq_true h2, h3, nt h4, h3, nt h25, rfl, trivial⟩ ⟨rfl, rfl⟩
    · cases e
      exact xw_yr hd0 20 [0, 0] rfl ⟨nt h1, nt h2, rfl, trivial⟩ ⟨rfl, rfl⟩
set_option maxRecDepth 20000 in
set_option maxHeartbeats 4000000 in
theorem sX6_hear_77 {LL : Nat} {xs : Nat → Int32} {tx : List xh_T} {d : Nat} {A V : xM} {cu : Value} {A' V' : xM} {c' : Value} {l2 l3 l4 : Int32} (hd : 62 ≤ d) (e : fX6_hear 77 l2 l3 l4 A V cu = some (A', V', c')) : xe (xk_ro LL xs) d 62 [.ref 81, .ref 77, .int l2, .int l3, .int l4] (xh A V tx cu) (qU (xh A' V' tx c')) := by
  obtain ⟨d, rfl⟩ : ∃ d1, d = d1 + 1 := ⟨d - 1, by omega⟩
  replace hd : 61 ≤ d := by omega
  have hd0 : 60 ≤ d := by omega
  refine xe_of (co := xk_62) (nl := 12) rfl rfl rfl ?_
  unfold fX6_hear at e
  refine xw_y hd0 2 [] rfl trivial ?_
  obtain ⟨x1, e2, e⟩ := bI_ok e
  refine xw_call (k := 60) (j := 2) rfl (fun F => xm_c_ok (y_c_ok rfl) F) rfl rfl rfl (sX6_able_77 (by omega) e2) ?_
  rintro _ _ ⟨rfl, rfl⟩
  obtain ⟨h3, e⟩ := bC_ok e
  refine xw_y hd0 20 [] rfl ⟨h3, trivial⟩ ?_
  obtain ⟨x4, e5, e⟩ := bI_ok e
  refine xw_call (k := 16) (j := 4) rfl (fun F => xm_c_ok (y_c_ok rfl) F) rfl rfl rfl (sX2_wholeOf (by omega) e5) ?_
  rintro _ _ ⟨rfl, rfl⟩
  refine xw_y hd0 5 [] rfl trivial ?_
  obtain ⟨x6, e7, e⟩ := bI_ok e
  refine xw_call (k := 16) (j := 4) rfl (fun F => xm_c_ok (y_c_ok rfl) F) rfl rfl rfl (sX2_wholeOf (by omega) e7) ?_
  rintro _ _ ⟨rfl, rfl⟩
  refine xw_y hd0 7 [] rfl trivial ?_
  obtain ⟨x8, e9, e⟩ := bI_ok e
  refine xw_call (k := 17) (j := 4) rfl (fun F => xm_c_ok (y_c_ok rfl) F) rfl rfl rfl (sX2_halfOf (by omega) e9) ?_
  rintro _ _ ⟨rfl, rfl⟩
  refine xw_y hd0 5 [] rfl trivial ?_
  obtain ⟨x10, e11, e⟩ := bI_ok e
  refine xw_call (k := 17) (j := 4) rfl (fun F => xm_c_ok (y_c_ok rfl) F) rfl rfl rfl (sX2_halfOf (by omega) e11) ?_
  rintro _ _ ⟨rfl, rfl⟩
  rcases ite_ok e with ⟨h12, e⟩ | ⟨h12, e⟩
  · rcases ite_ok e with ⟨h13, e⟩ | ⟨h13, e⟩
    · cases e
      exact xw_yr hd0 51 [1, 0, 1, 1] rfl ⟨decide_eq_true h12, rfl, rfl, h3, decide_eq_true h13, h3, h3, h3, rfl, trivial⟩ ⟨rfl, rfl⟩
    · cases e
      exact xw_yr hd0 61 [1, 0, 0, 0] rfl ⟨decide_eq_true h12, rfl, rfl, h3, nt h13, h3, h3, h3, rfl, h3, h3, trivial⟩ ⟨rfl, rfl⟩
  · cases e
    exact xw_yr hd0 54 [0, 1, 0] rfl ⟨nt h12, rfl, rfl, h3, h3, h3, rfl, h3, h3, trivial⟩ ⟨rfl, rfl⟩
set_option maxRecDepth 20000 in
set_option maxHeartbeats 4000000 in
theorem sX6_hear_85 {LL : Nat} {xs : Nat → Int32} {tx : List xh_T} {d : Nat} {A V : xM} {cu : Value} {A' V' : xM} {c' : Value} {l2 l3 l4 : Int32} (hd : 62 ≤ d) (e : fX6_hear 85 l2 l3 l4 A V cu = some (A', V', c')) : xe (xk_ro LL xs) d 62 [.ref 81, .ref 85, .int l2, .int l3, .int l4] (xh A V tx cu) (qU (xh A' V' tx c')) := by
  obtain ⟨d, rfl⟩ : ∃ d1, d = d1 + 1 := ⟨d - 1, by omega⟩
  replace hd : 61 ≤ d := by omega
  have hd0 : 60 ≤ d := by omega
  refine xe_of (co := xk_62) (nl := 12) rfl rfl rfl ?_
  unfold fX6_hear at e
  refine xw_y hd0 2 [] rfl trivial ?_
  obtain ⟨x1, e2, e⟩ := bI_ok e
  refine xw_call (k := 60) (j := 2) rfl (fun F => xm_c_ok (y_c_ok rfl) F) rfl rfl rfl (sX6_able_85 (by omega) e2) ?_
  rintro _ _ ⟨rfl, rfl⟩
  obtain ⟨h3, e⟩ := bC_ok e
  refine xw_y hd0 20 [] rfl ⟨h3, trivial⟩ ?_
  obtain ⟨x4, e5, e⟩ := bI_ok e
  refine xw_call (k := 16) (j := 4) rfl (fun F => xm_c_ok (y_c_ok rfl) F) rfl rfl rfl (sX2_wholeOf (by omega) e5) ?_
  rintro _ _ ⟨rfl, rfl⟩
  refine xw_y hd0 5 [] rfl trivial ?_
  obtain ⟨x6, e7, e⟩ := bI_ok e
  refine xw_call (k := 16) (j := 4) rfl (fun F => xm_c_ok (y_c_ok rfl) F) rfl rfl rfl (sX2_wholeOf (by omega) e7) ?_
  rintro _ _ ⟨rfl, rfl⟩
  refine xw_y hd0 7 [] rfl trivial ?_
  obtain ⟨x8, e9, e⟩ := bI_ok e
  refine xw_call (k := 17) (j := 4) rfl (fun F => xm_c_ok (y_c_ok rfl) F) rfl rfl rfl (sX2_halfOf (by omega) e9) ?_
  rintro _ _ ⟨rfl, rfl⟩
  refine xw_y hd0 5 [] rfl trivial ?_
  obtain ⟨x10, e11, e⟩ := bI_ok e
  refine xw_call (k := 17) (j := 4) rfl (fun F => xm_c_ok (y_c_ok rfl) F) rfl rfl rfl (sX2_halfOf (by omega) e11) ?_
  rintro _ _ ⟨rfl, rfl⟩
  rcases ite_ok e with ⟨h12, e⟩ | ⟨h12, e⟩
  · rcases ite_ok e with ⟨h13, e⟩ | ⟨h13, e⟩
    · cases e
      exact xw_yr hd0 51 [1, 0, 1, 1] rfl ⟨decide_eq_true h12, rfl, rfl, h3, decide_eq_true h13, h3, h3, h3, rfl, trivial⟩ ⟨rfl, rfl⟩
    · cases e
      exact xw_yr hd0 61 [1, 0, 0, 0] rfl ⟨decide_eq_true h12, rfl, rfl, h3, nt h13, h3, h3, h3, rfl, h3, h3, trivial⟩ ⟨rfl, rfl⟩
  · cases e
    exact xw_yr hd0 54 [0, 1, 0] rfl ⟨nt h12, rfl, rfl, h3, h3, h3, rfl, h3, h3, trivial⟩ ⟨rfl, rfl⟩
set_option maxRecDepth 20000 in
set_option maxHeartbeats 4000000 in
theorem sX3_isMoved {LL : Nat} {xs : Nat → Int32} {tx : List xh_T} {d : Nat} {A V : xM} {cu : Value} {A' V' : xM} {c' : Value} {r : Int32} {l1 l2 l3 : Int32} (hd : 66 ≤ d) (e : fX3_isMoved tx l1 l2 l3 A V cu = some (r, A', V', c')) : xe (xk_ro LL xs) d 23 [.ref 84, .int l1, .int l2, .int l3] (xh A V tx cu) (qI r (xh A' V' tx c')) := by
  obtain ⟨d, rfl⟩ : ∃ d1, d = d1 + 1 := ⟨d - 1, by omega⟩
  replace hd : 65 ≤ d := by omega
  have hd0 : 60 ≤ d := by omega
  refine xe_of (co := xk_23) (nl := 9) rfl rfl rfl ?_
  unfold fX3_isMoved at e
  obtain ⟨h1, e⟩ := bC_ok e
  obtain ⟨h2, e⟩ := bC_ok e
  refine xw_y hd0 29 [] rfl ⟨h1, h1, h2, h2, trivial⟩ ?_
  obtain ⟨x3, e4, e⟩ := bI_ok e
  refine xw_call (k := 61) (j := 3) rfl (fun F => xm_c_ok (y_c_ok rfl) F) rfl rfl rfl (sX6_couldTeach_85 (by omega) e4) ?_
  rintro _ _ ⟨rfl, rfl⟩
  rcases ite_ok e with ⟨h5, e⟩ | ⟨h5, e⟩
  · cases e
    exact xw_yr hd0 4 [0] rfl ⟨nnt h5, rfl, trivial⟩ ⟨rfl, rfl⟩
  · refine xw_y hd0 6 [1] rfl ⟨nt h5, trivial⟩ ?_
    obtain ⟨x6, e7, e⟩ := bI_ok e
    refine xw_call (k := 59) (j := 3) rfl (fun F => xm_c_ok (y_c_ok rfl) F) rfl rfl rfl (sX6_singers_85 (by omega) e7) ?_
    rintro _ _ ⟨rfl, rfl⟩
    refine xw_y hd0 4 [] rfl trivial ?_
    obtain ⟨x8, e9, e⟩ := bI_ok e
    refine xw_call (k := 216) (j := 1) rfl (fun F => xm_c_ok (y_c_ok rfl) F) rfl rfl rfl (sJ6_bitCount_0f7a4 (by omega) e9) ?_
    rintro _ _ ⟨rfl, rfl⟩
    refine xw_y hd0 4 [] rfl trivial ?_
    obtain ⟨x10, e11, e⟩ := bI_ok e
    refine xw_call (k := 216) (j := 1) rfl (fun F => xm_c_ok (y_c_ok rfl) F) rfl rfl rfl (sJ6_bitCount_0f7a4 (by omega) e11) ?_
    rintro _ _ ⟨rfl, rfl⟩
    refine xw_y hd0 1 [] rfl trivial ?_
    obtain ⟨x12, e13, e⟩ := bI_ok e
    refine xw_call (k := 216) (j := 1) rfl (fun F => xm_c_ok (y_c_ok rfl) F) rfl rfl rfl (sJ6_bitCount_0f7a4 (by omega) e13) ?_
    rintro _ _ ⟨rfl, rfl⟩
    obtain ⟨x14, A15, V16, c17, e18, e⟩ := bX_ok e
    refine xw_call (k := 24) (j := 4) rfl (fun F => xm_c_ok (y_c_ok rfl) F) rfl rfl rfl (sX3_isLesson (by omega) e18) ?_
    rintro _ _ ⟨rfl, rfl⟩
    rcases ite_ok e with ⟨h19, e⟩ | ⟨h19, e⟩
    · cases e
      exact xw_yr hd0 4 [0] rfl ⟨nnt h19, rfl, trivial⟩ ⟨rfl, rfl⟩
    · refine xw_y hd0 8 [1] rfl ⟨nt h19, trivial⟩ ?_
      obtain ⟨A21, V22, c23, e24, e⟩ := bS_ok e
      refine xw_call (k := 62) (j := 5) rfl (fun F => xm_c_ok (y_c_ok rfl) F) rfl rfl rfl (sX6_hear_85 (by omega) e24) ?_
      rintro _ _ ⟨rfl, rfl⟩
      obtain ⟨h25, e⟩ := bC_ok e
      rcases ite_ok e with ⟨h26, e⟩ | ⟨h26, e⟩
      · cases e
        exact xw_yr hd0 23 [1] rfl ⟨h25, h25, decide_eq_true h26, rfl, trivial⟩ ⟨rfl, rfl⟩
      · rcases ite_ok e with ⟨h27, e⟩ | ⟨h27, e⟩
        · cases e
          exact xw_yr hd0 28 [0, 0] rfl ⟨h25, h25, nt h26, nnt h27, rfl, trivial⟩ ⟨rfl, rfl⟩
        · cases e
          exact xw_yr hd0 27 [0, 1] rfl ⟨h25, h25, nt h26, nt h27, rfl, trivial⟩ ⟨rfl, rfl⟩
set_option maxRecDepth 20000 in
set_option maxHeartbeats 4000000 in
theorem slX3_goOn_L3 {LL : Nat} {xs : Nat → Int32} {tx : List xh_T} {d : Nat} {A' V' : xM} {c' : Value} {l1 : Int32} {l2 : Int32} {l3 : Int32} {l4 : Int32} {ex : xM → xM → Value → Option (xS)} (hd : 66 ≤ d) (hex : ∀ (w0 w1 w2 w3 w4 w5 w6 w7 : Option Value) (A V : xM) (cu : Value), ex  A V cu = some (A', V', c') → xw (xk_ro LL xs) d xk_22 169 [w0, w1, w2, w3, w4, w5, w6, w7] [] (xh A V tx cu) (qU (xh A' V' tx c'))) : ∀ (n : Nat) (l5 : Int32) (z6 z7 : Option Value) (A V : xM) (cu : Value), fX3_goOn_L3 tx l1 l2 l3 l4 ex n l5 A V cu = some (A', V', c') → xw (xk_ro LL xs) d xk_22 3 [some (.ref 84), some (.int l1), some (.int l2), some (.int l3), some (.int l4), some (.int l5), z6, z7] [] (xh A V tx cu) (qU (xh A' V' tx c')) := by
  have hd0 : 60 ≤ d := by omega
  intro n
  induction n with
  | zero =>
    intro l5 z6 z7 A V cu e
    rw [fX3_goOn_L3] at e
    cases e
  | succ n ih =>
    intro l5 z6 z7 A V cu e
    rw [fX3_goOn_L3] at e
    rcases ite_ok e with ⟨h1, e⟩ | ⟨h1, e⟩
    · refine xw_y hd0 12 [1] rfl ⟨rfl, decide_eq_true h1, trivial⟩ ?_
      exact hex _ _ _ _ _ _ _ _ _ _ _ e
    · rcases ite_ok e with ⟨h2, e⟩ | ⟨h2, e⟩
      · refine xw_y hd0 17 [0, 0] rfl ⟨rfl, nt h1, nnt h2, trivial⟩ ?_
        obtain ⟨x3, e4, e⟩ := bI_ok e
        refine xw_call (k := 216) (j := 1) rfl (fun F => xm_c_ok (y_c_ok rfl) F) rfl rfl rfl (sJ6_bitCount_0f7a4 (by omega) e4) ?_
        rintro _ _ ⟨rfl, rfl⟩
        rcases ite_ok e with ⟨h5, e⟩ | ⟨h5, e⟩
        · refine xw_y hd0 9 [1, 1] rfl ⟨decide_eq_true h5, rfl, trivial⟩ ?_
          exact ih _ _ _ _ _ _ e
        · rcases ite_ok e with ⟨h6, e⟩ | ⟨h6, e⟩
          · refine xw_y hd0 16 [0, 0, 0] rfl ⟨nt h5, nnt h6, rfl, trivial⟩ ?_
            obtain ⟨x7, A8, V9, c10, e11, e⟩ := bX_ok e
            refine xw_call (k := 23) (j := 4) rfl (fun F => xm_c_ok (y_c_ok rfl) F) rfl rfl rfl (sX3_isMoved (by omega) e11) ?_
            rintro _ _ ⟨rfl, rfl⟩
            rcases ite_ok e with ⟨h12, e⟩ | ⟨h12, e⟩
            · refine xw_y hd0 3 [1] rfl ⟨decide_eq_true h12, trivial⟩ ?_
              exact ih _ _ _ _ _ _ e
            · obtain ⟨h13, e⟩ := bC_ok e
              rcases ite_ok e with ⟨h14, e⟩ | ⟨h14, e⟩
              · obtain ⟨h15, e⟩ := bC_ok e
                refine xw_y hd0 29 [0, 0] rfl ⟨nt h12, h13, nnt h14, h15, h15, h13, trivial⟩ ?_
                obtain ⟨A17, V18, c19, e20, e⟩ := bS_ok e
                refine xw_call (k := 25) (j := 5) rfl (fun F => xm_c_ok (y_c_ok rfl) F) rfl rfl rfl (sX3_reach (by omega) e20) ?_
                rintro _ _ ⟨rfl, rfl⟩
                obtain ⟨h21, e⟩ := bC_ok e
                rcases ite_ok e with ⟨h22, e⟩ | ⟨h22, e⟩
                · refine xw_y hd0 24 [0] rfl ⟨h21, nnt h22, h13, rfl, rfl, trivial⟩ ?_
                  exact ih _ _ _ _ _ _ e
                · refine xw_y hd0 13 [1] rfl ⟨h21, nt h22, trivial⟩ ?_
                  exact ih _ _ _ _ _ _ e
              · obtain ⟨h23, e⟩ := bC_ok e
                refine xw_y hd0 31 [0, 1] rfl ⟨nt h12, h13, nt h14, h13, h23, h23, h13, trivial⟩ ?_
                obtain ⟨A25, V26, c27, e28, e⟩ := bS_ok e
                refine xw_call (k := 25) (j := 5) rfl (fun F => xm_c_ok (y_c_ok rfl) F) rfl rfl rfl (sX3_reach (by omega) e28) ?_
                rintro _ _ ⟨rfl, rfl⟩
                obtain ⟨h29, e⟩ := bC_ok e
                rcases ite_ok e with ⟨h30, e⟩ | ⟨h30, e⟩
                · refine xw_y hd0 24 [0] rfl ⟨h29, nnt h30, h13, rfl, rfl, trivial⟩ ?_
                  exact ih _ _ _ _ _ _ e
                · refine xw_y hd0 13 [1] rfl ⟨h29, nt h30, trivial⟩ ?_
                  exact ih _ _ _ _ _ _ e
          · refine xw_y hd0 13 [0, 1, 1] rfl ⟨nt h5, nt h6, rfl, trivial⟩ ?_
            exact ih _ _ _ _ _ _ e
      · refine xw_y hd0 16 [0, 1] rfl ⟨rfl, nt h1, nt h2, trivial⟩ ?_
        exact hex _ _ _ _ _ _ _ _ _ _ _ e
set_option maxRecDepth 20000 in
set_option maxHeartbeats 4000000 in
theorem sX3_goOn {LL : Nat} {xs : Nat → Int32} {tx : List xh_T} {d : Nat} {A V : xM} {cu : Value} {A' V' : xM} {c' : Value} {l1 l2 l3 l4 : Int32} (hd : 67 ≤ d) (e : fX3_goOn tx l1 l2 l3 l4 A V cu = some (A', V', c')) : xe (xk_ro LL xs) d 22 [.ref 84, .int l1, .int l2, .int l3, .int l4] (xh A V tx cu) (qU (xh A' V' tx c')) := by
  obtain ⟨d, rfl⟩ : ∃ d1, d = d1 + 1 := ⟨d - 1, by omega⟩
  replace hd : 66 ≤ d := by omega
  have hd0 : 60 ≤ d := by omega
  refine xe_of (co := xk_22) (nl := 8) rfl rfl rfl ?_
  unfold fX3_goOn at e
  refine xw_y hd0 2 [] rfl trivial ?_
  refine slX3_goOn_L3 hd ?_ FU _ _ _ _ _ _ e
  · intro z31 z32 z33 z34 z35 z36 z37 z38 A39 V40 c41 e
    cases e
    exact xw_yr hd0 2 [] rfl trivial ⟨rfl, rfl⟩
set_option maxRecDepth 20000 in
set_option maxHeartbeats 4000000 in
theorem slX3_seek_L96 {LL : Nat} {xs : Nat → Int32} {tx : List xh_T} {d : Nat} {A' V' : xM} {c' : Value} {r : Int32} {l1 : Int32} {l2 : Int32} {l3 : Int32} {ex : xM → xM → Value → Option (Int32 × xS)} (hd : 67 ≤ d) (hex : ∀ (w1 w2 w3 w4 : Option Value) (A V : xM) (cu : Value), ex  A V cu = some (r, A', V', c') → xw (xk_ro LL xs) d xk_20 136 [some (.ref 84), w1, w2, w3, w4] [] (xh A V tx cu) (qI r (xh A' V' tx c'))) : ∀ (n : Nat) (l4 : Int32) (A V : xM) (cu : Value), fX3_seek_L96 tx l1 l2 l3 ex n l4 A V cu = some (r, A', V', c') → xw (xk_ro LL xs) d xk_20 96 [some (.ref 84), some (.int l1), some (.int l2), some (.int l3), some (.int l4)] [] (xh A V tx cu) (qI r (xh A' V' tx c')) := by
  have hd0 : 60 ≤ d := by omega
  intro n
  induction n with
  | zero =>
    intro l4 A V cu e
    rw [fX3_seek_L96] at e
    cases e
  | succ n ih =>
    intro l4 A V cu e
    rw [fX3_seek_L96] at e
    rcases ite_ok e with ⟨h1, e⟩ | ⟨h1, e⟩
    · refine xw_y hd0 4 [1] rfl ⟨decide_eq_true h1, trivial⟩ ?_
      exact hex _ _ _ _ _ _ _ e
    · rcases ite_ok e with ⟨h2, e⟩ | ⟨h2, e⟩
      · refine xw_y hd0 7 [0, 1] rfl ⟨nt h1, decide_eq_true h2, trivial⟩ ?_
        exact hex _ _ _ _ _ _ _ e
      · rcases ite_ok e with ⟨h3, e⟩ | ⟨h3, e⟩
        · refine xw_y hd0 16 [0, 0, 0] rfl ⟨nt h1, nt h2, nnt h3, trivial⟩ ?_
          obtain ⟨A5, V6, c7, e8, e⟩ := bS_ok e
          refine xw_call (k := 22) (j := 5) rfl (fun F => xm_c_ok (y_c_ok rfl) F) rfl rfl rfl (sX3_goOn (by omega) e8) ?_
          rintro _ _ ⟨rfl, rfl⟩
          refine xw_y hd0 2 [] rfl trivial ?_
          exact ih _ _ _ _ e
        · refine xw_y hd0 11 [0, 0, 1] rfl ⟨nt h1, nt h2, nt h3, trivial⟩ ?_
          exact hex _ _ _ _ _ _ _ e
set_option maxRecDepth 20000 in
set_option maxHeartbeats 4000000 in
theorem sX3_seek {LL : Nat} {xs : Nat → Int32} {tx : List xh_T} {d : Nat} {A V : xM} {cu : Value} {A' V' : xM} {c' : Value} {r : Int32} {l1 l2 l3 : Int32} (hd : 68 ≤ d) (e : fX3_seek tx l1 l2 l3 A V cu = some (r, A', V', c')) : xe (xk_ro LL xs) d 20 [.ref 84, .int l1, .int l2, .int l3] (xh A V tx cu) (qI r (xh A' V' tx c')) := by
  obtain ⟨d, rfl⟩ : ∃ d1, d = d1 + 1 := ⟨d - 1, by omega⟩
  replace hd : 67 ≤ d := by omega
  have hd0 : 60 ≤ d := by omega
  refine xe_of (co := xk_20) (nl := 5) rfl rfl rfl ?_
  unfold fX3_seek at e
  obtain ⟨h9, e⟩ := bC_ok e
  rcases ite_ok e with ⟨h10, e⟩ | ⟨h10, e⟩
  · cases e
    exact xw_yr hd0 24 [0] rfl ⟨rfl, rfl, h9, nnt h10, rfl, rfl, trivial⟩ ⟨rfl, rfl⟩
  · refine xw_y hd0 21 [1] rfl ⟨rfl, rfl, h9, nt h10, trivial⟩ ?_
    obtain ⟨A12, V13, c14, e15, e⟩ := bS_ok e
    refine xw_call (k := 5) (j := 2) rfl (fun F => xm_c_ok (y_c_ok rfl) F) rfl rfl rfl (sX1_take_85_73 (by omega) e15) ?_
    rintro _ _ ⟨rfl, rfl⟩
    refine xw_y hd0 3 [] rfl trivial ?_
    obtain ⟨A17, V18, c19, e20, e⟩ := bS_ok e
    refine xw_call (k := 217) (j := 2) rfl (fun F => xm_c_ok (y_c_ok rfl) F) rfl rfl rfl (sJ7_fill_53178_89 (by omega) e20) ?_
    rintro _ _ ⟨rfl, rfl⟩
    obtain ⟨h21, e⟩ := bC_ok e
    refine xw_y hd0 18 [] rfl ⟨rfl, h21, h21, trivial⟩ ?_
    obtain ⟨A23, V24, c25, e26, e⟩ := bS_ok e
    refine xw_call (k := 25) (j := 5) rfl (fun F => xm_c_ok (y_c_ok rfl) F) rfl rfl rfl (sX3_reach (by omega) e26) ?_
    rintro _ _ ⟨rfl, rfl⟩
    refine xw_y hd0 2 [] rfl trivial ?_
    refine slX3_seek_L96 hd ?_ FU _ _ _ _ e
    · intro z27 z28 z29 z30 A31 V32 c33 e
      cases e
      exact xw_yr hd0 4 [] rfl ⟨rfl, trivial⟩ ⟨rfl, rfl⟩
set_option maxRecDepth 20000 in
set_option maxHeartbeats 4000000 in
theorem sX6_may_77 {LL : Nat} {xs : Nat → Int32} {tx : List xh_T} {d : Nat} {A V : xM} {cu : Value} {A' V' : xM} {c' : Value} {r : Int32} {l2 : Int32} (hd : 65 ≤ d) (e : fX6_may tx 77 l2 A V cu = some (r, A', V', c')) : xe (xk_ro LL xs) d 57 [.ref 81, .ref 77, .int l2] (xh A V tx cu) (qI r (xh A' V' tx c')) := by
  obtain ⟨d, rfl⟩ : ∃ d1, d = d1 + 1 := ⟨d - 1, by omega⟩
  replace hd : 64 ≤ d := by omega
  have hd0 : 60 ≤ d := by omega
  refine xe_of (co := xk_57) (nl := 4) rfl rfl rfl ?_
  unfold fX6_may at e
  obtain ⟨h1, e⟩ := bC_ok e
  refine xw_y hd0 7 [] rfl ⟨h1, trivial⟩ ?_
  obtain ⟨x2, e3, e⟩ := bI_ok e
  refine xw_call (k := 216) (j := 1) rfl (fun F => xm_c_ok (y_c_ok rfl) F) rfl rfl rfl (sJ6_bitCount_0f7a4 (by omega) e3) ?_
  rintro _ _ ⟨rfl, rfl⟩
  refine xw_y hd0 6 [] rfl trivial ?_
  obtain ⟨x4, e5, e⟩ := bI_ok e
  refine xw_call (k := 59) (j := 3) rfl (fun F => xm_c_ok (y_c_ok rfl) F) rfl rfl rfl (sX6_singers_77 (by omega) e5) ?_
  rintro _ _ ⟨rfl, rfl⟩
  obtain ⟨x6, e7, e⟩ := bI_ok e
  refine xw_call (k := 216) (j := 1) rfl (fun F => xm_c_ok (y_c_ok rfl) F) rfl rfl rfl (sJ6_bitCount_0f7a4 (by omega) e7) ?_
  rintro _ _ ⟨rfl, rfl⟩
  refine xw_y hd0 1 [] rfl trivial ?_
  obtain ⟨x8, e9, e⟩ := bI_ok e
  refine xw_call (k := 216) (j := 1) rfl (fun F => xm_c_ok (y_c_ok rfl) F) rfl rfl rfl (sJ6_bitCount_0f7a4 (by omega) e9) ?_
  rintro _ _ ⟨rfl, rfl⟩
  obtain ⟨A11, V12, c13, e14, e⟩ := bS_ok e
  refine xw_call (k := 56) (j := 4) rfl (fun F => xm_c_ok (y_c_ok rfl) F) rfl rfl rfl (sX6_before (by omega) e14) ?_
  rintro _ _ ⟨rfl, rfl⟩
  refine xw_y hd0 2 [] rfl trivial ?_
  obtain ⟨x15, A16, V17, c18, e19, e⟩ := bX_ok e
  refine xw_call (k := 63) (j := 2) rfl (fun F => xm_c_ok (y_c_ok rfl) F) rfl rfl rfl (sX6_says (by omega) e19) ?_
  rintro _ _ ⟨rfl, rfl⟩
  obtain ⟨h20, e⟩ := bC_ok e
  cases e
  exact xw_yr hd0 2 [] rfl ⟨h20, trivial⟩ ⟨rfl, rfl⟩
set_option maxRecDepth 20000 in
set_option maxHeartbeats 4000000 in
theorem sX6_may_73 {LL : Nat} {xs : Nat → Int32} {tx : List xh_T} {d : Nat} {A V : xM} {cu : Value} {A' V' : xM} {c' : Value} {r : Int32} {l2 : Int32} (hd : 65 ≤ d) (e : fX6_may tx 73 l2 A V cu = some (r, A', V', c')) : xe (xk_ro LL xs) d 57 [.ref 81, .ref 73, .int l2] (xh A V tx cu) (qI r (xh A' V' tx c')) := by
  obtain ⟨d, rfl⟩ : ∃ d1, d = d1 + 1 := ⟨d - 1, by omega⟩
  replace hd : 64 ≤ d := by omega
  have hd0 : 60 ≤ d := by omega
  refine xe_of (co := xk_57) (nl := 4) rfl rfl rfl ?_
  unfold fX6_may at e
  obtain ⟨h1, e⟩ := bC_ok e
  refine xw_y hd0 7 [] rfl ⟨h1, trivial⟩ ?_
  obtain ⟨x2, e3, e⟩ := bI_ok e
  refine xw_call (k := 216) (j := 1) rfl (fun F => xm_c_ok (y_c_ok rfl) F) rfl rfl rfl (sJ6_bitCount_0f7a4 (by omega) e3) ?_
  rintro _ _ ⟨rfl, rfl⟩
  refine xw_y hd0 6 [] rfl trivial ?_
  obtain ⟨x4, e5, e⟩ := bI_ok e
  refine xw_call (k := 59) (j := 3) rfl (fun F => xm_c_ok (y_c_ok rfl) F) rfl rfl rfl (sX6_singers_73 (by omega) e5) ?_
  rintro _ _ ⟨rfl, rfl⟩
  obtain ⟨x6, e7, e⟩ := bI_ok e
  refine xw_call (k := 216) (j := 1) rfl (fun F => xm_c_ok (y_c_ok rfl) F) rfl rfl rfl (sJ6_bitCount_0f7a4 (by omega) e7) ?_
  rintro _ _ ⟨rfl, rfl⟩
  refine xw_y hd0 1 [] rfl trivial ?_
  obtain ⟨x8, e9, e⟩ := bI_ok e
  refine xw_call (k := 216) (j := 1) rfl (fun F => xm_c_ok (y_c_ok rfl) F) rfl rfl rfl (sJ6_bitCount_0f7a4 (by omega) e9) ?_
  rintro _ _ ⟨rfl, rfl⟩
  obtain ⟨A11, V12, c13, e14, e⟩ := bS_ok e
  refine xw_call (k := 56) (j := 4) rfl (fun F => xm_c_ok (y_c_ok rfl) F) rfl rfl rfl (sX6_before (by omega) e14) ?_
  rintro _ _ ⟨rfl, rfl⟩
  refine xw_y hd0 2 [] rfl trivial ?_
  obtain ⟨x15, A16, V17, c18, e19, e⟩ := bX_ok e
  refine xw_call (k := 63) (j := 2) rfl (fun F => xm_c_ok (y_c_ok rfl) F) rfl rfl rfl (sX6_says (by omega) e19) ?_
  rintro _ _ ⟨rfl, rfl⟩
  obtain ⟨h20, e⟩ := bC_ok e
  cases e
  exact xw_yr hd0 2 [] rfl ⟨h20, trivial⟩ ⟨rfl, rfl⟩
set_option maxRecDepth 20000 in
set_option maxHeartbeats 4000000 in
theorem sX6_spread_77 {LL : Nat} {xs : Nat → Int32} {tx : List xh_T} {d : Nat} {A V : xM} {cu : Value} {A' V' : xM} {c' : Value} {l2 l3 : Int32} (hd : 65 ≤ d) (e : fX6_spread tx 77 l2 l3 A V cu = some (A', V', c')) : xe (xk_ro LL xs) d 58 [.ref 81, .ref 77, .int l2, .int l3] (xh A V tx cu) (qU (xh A' V' tx c')) := by
  obtain ⟨d, rfl⟩ : ∃ d1, d = d1 + 1 := ⟨d - 1, by omega⟩
  replace hd : 64 ≤ d := by omega
  have hd0 : 60 ≤ d := by omega
  refine xe_of (co := xk_58) (nl := 7) rfl rfl rfl ?_
  unfold fX6_spread at e
  refine xw_y hd0 3 [] rfl trivial ?_
  obtain ⟨x1, e2, e⟩ := bI_ok e
  refine xw_call (k := 59) (j := 3) rfl (fun F => xm_c_ok (y_c_ok rfl) F) rfl rfl rfl (sX6_singers_77 (by omega) e2) ?_
  rintro _ _ ⟨rfl, rfl⟩
  rcases ite_ok e with ⟨h3, e⟩ | ⟨h3, e⟩
  · cases e
    exact xw_yr hd0 5 [1] rfl ⟨decide_eq_true h3, trivial⟩ ⟨rfl, rfl⟩
  · refine xw_y hd0 5 [0] rfl ⟨nt h3, trivial⟩ ?_
    obtain ⟨x4, A5, V6, c7, e8, e⟩ := bX_ok e
    refine xw_call (k := 63) (j := 2) rfl (fun F => xm_c_ok (y_c_ok rfl) F) rfl rfl rfl (sX6_says (by omega) e8) ?_
    rintro _ _ ⟨rfl, rfl⟩
    rcases ite_ok e with ⟨h9, e⟩ | ⟨h9, e⟩
    · rcases ite_ok e with ⟨h10, e⟩ | ⟨h10, e⟩
      · refine xw_y hd0 12 [1, 1] rfl ⟨decide_eq_true h9, decide_eq_true h10, trivial⟩ ?_
        obtain ⟨A12, V13, c14, e15, e⟩ := bS_ok e
        refine xw_call (k := 62) (j := 5) rfl (fun F => xm_c_ok (y_c_ok rfl) F) rfl rfl rfl (sX6_hear_77 (by omega) e15) ?_
        rintro _ _ ⟨rfl, rfl⟩
        cases e
        exact xw_yr hd0 2 [] rfl trivial ⟨rfl, rfl⟩
      · refine xw_y hd0 7 [1, 0] rfl ⟨decide_eq_true h9, nt h10, trivial⟩ ?_
        obtain ⟨x16, A17, V18, c19, e20, e⟩ := bX_ok e
        refine xw_call (k := 63) (j := 2) rfl (fun F => xm_c_ok (y_c_ok rfl) F) rfl rfl rfl (sX6_says (by omega) e20) ?_
        rintro _ _ ⟨rfl, rfl⟩
        rcases ite_ok e with ⟨h21, e⟩ | ⟨h21, e⟩
        · refine xw_y hd0 8 [1] rfl ⟨decide_eq_true h21, trivial⟩ ?_
          obtain ⟨A23, V24, c25, e26, e⟩ := bS_ok e
          refine xw_call (k := 62) (j := 5) rfl (fun F => xm_c_ok (y_c_ok rfl) F) rfl rfl rfl (sX6_hear_77 (by omega) e26) ?_
          rintro _ _ ⟨rfl, rfl⟩
          cases e
          exact xw_yr hd0 2 [] rfl trivial ⟨rfl, rfl⟩
        · refine xw_y hd0 9 [0] rfl ⟨nt h21, trivial⟩ ?_
          obtain ⟨A28, V29, c30, e31, e⟩ := bS_ok e
          refine xw_call (k := 62) (j := 5) rfl (fun F => xm_c_ok (y_c_ok rfl) F) rfl rfl rfl (sX6_hear_77 (by omega) e31) ?_
          rintro _ _ ⟨rfl, rfl⟩
          cases e
          exact xw_yr hd0 2 [] rfl trivial ⟨rfl, rfl⟩
    · rcases ite_ok e with ⟨h32, e⟩ | ⟨h32, e⟩
      · refine xw_y hd0 13 [0, 1] rfl ⟨nt h9, decide_eq_true h32, trivial⟩ ?_
        obtain ⟨A34, V35, c36, e37, e⟩ := bS_ok e
        refine xw_call (k := 62) (j := 5) rfl (fun F => xm_c_ok (y_c_ok rfl) F) rfl rfl rfl (sX6_hear_77 (by omega) e37) ?_
        rintro _ _ ⟨rfl, rfl⟩
        cases e
        exact xw_yr hd0 2 [] rfl trivial ⟨rfl, rfl⟩
      · refine xw_y hd0 8 [0, 0] rfl ⟨nt h9, nt h32, trivial⟩ ?_
        obtain ⟨x38, A39, V40, c41, e42, e⟩ := bX_ok e
        refine xw_call (k := 63) (j := 2) rfl (fun F => xm_c_ok (y_c_ok rfl) F) rfl rfl rfl (sX6_says (by omega) e42) ?_
        rintro _ _ ⟨rfl, rfl⟩
        rcases ite_ok e with ⟨h43, e⟩ | ⟨h43, e⟩
        · refine xw_y hd0 8 [1] rfl ⟨decide_eq_true h43, trivial⟩ ?_
          obtain ⟨A45, V46, c47, e48, e⟩ := bS_ok e
          refine xw_call (k := 62) (j := 5) rfl (fun F => xm_c_ok (y_c_ok rfl) F) rfl rfl rfl (sX6_hear_77 (by omega) e48) ?_
          rintro _ _ ⟨rfl, rfl⟩
          cases e
          exact xw_yr hd0 2 [] rfl trivial ⟨rfl, rfl⟩
        · refine xw_y hd0 9 [0] rfl ⟨nt h43, trivial⟩ ?_
          obtain ⟨A50, V51, c52, e53, e⟩ := bS_ok e
          refine xw_call (k := 62) (j := 5) rfl (fun F => xm_c_ok (y_c_ok rfl) F) rfl rfl rfl (sX6_hear_77 (by omega) e53) ?_
          rintro _ _ ⟨rfl, rfl⟩
          cases e
          exact xw_yr hd0 2 [] rfl trivial ⟨rfl, rfl⟩
