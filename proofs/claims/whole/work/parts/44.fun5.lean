def fX9_put (l1 : Int32) (A V : xM) (cu : Value) : Option (xS) := bC (xq_in (V 132 14) 160) (some ((aw A 143 (V 132 14) l1), (up2 V 132 14 ((V 132 14) + (1 : Int32))), cu))
def fX9_feed (l1 : Int32) (l2 : Int32) (l3 : Int32) (l4 : Int32) (l5 : Int32) (l6 : Int32) (A V : xM) (cu : Value) : Option (Int32 × xS) := if l1 < (1 : Int32) then (some ((-2 : Int32), A, V, cu)) else (if (5 : Int32) < l1 then (some ((-2 : Int32), A, V, cu)) else (if l2 < (0 : Int32) then (some ((-2 : Int32), A, V, cu)) else (if (255 : Int32) < l2 then (some ((-2 : Int32), A, V, cu)) else (if l3 < (0 : Int32) then (some ((-2 : Int32), A, V, cu)) else (if (255 : Int32) < l3 then (some ((-2 : Int32), A, V, cu)) else (if l4 < (0 : Int32) then (some ((-2 : Int32), A, V, cu)) else (if (255 : Int32) < l4 then (some ((-2 : Int32), A, V, cu)) else (if l5 < (0 : Int32) then (some ((-2 : Int32), A, V, cu)) else (if (255 : Int32) < l5 then (some ((-2 : Int32), A, V, cu)) else (if l6 < (0 : Int32) then (some ((-2 : Int32), A, V, cu)) else (if (255 : Int32) < l6 then (some ((-2 : Int32), A, V, cu)) else (if ((V 132 14) + l1) ≤ (160 : Int32) then (bS (fX9_put l2 A V cu) (fun A15 V16 c17 => if l1 ≤ (1 : Int32) then (if l1 ≤ (2 : Int32) then (if l1 ≤ (3 : Int32) then (if l1 ≤ (4 : Int32) then (some ((V16 132 14), A15, V16, c17)) else (bS (fX9_put l6 A15 V16 c17) (fun A24 V25 c26 => some ((V25 132 14), A24, V25, c26)))) else (bS (fX9_put l5 A15 V16 c17) (fun A29 V30 c31 => if l1 ≤ (4 : Int32) then (some ((V30 132 14), A29, V30, c31)) else (bS (fX9_put l6 A29 V30 c31) (fun A35 V36 c37 => some ((V36 132 14), A35, V36, c37)))))) else (bS (fX9_put l4 A15 V16 c17) (fun A40 V41 c42 => if l1 ≤ (3 : Int32) then (if l1 ≤ (4 : Int32) then (some ((V41 132 14), A40, V41, c42)) else (bS (fX9_put l6 A40 V41 c42) (fun A47 V48 c49 => some ((V48 132 14), A47, V48, c49)))) else (bS (fX9_put l5 A40 V41 c42) (fun A52 V53 c54 => if l1 ≤ (4 : Int32) then (some ((V53 132 14), A52, V53, c54)) else (bS (fX9_put l6 A52 V53 c54) (fun A58 V59 c60 => some ((V59 132 14), A58, V59, c60)))))))) else (bS (fX9_put l3 A15 V16 c17) (fun A63 V64 c65 => if l1 ≤ (2 : Int32) then (if l1 ≤ (3 : Int32) then (if l1 ≤ (4 : Int32) then (some ((V64 132 14), A63, V64, c65)) else (bS (fX9_put l6 A63 V64 c65) (fun A71 V72 c73 => some ((V72 132 14), A71, V72, c73)))) else (bS (fX9_put l5 A63 V64 c65) (fun A76 V77 c78 => if l1 ≤ (4 : Int32) then (some ((V77 132 14), A76, V77, c78)) else (bS (fX9_put l6 A76 V77 c78) (fun A82 V83 c84 => some ((V83 132 14), A82, V83, c84)))))) else (bS (fX9_put l4 A63 V64 c65) (fun A87 V88 c89 => if l1 ≤ (3 : Int32) then (if l1 ≤ (4 : Int32) then (some ((V88 132 14), A87, V88, c89)) else (bS (fX9_put l6 A87 V88 c89) (fun A94 V95 c96 => some ((V95 132 14), A94, V95, c96)))) else (bS (fX9_put l5 A87 V88 c89) (fun A99 V100 c101 => if l1 ≤ (4 : Int32) then (some ((V100 132 14), A99, V100, c101)) else (bS (fX9_put l6 A99 V100 c101) (fun A105 V106 c107 => some ((V106 132 14), A105, V106, c107))))))))))) else (some ((-4 : Int32), A, V, cu))))))))))))))
def fX9_readWord_L0 (ex : xM → xM → Value → Option (xS)) : Nat → xM → xM → Value → Option (xS)
  | 0, _, _, _ => none
  | n + 1, A, V, cu => if (V 132 14) ≤ (V 132 19) then (ex  A V cu) else (bC (xq_in (V 132 19) 160) (if (A 143 (V 132 19).toNatClampNeg) < (97 : Int32) then (ex  A V cu) else (if (122 : Int32) < (A 143 (V 132 19).toNatClampNeg) then (ex  A V cu) else (fX9_readWord_L0 ex n  A (up2 V 132 19 ((V 132 19) + (1 : Int32))) cu))))
def fX9_readWord_L76 (l1 : Int32) (l2 : Int32) (A V : xM) (cu : Value) (ex : Int32 → Option (xS)) : Nat → Int32 → Int32 → Option (xS)
  | 0, _, _ => none
  | n + 1, l3, l4 => if l2 ≤ l4 then (ex l3) else (if l3 = 0 then (ex l3) else (bC (xq_in ((V 132 22) + l4) 160) (bC (xq_in l1 13) (bC (xq_in ((A 147 l1.toNatClampNeg) + l4) 45) (if (A 143 ((V 132 22) + l4).toNatClampNeg) = (A 146 ((A 147 l1.toNatClampNeg) + l4).toNatClampNeg) then (fX9_readWord_L76 l1 l2 A V cu ex n (1 : Int32) (l4 + Int32.ofInt 1)) else (fX9_readWord_L76 l1 l2 A V cu ex n (0 : Int32) (l4 + Int32.ofInt 1)))))))
def fX9_readWord_L32 (ex : xM → xM → Value → Option (xS)) : Nat → Int32 → xM → xM → Value → Option (xS)
  | 0, _, _, _, _ => none
  | n + 1, l1, A, V, cu => if (12 : Int32) ≤ l1 then (ex  A V cu) else (bC (xq_in (l1 + (1 : Int32)) 13) (bC (xq_in l1 13) (if ((A 147 (l1 + (1 : Int32)).toNatClampNeg) - (A 147 l1.toNatClampNeg)) = ((V 132 19) - (V 132 22)) then (fX9_readWord_L76 l1 ((A 147 (l1 + (1 : Int32)).toNatClampNeg) - (A 147 l1.toNatClampNeg)) A V cu (fun (l3_15 : Int32) => if l3_15 = 0 then (fX9_readWord_L32 ex n (l1 + Int32.ofInt 1) A V cu) else (if (6 : Int32) ≤ l1 then (fX9_readWord_L32 ex n (l1 + Int32.ofInt 1) A (up2 (up2 V 132 20 (3 : Int32)) 132 21 (l1 - (6 : Int32))) cu) else (fX9_readWord_L32 ex n (l1 + Int32.ofInt 1) A (up2 (up2 V 132 20 (2 : Int32)) 132 21 l1) cu))) FU (1 : Int32) (0 : Int32)) else (fX9_readWord_L76 l1 ((A 147 (l1 + (1 : Int32)).toNatClampNeg) - (A 147 l1.toNatClampNeg)) A V cu (fun (l3_20 : Int32) => if l3_20 = 0 then (fX9_readWord_L32 ex n (l1 + Int32.ofInt 1) A V cu) else (if (6 : Int32) ≤ l1 then (fX9_readWord_L32 ex n (l1 + Int32.ofInt 1) A (up2 (up2 V 132 20 (3 : Int32)) 132 21 (l1 - (6 : Int32))) cu) else (fX9_readWord_L32 ex n (l1 + Int32.ofInt 1) A (up2 (up2 V 132 20 (2 : Int32)) 132 21 l1) cu))) FU (0 : Int32) (0 : Int32)))))
def fX9_readWord (A V : xM) (cu : Value) : Option (xS) := fX9_readWord_L0 (fun (A29 V30 : xM) (c31 : Value) => fX9_readWord_L32 (fun (A37 V38 : xM) (c39 : Value) => some (A37, V38, c39)) FU (0 : Int32) A29 (up2 V30 132 20 (6 : Int32)) c31) FU  A V cu
def fX9_readNumber_L5 (ex : xM → xM → Value → Option (xS)) : Nat → xM → xM → Value → Option (xS)
  | 0, _, _, _ => none
  | n + 1, A, V, cu => if (V 132 14) ≤ (V 132 19) then (ex  A V cu) else (bC (xq_in (V 132 19) 160) (if (A 143 (V 132 19).toNatClampNeg) < (48 : Int32) then (ex  A V cu) else (if (57 : Int32) < (A 143 (V 132 19).toNatClampNeg) then (ex  A V cu) else (if (4 : Int32) ≤ ((V 132 19) - (V 132 22)) then (fX9_readNumber_L5 ex n  A (up2 (up2 V 132 21 (V 132 21)) 132 19 (((up2 V 132 21 (V 132 21)) 132 19) + (1 : Int32))) cu) else (fX9_readNumber_L5 ex n  A (up2 (up2 V 132 21 ((((10 : Int32) * (V 132 21)) + (A 143 (V 132 19).toNatClampNeg)) - (48 : Int32))) 132 19 (((up2 V 132 21 ((((10 : Int32) * (V 132 21)) + (A 143 (V 132 19).toNatClampNeg)) - (48 : Int32))) 132 19) + (1 : Int32))) cu)))))
def fX9_readNumber (A V : xM) (cu : Value) : Option (xS) := fX9_readNumber_L5 (fun (A6 V7 : xM) (c8 : Value) => if ((V7 132 19) - (V7 132 22)) ≤ (4 : Int32) then (some (A6, (up2 V7 132 20 (1 : Int32)), c8)) else (some (A6, (up2 V7 132 20 (6 : Int32)), c8))) FU  A (up2 V 132 21 (0 : Int32)) cu
def fX9_next_L0 (ex : xM → xM → Value → Option (xS)) : Nat → xM → xM → Value → Option (xS)
  | 0, _, _, _ => none
  | n + 1, A, V, cu => if (V 132 14) ≤ (V 132 19) then (ex  A V cu) else (bC (xq_in (V 132 19) 160) (if (A 143 (V 132 19).toNatClampNeg) = (32 : Int32) then (fX9_next_L0 ex n  A (up2 V 132 19 ((V 132 19) + (1 : Int32))) cu) else (if (A 143 (V 132 19).toNatClampNeg) = (10 : Int32) then (fX9_next_L0 ex n  A (up2 V 132 19 ((V 132 19) + (1 : Int32))) cu) else (ex  A V cu))))
def fX9_next (A V : xM) (cu : Value) : Option (xS) := fX9_next_L0 (fun (A6 V7 : xM) (c8 : Value) => if ((up2 V7 132 22 (V7 132 19)) 132 19) = ((up2 V7 132 22 (V7 132 19)) 132 14) then (some (A6, (up2 (up2 V7 132 22 (V7 132 19)) 132 20 (5 : Int32)), c8)) else (if ((up2 V7 132 22 (V7 132 19)) 132 14) ≤ ((up2 V7 132 22 (V7 132 19)) 132 19) then (bC (xq_in ((up2 V7 132 22 (V7 132 19)) 132 19) 160) (if ((up2 (up2 V7 132 22 (V7 132 19)) 132 21 (A6 143 ((up2 V7 132 22 (V7 132 19)) 132 19).toNatClampNeg)) 132 21) = (40 : Int32) then (some (A6, (up2 (up2 (up2 (up2 V7 132 22 (V7 132 19)) 132 21 (A6 143 ((up2 V7 132 22 (V7 132 19)) 132 19).toNatClampNeg)) 132 20 (4 : Int32)) 132 19 (((up2 (up2 (up2 V7 132 22 (V7 132 19)) 132 21 (A6 143 ((up2 V7 132 22 (V7 132 19)) 132 19).toNatClampNeg)) 132 20 (4 : Int32)) 132 19) + (1 : Int32))), c8)) else (if ((up2 (up2 V7 132 22 (V7 132 19)) 132 21 (A6 143 ((up2 V7 132 22 (V7 132 19)) 132 19).toNatClampNeg)) 132 21) = (41 : Int32) then (some (A6, (up2 (up2 (up2 (up2 V7 132 22 (V7 132 19)) 132 21 (A6 143 ((up2 V7 132 22 (V7 132 19)) 132 19).toNatClampNeg)) 132 20 (4 : Int32)) 132 19 (((up2 (up2 (up2 V7 132 22 (V7 132 19)) 132 21 (A6 143 ((up2 V7 132 22 (V7 132 19)) 132 19).toNatClampNeg)) 132 20 (4 : Int32)) 132 19) + (1 : Int32))), c8)) else (if ((up2 (up2 V7 132 22 (V7 132 19)) 132 21 (A6 143 ((up2 V7 132 22 (V7 132 19)) 132 19).toNatClampNeg)) 132 21) = (59 : Int32) then (some (A6, (up2 (up2 (up2 (up2 V7 132 22 (V7 132 19)) 132 21 (A6 143 ((up2 V7 132 22 (V7 132 19)) 132 19).toNatClampNeg)) 132 20 (4 : Int32)) 132 19 (((up2 (up2 (up2 V7 132 22 (V7 132 19)) 132 21 (A6 143 ((up2 V7 132 22 (V7 132 19)) 132 19).toNatClampNeg)) 132 20 (4 : Int32)) 132 19) + (1 : Int32))), c8)) else (if ((up2 (up2 V7 132 22 (V7 132 19)) 132 21 (A6 143 ((up2 V7 132 22 (V7 132 19)) 132 19).toNatClampNeg)) 132 21) = (43 : Int32) then (some (A6, (up2 (up2 (up2 (up2 V7 132 22 (V7 132 19)) 132 21 (A6 143 ((up2 V7 132 22 (V7 132 19)) 132 19).toNatClampNeg)) 132 20 (4 : Int32)) 132 19 (((up2 (up2 (up2 V7 132 22 (V7 132 19)) 132 21 (A6 143 ((up2 V7 132 22 (V7 132 19)) 132 19).toNatClampNeg)) 132 20 (4 : Int32)) 132 19) + (1 : Int32))), c8)) else (if ((up2 (up2 V7 132 22 (V7 132 19)) 132 21 (A6 143 ((up2 V7 132 22 (V7 132 19)) 132 19).toNatClampNeg)) 132 21) = (45 : Int32) then (some (A6, (up2 (up2 (up2 (up2 V7 132 22 (V7 132 19)) 132 21 (A6 143 ((up2 V7 132 22 (V7 132 19)) 132 19).toNatClampNeg)) 132 20 (4 : Int32)) 132 19 (((up2 (up2 (up2 V7 132 22 (V7 132 19)) 132 21 (A6 143 ((up2 V7 132 22 (V7 132 19)) 132 19).toNatClampNeg)) 132 20 (4 : Int32)) 132 19) + (1 : Int32))), c8)) else (if ((up2 (up2 V7 132 22 (V7 132 19)) 132 21 (A6 143 ((up2 V7 132 22 (V7 132 19)) 132 19).toNatClampNeg)) 132 21) = (42 : Int32) then (some (A6, (up2 (up2 (up2 (up2 V7 132 22 (V7 132 19)) 132 21 (A6 143 ((up2 V7 132 22 (V7 132 19)) 132 19).toNatClampNeg)) 132 20 (4 : Int32)) 132 19 (((up2 (up2 (up2 V7 132 22 (V7 132 19)) 132 21 (A6 143 ((up2 V7 132 22 (V7 132 19)) 132 19).toNatClampNeg)) 132 20 (4 : Int32)) 132 19) + (1 : Int32))), c8)) else (if ((up2 (up2 V7 132 22 (V7 132 19)) 132 21 (A6 143 ((up2 V7 132 22 (V7 132 19)) 132 19).toNatClampNeg)) 132 21) = (60 : Int32) then (some (A6, (up2 (up2 (up2 (up2 V7 132 22 (V7 132 19)) 132 21 (A6 143 ((up2 V7 132 22 (V7 132 19)) 132 19).toNatClampNeg)) 132 20 (4 : Int32)) 132 19 (((up2 (up2 (up2 V7 132 22 (V7 132 19)) 132 21 (A6 143 ((up2 V7 132 22 (V7 132 19)) 132 19).toNatClampNeg)) 132 20 (4 : Int32)) 132 19) + (1 : Int32))), c8)) else (if ((up2 (up2 V7 132 22 (V7 132 19)) 132 21 (A6 143 ((up2 V7 132 22 (V7 132 19)) 132 19).toNatClampNeg)) 132 21) = (61 : Int32) then (some (A6, (up2 (up2 (up2 (up2 V7 132 22 (V7 132 19)) 132 21 (A6 143 ((up2 V7 132 22 (V7 132 19)) 132 19).toNatClampNeg)) 132 20 (4 : Int32)) 132 19 (((up2 (up2 (up2 V7 132 22 (V7 132 19)) 132 21 (A6 143 ((up2 V7 132 22 (V7 132 19)) 132 19).toNatClampNeg)) 132 20 (4 : Int32)) 132 19) + (1 : Int32))), c8)) else (some (A6, (up2 (up2 (up2 (up2 V7 132 22 (V7 132 19)) 132 21 (A6 143 ((up2 V7 132 22 (V7 132 19)) 132 19).toNatClampNeg)) 132 20 (6 : Int32)) 132 19 (((up2 (up2 (up2 V7 132 22 (V7 132 19)) 132 21 (A6 143 ((up2 V7 132 22 (V7 132 19)) 132 19).toNatClampNeg)) 132 20 (6 : Int32)) 132 19) + (1 : Int32))), c8))))))))))) else (bC (xq_in ((up2 V7 132 22 (V7 132 19)) 132 19) 160) (if (A6 143 ((up2 V7 132 22 (V7 132 19)) 132 19).toNatClampNeg) < (97 : Int32) then (if (A6 143 ((up2 V7 132 22 (V7 132 19)) 132 19).toNatClampNeg) < (48 : Int32) then (if ((up2 (up2 V7 132 22 (V7 132 19)) 132 21 (A6 143 ((up2 V7 132 22 (V7 132 19)) 132 19).toNatClampNeg)) 132 21) = (40 : Int32) then (some (A6, (up2 (up2 (up2 (up2 V7 132 22 (V7 132 19)) 132 21 (A6 143 ((up2 V7 132 22 (V7 132 19)) 132 19).toNatClampNeg)) 132 20 (4 : Int32)) 132 19 (((up2 (up2 (up2 V7 132 22 (V7 132 19)) 132 21 (A6 143 ((up2 V7 132 22 (V7 132 19)) 132 19).toNatClampNeg)) 132 20 (4 : Int32)) 132 19) + (1 : Int32))), c8)) else (if ((up2 (up2 V7 132 22 (V7 132 19)) 132 21 (A6 143 ((up2 V7 132 22 (V7 132 19)) 132 19).toNatClampNeg)) 132 21) = (41 : Int32) then (some (A6, (up2 (up2 (up2 (up2 V7 132 22 (V7 132 19)) 132 21 (A6 143 ((up2 V7 132 22 (V7 132 19)) 132 19).toNatClampNeg)) 132 20 (4 : Int32)) 132 19 (((up2 (up2 (up2 V7 132 22 (V7 132 19)) 132 21 (A6 143 ((up2 V7 132 22 (V7 132 19)) 132 19).toNatClampNeg)) 132 20 (4 : Int32)) 132 19) + (1 : Int32))), c8)) else (if ((up2 (up2 V7 132 22 (V7 132 19)) 132 21 (A6 143 ((up2 V7 132 22 (V7 132 19)) 132 19).toNatClampNeg)) 132 21) = (59 : Int32) then (some (A6, (up2 (up2 (up2 (up2 V7 132 22 (V7 132 19)) 132 21 (A6 143 ((up2 V7 132 22 (V7 132 19)) 132 19).toNatClampNeg)) 132 20 (4 : Int32)) 132 19 (((up2 (up2 (up2 V7 132 22 (V7 132 19)) 132 21 (A6 143 ((up2 V7 132 22 (V7 132 19)) 132 19).toNatClampNeg)) 132 20 (4 : Int32)) 132 19) + (1 : Int32))), c8)) else (if ((up2 (up2 V7 132 22 (V7 132 19)) 132 21 (A6 143 ((up2 V7 132 22 (V7 132 19)) 132 19).toNatClampNeg)) 132 21) = (43 : Int32) then (some (A6, (up2 (up2 (up2 (up2 V7 132 22 (V7 132 19)) 132 21 (A6 143 ((up2 V7 132 22 (V7 132 19)) 132 19).toNatClampNeg)) 132 20 (4 : Int32)) 132 19 (((up2 (up2 (up2 V7 132 22 (V7 132 19)) 132 21 (A6 143 ((up2 V7 132 22 (V7 132 19)) 132 19).toNatClampNeg)) 132 20 (4 : Int32)) 132 19) + (1 : Int32))), c8)) else (if ((up2 (up2 V7 132 22 (V7 132 19)) 132 21 (A6 143 ((up2 V7 132 22 (V7 132 19)) 132 19).toNatClampNeg)) 132 21) = (45 : Int32) then (some (A6, (up2 (up2 (up2 (up2 V7 132 22 (V7 132 19)) 132 21 (A6 143 ((up2 V7 132 22 (V7 132 19)) 132 19).toNatClampNeg)) 132 20 (4 : Int32)) 132 19 (((up2 (up2 (up2 V7 132 22 (V7 132 19)) 132 21 (A6 143 ((up2 V7 132 22 (V7 132 19)) 132 19).toNatClampNeg)) 132 20 (4 : Int32)) 132 19) + (1 : Int32))), c8)) else (if ((up2 (up2 V7 132 22 (V7 132 19)) 132 21 (A6 143 ((up2 V7 132 22 (V7 132 19)) 132 19).toNatClampNeg)) 132 21) = (42 : Int32) then (some (A6, (up2 (up2 (up2 (up2 V7 132 22 (V7 132 19)) 132 21 (A6 143 ((up2 V7 132 22 (V7 132 19)) 132 19).toNatClampNeg)) 132 20 (4 : Int32)) 132 19 (((up2 (up2 (up2 V7 132 22 (V7 132 19)) 132 21 (A6 143 ((up2 V7 132 22 (V7 132 19)) 132 19).toNatClampNeg)) 132 20 (4 : Int32)) 132 19) + (1 : Int32))), c8)) else (if ((up2 (up2 V7 132 22 (V7 132 19)) 132 21 (A6 143 ((up2 V7 132 22 (V7 132 19)) 132 19).toNatClampNeg)) 132 21) = (60 : Int32) then (some (A6, (up2 (up2 (up2 (up2 V7 132 22 (V7 132 19)) 132 21 (A6 143 ((up2 V7 132 22 (V7 132 19)) 132 19).toNatClampNeg)) 132 20 (4 : Int32)) 132 19 (((up2 (up2 (up2 V7 132 22 (V7 132 19)) 132 21 (A6 143 ((up2 V7 132 22 (V7 132 19)) 132 19).toNatClampNeg)) 132 20 (4 : Int32)) 132 19) + (1 : Int32))), c8)) else (if ((up2 (up2 V7 132 22 (V7 132 19)) 132 21 (A6 143 ((up2 V7 132 22 (V7 132 19)) 132 19).toNatClampNeg)) 132 21) = (61 : Int32) then (some (A6, (up2 (up2 (up2 (up2 V7 132 22 (V7 132 19)) 132 21 (A6 143 ((up2 V7 132 22 (V7 132 19)) 132 19).toNatClampNeg)) 132 20 (4 : Int32)) 132 19 (((up2 (up2 (up2 V7 132 22 (V7 132 19)) 132 21 (A6 143 ((up2 V7 132 22 (V7 132 19)) 132 19).toNatClampNeg)) 132 20 (4 : Int32)) 132 19) + (1 : Int32))), c8)) else (some (A6, (up2 (up2 (up2 (up2 V7 132 22 (V7 132 19)) 132 21 (A6 143 ((up2 V7 132 22 (V7 132 19)) 132 19).toNatClampNeg)) 132 20 (6 : Int32)) 132 19 (((up2 (up2 (up2 V7 132 22 (V7 132 19)) 132 21 (A6 143 ((up2 V7 132 22 (V7 132 19)) 132 19).toNatClampNeg)) 132 20 (6 : Int32)) 132 19) + (1 : Int32))), c8)))))))))) else (if (57 : Int32) < (A6 143 ((up2 V7 132 22 (V7 132 19)) 132 19).toNatClampNeg) then (if ((up2 (up2 V7 132 22 (V7 132 19)) 132 21 (A6 143 ((up2 V7 132 22 (V7 132 19)) 132 19).toNatClampNeg)) 132 21) = (40 : Int32) then (some (A6, (up2 (up2 (up2 (up2 V7 132 22 (V7 132 19)) 132 21 (A6 143 ((up2 V7 132 22 (V7 132 19)) 132 19).toNatClampNeg)) 132 20 (4 : Int32)) 132 19 (((up2 (up2 (up2 V7 132 22 (V7 132 19)) 132 21 (A6 143 ((up2 V7 132 22 (V7 132 19)) 132 19).toNatClampNeg)) 132 20 (4 : Int32)) 132 19) + (1 : Int32))), c8)) else (if ((up2 (up2 V7 132 22 (V7 132 19)) 132 21 (A6 143 ((up2 V7 132 22 (V7 132 19)) 132 19).toNatClampNeg)) 132 21) = (41 : Int32) then (some (A6, (up2 (up2 (up2 (up2 V7 132 22 (V7 132 19)) 132 21 (A6 143 ((up2 V7 132 22 (V7 132 19)) 132 19).toNatClampNeg)) 132 20 (4 : Int32)) 132 19 (((up2 (up2 (up2 V7 132 22 (V7 132 19)) 132 21 (A6 143 ((up2 V7 132 22 (V7 132 19)) 132 19).toNatClampNeg)) 132 20 (4 : Int32)) 132 19) + (1 : Int32))), c8)) else (if ((up2 (up2 V7 132 22 (V7 132 19)) 132 21 (A6 143 ((up2 V7 132 22 (V7 132 19)) 132 19).toNatClampNeg)) 132 21) = (59 : Int32) then (some (A6, (up2 (up2 (up2 (up2 V7 132 22 (V7 132 19)) 132 21 (A6 143 ((up2 V7 132 22 (V7 132 19)) 132 19).toNatClampNeg)) 132 20 (4 : Int32)) 132 19 (((up2 (up2 (up2 V7 132 22 (V7 132 19)) 132 21 (A6 143 ((up2 V7 132 22 (V7 132 19)) 132 19).toNatClampNeg)) 132 20 (4 : Int32)) 132 19) + (1 : Int32))), c8)) else (if ((up2 (up2 V7 132 22 (V7 132 19)) 132 21 (A6 143 ((up2 V7 132 22 (V7 132 19)) 132 19).toNatClampNeg)) 132 21) = (43 : Int32) then (some (A6, (up2 (up2 (up2 (up2 V7 132 22 (V7 132 19)) 132 21 (A6 143 ((up2 V7 132 22 (V7 132 19)) 132 19).toNatClampNeg)) 132 20 (4 : Int32)) 132 19 (((up2 (up2 (up2 V7 132 22 (V7 132 19)) 132 21 (A6 143 ((up2 V7 132 22 (V7 132 19)) 132 19).toNatClampNeg)) 132 20 (4 : Int32)) 132 19) + (1 : Int32))), c8)) else (if ((up2 (up2 V7 132 22 (V7 132 19)) 132 21 (A6 143 ((up2 V7 132 22 (V7 132 19)) 132 19).toNatClampNeg)) 132 21) = (45 : Int32) then (some (A6, (up2 (up2 (up2 (up2 V7 132 22 (V7 132 19)) 132 21 (A6 143 ((up2 V7 132 22 (V7 132 19)) 132 19).toNatClampNeg)) 132 20 (4 : Int32)) 132 19 (((up2 (up2 (up2 V7 132 22 (V7 132 19)) 132 21 (A6 143 ((up2 V7 132 22 (V7 132 19)) 132 19).toNatClampNeg)) 132 20 (4 : Int32)) 132 19) + (1 : Int32))), c8)) else (if ((up2 (up2 V7 132 22 (V7 132 19)) 132 21 (A6 143 ((up2 V7 132 22 (V7 132 19)) 132 19).toNatClampNeg)) 132 21) = (42 : Int32) then (some (A6, (up2 (up2 (up2 (up2 V7 132 22 (V7 132 19)) 132 21 (A6 143 ((up2 V7 132 22 (V7 132 19)) 132 19).toNatClampNeg)) 132 20 (4 : Int32)) 132 19 (((up2 (up2 (up2 V7 132 22 (V7 132 19)) 132 21 (A6 143 ((up2 V7 132 22 (V7 132 19)) 132 19).toNatClampNeg)) 132 20 (4 : Int32)) 132 19) + (1 : Int32))), c8)) else (if ((up2 (up2 V7 132 22 (V7 132 19)) 132 21 (A6 143 ((up2 V7 132 22 (V7 132 19)) 132 19).toNatClampNeg)) 132 21) = (60 : Int32) then (some (A6, (up2 (up2 (up2 (up2 V7 132 22 (V7 132 19)) 132 21 (A6 143 ((up2 V7 132 22 (V7 132 19)) 132 19).toNatClampNeg)) 132 20 (4 : Int32)) 132 19 (((up2 (up2 (up2 V7 132 22 (V7 132 19)) 132 21 (A6 143 ((up2 V7 132 22 (V7 132 19)) 132 19).toNatClampNeg)) 132 20 (4 : Int32)) 132 19) + (1 : Int32))), c8)) else (if ((up2 (up2 V7 132 22 (V7 132 19)) 132 21 (A6 143 ((up2 V7 132 22 (V7 132 19)) 132 19).toNatClampNeg)) 132 21) = (61 : Int32) then (some (A6, (up2 (up2 (up2 (up2 V7 132 22 (V7 132 19)) 132 21 (A6 143 ((up2 V7 132 22 (V7 132 19)) 132 19).toNatClampNeg)) 132 20 (4 : Int32)) 132 19 (((up2 (up2 (up2 V7 132 22 (V7 132 19)) 132 21 (A6 143 ((up2 V7 132 22 (V7 132 19)) 132 19).toNatClampNeg)) 132 20 (4 : Int32)) 132 19) + (1 : Int32))), c8)) else (some (A6, (up2 (up2 (up2 (up2 V7 132 22 (V7 132 19)) 132 21 (A6 143 ((up2 V7 132 22 (V7 132 19)) 132 19).toNatClampNeg)) 132 20 (6 : Int32)) 132 19 (((up2 (up2 (up2 V7 132 22 (V7 132 19)) 132 21 (A6 143 ((up2 V7 132 22 (V7 132 19)) 132 19).toNatClampNeg)) 132 20 (6 : Int32)) 132 19) + (1 : Int32))), c8)))))))))) else (bS (fX9_readNumber A6 (up2 V7 132 22 (V7 132 19)) c8) (fun A41 V42 c43 => some (A41, V42, c43))))) else (if (122 : Int32) < (A6 143 ((up2 V7 132 22 (V7 132 19)) 132 19).toNatClampNeg) then (if (A6 143 ((up2 V7 132 22 (V7 132 19)) 132 19).toNatClampNeg) < (48 : Int32) then (if ((up2 (up2 V7 132 22 (V7 132 19)) 132 21 (A6 143 ((up2 V7 132 22 (V7 132 19)) 132 19).toNatClampNeg)) 132 21) = (40 : Int32) then (some (A6, (up2 (up2 (up2 (up2 V7 132 22 (V7 132 19)) 132 21 (A6 143 ((up2 V7 132 22 (V7 132 19)) 132 19).toNatClampNeg)) 132 20 (4 : Int32)) 132 19 (((up2 (up2 (up2 V7 132 22 (V7 132 19)) 132 21 (A6 143 ((up2 V7 132 22 (V7 132 19)) 132 19).toNatClampNeg)) 132 20 (4 : Int32)) 132 19) + (1 : Int32))), c8)) else (if ((up2 (up2 V7 132 22 (V7 132 19)) 132 21 (A6 143 ((up2 V7 132 22 (V7 132 19)) 132 19).toNatClampNeg)) 132 21) = (41 : Int32) then (some (A6, (up2 (up2 (up2 (up2 V7 132 22 (V7 132 19)) 132 21 (A6 143 ((up2 V7 132 22 (V7 132 19)) 132 19).toNatClampNeg)) 132 20 (4 : Int32)) 132 19 (((up2 (up2 (up2 V7 132 22 (V7 132 19)) 132 21 (A6 143 ((up2 V7 132 22 (V7 132 19)) 132 19).toNatClampNeg)) 132 20 (4 : Int32)) 132 19) + (1 : Int32))), c8)) else (if ((up2 (up2 V7 132 22 (V7 132 19)) 132 21 (A6 143 ((up2 V7 132 22 (V7 132 19)) 132 19).toNatClampNeg)) 132 21) = (59 : Int32) then (some (A6, (up2 (up2 (up2 (up2 V7 132 22 (V7 132 19)) 132 21 (A6 143 ((up2 V7 132 22 (V7 132 19)) 132 19).toNatClampNeg)) 132 20 (4 : Int32)) 132 19 (((up2 (up2 (up2 V7 132 22 (V7 132 19)) 132 21 (A6 143 ((up2 V7 132 22 (V7 132 19)) 132 19).toNatClampNeg)) 132 20 (4 : Int32)) 132 19) + (1 : Int32))), c8)) else (if ((up2 (up2 V7 132 22 (V7 132 19)) 132 21 (A6 143 ((up2 V7 132 22 (V7 132 19)) 132 19).toNatClampNeg)) 132 21) = (43 : Int32) then (some (A6, (up2 (up2 (up2 (up2 V7 132 22 (V7 132 19)) 132 21 (A6 143 ((up2 V7 132 22 (V7 132 19)) 132 19).toNatClampNeg)) 132 20 (4 : Int32)) 132 19 (((up2 (up2 (up2 V7 132 22 (V7 132 19)) 132 21 (A6 143 ((up2 V7 132 22 (V7 132 19)) 132 19).toNatClampNeg)) 132 20 (4 : Int32)) 132 19) + (1 : Int32))), c8)) else (if ((up2 (up2 V7 132 22 (V7 132 19)) 132 21 (A6 143 ((up2 V7 132 22 (V7 132 19)) 132 19).toNatClampNeg)) 132 21) = (45 : Int32) then (some (A6, (up2 (up2 (up2 (up2 V7 132 22 (V7 132 19)) 132 21 (A6 143 ((up2 V7 132 22 (V7 132 19)) 132 19).toNatClampNeg)) 132 20 (4 : Int32)) 132 19 (((up2 (up2 (up2 V7 132 22 (V7 132 19)) 132 21 (A6 143 ((up2 V7 132 22 (V7 132 19)) 132 19).toNatClampNeg)) 132 20 (4 : Int32)) 132 19) + (1 : Int32))), c8)) else (if ((up2 (up2 V7 132 22 (V7 132 19)) 132 21 (A6 143 ((up2 V7 132 22 (V7 132 19)) 132 19).toNatClampNeg)) 132 21) = (42 : Int32) then (some (A6, (up2 (up2 (up2 (up2 V7 132 22 (V7 132 19)) 132 21 (A6 143 ((up2 V7 132 22 (V7 132 19)) 132 19).toNatClampNeg)) 132 20 (4 : Int32)) 132 19 (((up2 (up2 (up2 V7 132 22 (V7 132 19)) 132 21 (A6 143 ((up2 V7 132 22 (V7 132 19)) 132 19).toNatClampNeg)) 132 20 (4 : Int32)) 132 19) + (1 : Int32))), c8)) else (if ((up2 (up2 V7 132 22 (V7 132 19)) 132 21 (A6 143 ((up2 V7 132 22 (V7 132 19)) 132 19).toNatClampNeg)) 132 21) = (60 : Int32) then (some (A6, (up2 (up2 (up2 (up2 V7 132 22 (V7 132 19)) 132 21 (A6 143 ((up2 V7 132 22 (V7 132 19)) 132 19).toNatClampNeg)) 132 20 (4 : Int32)) 132 19 (((up2 (up2 (up2 V7 132 22 (V7 132 19)) 132 21 (A6 143 ((up2 V7 132 22 (V7 132 19)) 132 19).toNatClampNeg)) 132 20 (4 : Int32)) 132 19) + (1 : Int32))), c8)) else (if ((up2 (up2 V7 132 22 (V7 132 19)) 132 21 (A6 143 ((up2 V7 132 22 (V7 132 19)) 132 19).toNatClampNeg)) 132 21) = (61 : Int32) then (some (A6, (up2 (up2 (up2 (up2 V7 132 22 (V7 132 19)) 132 21 (A6 143 ((up2 V7 132 22 (V7 132 19)) 132 19).toNatClampNeg)) 132 20 (4 : Int32)) 132 19 (((up2 (up2 (up2 V7 132 22 (V7 132 19)) 132 21 (A6 143 ((up2 V7 132 22 (V7 132 19)) 132 19).toNatClampNeg)) 132 20 (4 : Int32)) 132 19) + (1 : Int32))), c8)) else (some (A6, (up2 (up2 (up2 (up2 V7 132 22 (V7 132 19)) 132 21 (A6 143 ((up2 V7 132 22 (V7 132 19)) 132 19).toNatClampNeg)) 132 20 (6 : Int32)) 132 19 (((up2 (up2 (up2 V7 132 22 (V7 132 19)) 132 21 (A6 143 ((up2 V7 132 22 (V7 132 19)) 132 19).toNatClampNeg)) 132 20 (6 : Int32)) 132 19) + (1 : Int32))), c8)))))))))) else (if (57 : Int32) < (A6 143 ((up2 V7 132 22 (V7 132 19)) 132 19).toNatClampNeg) then (if ((up2 (up2 V7 132 22 (V7 132 19)) 132 21 (A6 143 ((up2 V7 132 22 (V7 132 19)) 132 19).toNatClampNeg)) 132 21) = (40 : Int32) then (some (A6, (up2 (up2 (up2 (up2 V7 132 22 (V7 132 19)) 132 21 (A6 143 ((up2 V7 132 22 (V7 132 19)) 132 19).toNatClampNeg)) 132 20 (4 : Int32)) 132 19 (((up2 (up2 (up2 V7 132 22 (V7 132 19)) 132 21 (A6 143 ((up2 V7 132 22 (V7 132 19)) 132 19).toNatClampNeg)) 132 20 (4 : Int32)) 132 19) + (1 : Int32))), c8)) else (if ((up2 (up2 V7 132 22 (V7 132 19)) 132 21 (A6 143 ((up2 V7 132 22 (V7 132 19)) 132 19).toNatClampNeg)) 132 21) = (41 : Int32) then (some (A6, (up2 (up2 (up2 (up2 V7 132 22 (V7 132 19)) 132 21 (A6 143 ((up2 V7 132 22 (V7 132 19)) 132 19).toNatClampNeg)) 132 20 (4 : Int32)) 132 19 (((up2 (up2 (up2 V7 132 22 (V7 132 19)) 132 21 (A6 143 ((up2 V7 132 22 (V7 132 19)) 132 19).toNatClampNeg)) 132 20 (4 : Int32)) 132 19) + (1 : Int32))), c8)) else (if ((up2 (up2 V7 132 22 (V7 132 19)) 132 21 (A6 143 ((up2 V7 132 22 (V7 132 19)) 132 19).toNatClampNeg)) 132 21) = (59 : Int32) then (some (A6, (up2 (up2 (up2 (up2 V7 132 22 (V7 132 19)) 132 21 (A6 143 ((up2 V7 132 22 (V7 132 19)) 132 19).toNatClampNeg)) 132 20 (4 : Int32)) 132 19 (((up2 (up2 (up2 V7 132 22 (V7 132 19)) 132 21 (A6 143 ((up2 V7 132 22 (V7 132 19)) 132 19).toNatClampNeg)) 132 20 (4 : Int32)) 132 19) + (1 : Int32))), c8)) else (if ((up2 (up2 V7 132 22 (V7 132 19)) 132 21 (A6 143 ((up2 V7 132 22 (V7 132 19)) 132 19).toNatClampNeg)) 132 21) = (43 : Int32) then (some (A6, (up2 (up2 (up2 (up2 V7 132 22 (V7 132 19)) 132 21 (A6 143 ((up2 V7 132 22 (V7 132 19)) 132 19).toNatClampNeg)) 132 20 (4 : Int32)) 132 19 (((up2 (up2 (up2 V7 132 22 (V7 132 19)) 132 21 (A6 143 ((up2 V7 132 22 (V7 132 19)) 132 19).toNatClampNeg)) 132 20 (4 : Int32)) 132 19) + (1 : Int32))), c8)) else (if ((up2 (up2 V7 132 22 (V7 132 19)) 132 21 (A6 143 ((up2 V7 132 22 (V7 132 19)) 132 19).toNatClampNeg)) 132 21) = (45 : Int32) then (some (A6, (up2 (up2 (up2 (up2 V7 132 22 (V7 132 19)) 132 21 (A6 143 ((up2 V7 132 22 (V7 132 19)) 132 19).toNatClampNeg)) 132 20 (4 : Int32)) 132 19 (((up2 (up2 (up2 V7 132 22 (V7 132 19)) 132 21 (A6 143 ((up2 V7 132 22 (V7 132 19)) 132 19).toNatClampNeg)) 132 20 (4 : Int32)) 132 19) + (1 : Int32))), c8)) else (if ((up2 (up2 V7 132 22 (V7 132 19)) 132 21 (A6 143 ((up2 V7 132 22 (V7 132 19)) 132 19).toNatClampNeg)) 132 21) = (42 : Int32) then (some (A6, (up2 (up2 (up2 (up2 V7 132 22 (V7 132 19)) 132 21 (A6 143 ((up2 V7 132 22 (V7 132 19)) 132 19).toNatClampNeg)) 132 20 (4 : Int32)) 132 19 (((up2 (up2 (up2 V7 132 22 (V7 132 19)) 132 21 (A6 143 ((up2 V7 132 22 (V7 132 19)) 132 19).toNatClampNeg)) 132 20 (4 : Int32)) 132 19) + (1 : Int32))), c8)) else (if ((up2 (up2 V7 132 22 (V7 132 19)) 132 21 (A6 143 ((up2 V7 132 22 (V7 132 19)) 132 19).toNatClampNeg)) 132 21) = (60 : Int32) then (some (A6, (up2 (up2 (up2 (up2 V7 132 22 (V7 132 19)) 132 21 (A6 143 ((up2 V7 132 22 (V7 132 19)) 132 19).toNatClampNeg)) 132 20 (4 : Int32)) 132 19 (((up2 (up2 (up2 V7 132 22 (V7 132 19)) 132 21 (A6 143 ((up2 V7 132 22 (V7 132 19)) 132 19).toNatClampNeg)) 132 20 (4 : Int32)) 132 19) + (1 : Int32))), c8)) else (if ((up2 (up2 V7 132 22 (V7 132 19)) 132 21 (A6 143 ((up2 V7 132 22 (V7 132 19)) 132 19).toNatClampNeg)) 132 21) = (61 : Int32) then (some (A6, (up2 (up2 (up2 (up2 V7 132 22 (V7 132 19)) 132 21 (A6 143 ((up2 V7 132 22 (V7 132 19)) 132 19).toNatClampNeg)) 132 20 (4 : Int32)) 132 19 (((up2 (up2 (up2 V7 132 22 (V7 132 19)) 132 21 (A6 143 ((up2 V7 132 22 (V7 132 19)) 132 19).toNatClampNeg)) 132 20 (4 : Int32)) 132 19) + (1 : Int32))), c8)) else (some (A6, (up2 (up2 (up2 (up2 V7 132 22 (V7 132 19)) 132 21 (A6 143 ((up2 V7 132 22 (V7 132 19)) 132 19).toNatClampNeg)) 132 20 (6 : Int32)) 132 19 (((up2 (up2 (up2 V7 132 22 (V7 132 19)) 132 21 (A6 143 ((up2 V7 132 22 (V7 132 19)) 132 19).toNatClampNeg)) 132 20 (6 : Int32)) 132 19) + (1 : Int32))), c8)))))))))) else (bS (fX9_readNumber A6 (up2 V7 132 22 (V7 132 19)) c8) (fun A65 V66 c67 => some (A65, V66, c67))))) else (bS (fX9_readWord A6 (up2 V7 132 22 (V7 132 19)) c8) (fun A70 V71 c72 => some (A70, V71, c72)))))))) FU  A V cu
def fX9_emit (l1 : Int32) (A V : xM) (cu : Value) : Option (xS) := bC (xq_in ((V 132 30) + (V 132 31)) 2880) (some ((aw A 144 ((V 132 30) + (V 132 31)) l1), (up2 V 132 31 ((V 132 31) + (1 : Int32))), cu))
def fX9_rank (l0 : Int32) (A V : xM) : Option (Int32) := if l0 = (10 : Int32) then (some (1 : Int32)) else (if l0 = (11 : Int32) then (some (2 : Int32)) else (if l0 = (12 : Int32) then (some (3 : Int32)) else (if l0 = (13 : Int32) then (some (4 : Int32)) else (if l0 = (14 : Int32) then (some (4 : Int32)) else (if l0 = (15 : Int32) then (some (5 : Int32)) else (if l0 = (16 : Int32) then (some (5 : Int32)) else (if l0 = (17 : Int32) then (some (6 : Int32)) else (if l0 = (18 : Int32) then (some (7 : Int32)) else (some (0 : Int32))))))))))
def fX9_doAll_L0 (l1 : Int32) (ex : xM → xM → Value → Option (xS)) : Nat → xM → xM → Value → Option (xS)
  | 0, _, _, _ => none
  | n + 1, A, V, cu => if (V 132 26) ≤ 0 then (ex  A V cu) else (bC (xq_in ((V 132 26) - (1 : Int32)) 170) (if (A 148 ((V 132 26) - (1 : Int32)).toNatClampNeg) = (30 : Int32) then (ex  A V cu) else (bI (fX9_rank (A 148 ((V 132 26) - (1 : Int32)).toNatClampNeg) A V) (fun x4 => if x4 < l1 then (ex  A V cu) else (bC (xq_in ((up2 V 132 26 ((V 132 26) - (1 : Int32))) 132 26) 170) (if (A 148 ((up2 V 132 26 ((V 132 26) - (1 : Int32))) 132 26).toNatClampNeg) = (12 : Int32) then (bC (xq_in ((up2 (up2 V 132 26 ((V 132 26) - (1 : Int32))) 132 27 (((up2 V 132 26 ((V 132 26) - (1 : Int32))) 132 27) - (1 : Int32))) 132 26) 170) (bS (fX9_emit (A 148 ((up2 (up2 V 132 26 ((V 132 26) - (1 : Int32))) 132 27 (((up2 V 132 26 ((V 132 26) - (1 : Int32))) 132 27) - (1 : Int32))) 132 26).toNatClampNeg) A (up2 (up2 V 132 26 ((V 132 26) - (1 : Int32))) 132 27 (((up2 V 132 26 ((V 132 26) - (1 : Int32))) 132 27) - (1 : Int32))) cu) (fun A11 V12 c13 => fX9_doAll_L0 l1 ex n  A11 V12 c13))) else (if (A 148 ((up2 V 132 26 ((V 132 26) - (1 : Int32))) 132 26).toNatClampNeg) = (18 : Int32) then (bC (xq_in ((up2 (up2 V 132 26 ((V 132 26) - (1 : Int32))) 132 27 (((up2 V 132 26 ((V 132 26) - (1 : Int32))) 132 27) - (1 : Int32))) 132 26) 170) (bS (fX9_emit (A 148 ((up2 (up2 V 132 26 ((V 132 26) - (1 : Int32))) 132 27 (((up2 V 132 26 ((V 132 26) - (1 : Int32))) 132 27) - (1 : Int32))) 132 26).toNatClampNeg) A (up2 (up2 V 132 26 ((V 132 26) - (1 : Int32))) 132 27 (((up2 V 132 26 ((V 132 26) - (1 : Int32))) 132 27) - (1 : Int32))) cu) (fun A18 V19 c20 => fX9_doAll_L0 l1 ex n  A18 V19 c20))) else (bC (xq_in ((up2 (up2 V 132 26 ((V 132 26) - (1 : Int32))) 132 27 (((up2 V 132 26 ((V 132 26) - (1 : Int32))) 132 27) - (0 : Int32))) 132 26) 170) (bS (fX9_emit (A 148 ((up2 (up2 V 132 26 ((V 132 26) - (1 : Int32))) 132 27 (((up2 V 132 26 ((V 132 26) - (1 : Int32))) 132 27) - (0 : Int32))) 132 26).toNatClampNeg) A (up2 (up2 V 132 26 ((V 132 26) - (1 : Int32))) 132 27 (((up2 V 132 26 ((V 132 26) - (1 : Int32))) 132 27) - (0 : Int32))) cu) (fun A24 V25 c26 => fX9_doAll_L0 l1 ex n  A24 V25 c26))))))))))
def fX9_doAll (l1 : Int32) (A V : xM) (cu : Value) : Option (xS) := fX9_doAll_L0 l1 (fun (A30 V31 : xM) (c32 : Value) => some (A30, V31, c32)) FU  A V cu
def fX9_await (l1 : Int32) (A V : xM) (cu : Value) : Option (xS) := bC (xq_in (V 132 26) 170) (some ((aw A 148 (V 132 26) l1), (up2 V 132 26 ((V 132 26) + (1 : Int32))), cu))
def fX9_between (A V : xM) (cu : Value) : Option (Int32 × xS) := if (V 132 20) = (4 : Int32) then (if (V 132 21) = (43 : Int32) then (bI (fX9_rank (15 : Int32) A V) (fun x3 => if x3 = (4 : Int32) then (bC (xq_in (V 132 28) 8) (if (A 149 (V 132 28).toNatClampNeg) = 0 then (bI (fX9_rank (15 : Int32) A V) (fun x8 => bS (fX9_doAll x8 A V cu) (fun A11 V12 c13 => bS (fX9_await (15 : Int32) A11 V12 c13) (fun A16 V17 c18 => bI (fX9_rank (15 : Int32) A16 V17) (fun x20 => if x20 = (4 : Int32) then (bC (xq_in (V17 132 28) 8) (some ((1 : Int32), (aw A16 149 (V17 132 28) (vp_nar .boolean (1 : Int32))), V17, c18))) else (bI (fX9_rank (15 : Int32) A16 V17) (fun x24 => if x24 ≤ (4 : Int32) then (bC (xq_in (V17 132 28) 8) (some ((1 : Int32), (aw A16 149 (V17 132 28) (vp_nar .boolean (0 : Int32))), V17, c18))) else (bC (xq_in (V17 132 28) 8) (if (A16 149 (V17 132 28).toNatClampNeg) = 0 then (some ((1 : Int32), (aw A16 149 (V17 132 28) (vp_nar .boolean (0 : Int32))), V17, c18)) else (some ((1 : Int32), (aw A16 149 (V17 132 28) (vp_nar .boolean (1 : Int32))), V17, c18))))))))))) else (some ((0 : Int32), A, V, cu)))) else (bI (fX9_rank (15 : Int32) A V) (fun x30 => bS (fX9_doAll x30 A V cu) (fun A33 V34 c35 => bS (fX9_await (15 : Int32) A33 V34 c35) (fun A38 V39 c40 => bI (fX9_rank (15 : Int32) A38 V39) (fun x42 => if x42 = (4 : Int32) then (bC (xq_in (V39 132 28) 8) (some ((1 : Int32), (aw A38 149 (V39 132 28) (vp_nar .boolean (1 : Int32))), V39, c40))) else (bI (fX9_rank (15 : Int32) A38 V39) (fun x46 => if x46 ≤ (4 : Int32) then (bC (xq_in (V39 132 28) 8) (some ((1 : Int32), (aw A38 149 (V39 132 28) (vp_nar .boolean (0 : Int32))), V39, c40))) else (bC (xq_in (V39 132 28) 8) (if (A38 149 (V39 132 28).toNatClampNeg) = 0 then (some ((1 : Int32), (aw A38 149 (V39 132 28) (vp_nar .boolean (0 : Int32))), V39, c40)) else (some ((1 : Int32), (aw A38 149 (V39 132 28) (vp_nar .boolean (1 : Int32))), V39, c40))))))))))))) else (if (V 132 21) = (45 : Int32) then (bI (fX9_rank (16 : Int32) A V) (fun x53 => if x53 = (4 : Int32) then (bC (xq_in (V 132 28) 8) (if (A 149 (V 132 28).toNatClampNeg) = 0 then (bI (fX9_rank (16 : Int32) A V) (fun x58 => bS (fX9_doAll x58 A V cu) (fun A61 V62 c63 => bS (fX9_await (16 : Int32) A61 V62 c63) (fun A66 V67 c68 => bI (fX9_rank (16 : Int32) A66 V67) (fun x70 => if x70 = (4 : Int32) then (bC (xq_in (V67 132 28) 8) (some ((1 : Int32), (aw A66 149 (V67 132 28) (vp_nar .boolean (1 : Int32))), V67, c68))) else (bI (fX9_rank (16 : Int32) A66 V67) (fun x74 => if x74 ≤ (4 : Int32) then (bC (xq_in (V67 132 28) 8) (some ((1 : Int32), (aw A66 149 (V67 132 28) (vp_nar .boolean (0 : Int32))), V67, c68))) else (bC (xq_in (V67 132 28) 8) (if (A66 149 (V67 132 28).toNatClampNeg) = 0 then (some ((1 : Int32), (aw A66 149 (V67 132 28) (vp_nar .boolean (0 : Int32))), V67, c68)) else (some ((1 : Int32), (aw A66 149 (V67 132 28) (vp_nar .boolean (1 : Int32))), V67, c68))))))))))) else (some ((0 : Int32), A, V, cu)))) else (bI (fX9_rank (16 : Int32) A V) (fun x80 => bS (fX9_doAll x80 A V cu) (fun A83 V84 c85 => bS (fX9_await (16 : Int32) A83 V84 c85) (fun A88 V89 c90 => bI (fX9_rank (16 : Int32) A88 V89) (fun x92 => if x92 = (4 : Int32) then (bC (xq_in (V89 132 28) 8) (some ((1 : Int32), (aw A88 149 (V89 132 28) (vp_nar .boolean (1 : Int32))), V89, c90))) else (bI (fX9_rank (16 : Int32) A88 V89) (fun x96 => if x96 ≤ (4 : Int32) then (bC (xq_in (V89 132 28) 8) (some ((1 : Int32), (aw A88 149 (V89 132 28) (vp_nar .boolean (0 : Int32))), V89, c90))) else (bC (xq_in (V89 132 28) 8) (if (A88 149 (V89 132 28).toNatClampNeg) = 0 then (some ((1 : Int32), (aw A88 149 (V89 132 28) (vp_nar .boolean (0 : Int32))), V89, c90)) else (some ((1 : Int32), (aw A88 149 (V89 132 28) (vp_nar .boolean (1 : Int32))), V89, c90))))))))))))) else (if (V 132 21) = (42 : Int32) then (bI (fX9_rank (17 : Int32) A V) (fun x103 => if x103 = (4 : Int32) then (bC (xq_in (V 132 28) 8) (if (A 149 (V 132 28).toNatClampNeg) = 0 then (bI (fX9_rank (17 : Int32) A V) (fun x108 => bS (fX9_doAll x108 A V cu) (fun A111 V112 c113 => bS (fX9_await (17 : Int32) A111 V112 c113) (fun A116 V117 c118 => bI (fX9_rank (17 : Int32) A116 V117) (fun x120 => if x120 = (4 : Int32) then (bC (xq_in (V117 132 28) 8) (some ((1 : Int32), (aw A116 149 (V117 132 28) (vp_nar .boolean (1 : Int32))), V117, c118))) else (bI (fX9_rank (17 : Int32) A116 V117) (fun x124 => if x124 ≤ (4 : Int32) then (bC (xq_in (V117 132 28) 8) (some ((1 : Int32), (aw A116 149 (V117 132 28) (vp_nar .boolean (0 : Int32))), V117, c118))) else (bC (xq_in (V117 132 28) 8) (if (A116 149 (V117 132 28).toNatClampNeg) = 0 then (some ((1 : Int32), (aw A116 149 (V117 132 28) (vp_nar .boolean (0 : Int32))), V117, c118)) else (some ((1 : Int32), (aw A116 149 (V117 132 28) (vp_nar .boolean (1 : Int32))), V117, c118))))))))))) else (some ((0 : Int32), A, V, cu)))) else (bI (fX9_rank (17 : Int32) A V) (fun x130 => bS (fX9_doAll x130 A V cu) (fun A133 V134 c135 => bS (fX9_await (17 : Int32) A133 V134 c135) (fun A138 V139 c140 => bI (fX9_rank (17 : Int32) A138 V139) (fun x142 => if x142 = (4 : Int32) then (bC (xq_in (V139 132 28) 8) (some ((1 : Int32), (aw A138 149 (V139 132 28) (vp_nar .boolean (1 : Int32))), V139, c140))) else (bI (fX9_rank (17 : Int32) A138 V139) (fun x146 => if x146 ≤ (4 : Int32) then (bC (xq_in (V139 132 28) 8) (some ((1 : Int32), (aw A138 149 (V139 132 28) (vp_nar .boolean (0 : Int32))), V139, c140))) else (bC (xq_in (V139 132 28) 8) (if (A138 149 (V139 132 28).toNatClampNeg) = 0 then (some ((1 : Int32), (aw A138 149 (V139 132 28) (vp_nar .boolean (0 : Int32))), V139, c140)) else (some ((1 : Int32), (aw A138 149 (V139 132 28) (vp_nar .boolean (1 : Int32))), V139, c140))))))))))))) else (if (V 132 21) = (60 : Int32) then (bI (fX9_rank (13 : Int32) A V) (fun x153 => if x153 = (4 : Int32) then (bC (xq_in (V 132 28) 8) (if (A 149 (V 132 28).toNatClampNeg) = 0 then (bI (fX9_rank (13 : Int32) A V) (fun x158 => bS (fX9_doAll x158 A V cu) (fun A161 V162 c163 => bS (fX9_await (13 : Int32) A161 V162 c163) (fun A166 V167 c168 => bI (fX9_rank (13 : Int32) A166 V167) (fun x170 => if x170 = (4 : Int32) then (bC (xq_in (V167 132 28) 8) (some ((1 : Int32), (aw A166 149 (V167 132 28) (vp_nar .boolean (1 : Int32))), V167, c168))) else (bI (fX9_rank (13 : Int32) A166 V167) (fun x174 => if x174 ≤ (4 : Int32) then (bC (xq_in (V167 132 28) 8) (some ((1 : Int32), (aw A166 149 (V167 132 28) (vp_nar .boolean (0 : Int32))), V167, c168))) else (bC (xq_in (V167 132 28) 8) (if (A166 149 (V167 132 28).toNatClampNeg) = 0 then (some ((1 : Int32), (aw A166 149 (V167 132 28) (vp_nar .boolean (0 : Int32))), V167, c168)) else (some ((1 : Int32), (aw A166 149 (V167 132 28) (vp_nar .boolean (1 : Int32))), V167, c168))))))))))) else (some ((0 : Int32), A, V, cu)))) else (bI (fX9_rank (13 : Int32) A V) (fun x180 => bS (fX9_doAll x180 A V cu) (fun A183 V184 c185 => bS (fX9_await (13 : Int32) A183 V184 c185) (fun A188 V189 c190 => bI (fX9_rank (13 : Int32) A188 V189) (fun x192 => if x192 = (4 : Int32) then (bC (xq_in (V189 132 28) 8) (some ((1 : Int32), (aw A188 149 (V189 132 28) (vp_nar .boolean (1 : Int32))), V189, c190))) else (bI (fX9_rank (13 : Int32) A188 V189) (fun x196 => if x196 ≤ (4 : Int32) then (bC (xq_in (V189 132 28) 8) (some ((1 : Int32), (aw A188 149 (V189 132 28) (vp_nar .boolean (0 : Int32))), V189, c190))) else (bC (xq_in (V189 132 28) 8) (if (A188 149 (V189 132 28).toNatClampNeg) = 0 then (some ((1 : Int32), (aw A188 149 (V189 132 28) (vp_nar .boolean (0 : Int32))), V189, c190)) else (some ((1 : Int32), (aw A188 149 (V189 132 28) (vp_nar .boolean (1 : Int32))), V189, c190))))))))))))) else (if (V 132 21) = (61 : Int32) then (bI (fX9_rank (14 : Int32) A V) (fun x203 => if x203 = (4 : Int32) then (bC (xq_in (V 132 28) 8) (if (A 149 (V 132 28).toNatClampNeg) = 0 then (bI (fX9_rank (14 : Int32) A V) (fun x208 => bS (fX9_doAll x208 A V cu) (fun A211 V212 c213 => bS (fX9_await (14 : Int32) A211 V212 c213) (fun A216 V217 c218 => bI (fX9_rank (14 : Int32) A216 V217) (fun x220 => if x220 = (4 : Int32) then (bC (xq_in (V217 132 28) 8) (some ((1 : Int32), (aw A216 149 (V217 132 28) (vp_nar .boolean (1 : Int32))), V217, c218))) else (bI (fX9_rank (14 : Int32) A216 V217) (fun x224 => if x224 ≤ (4 : Int32) then (bC (xq_in (V217 132 28) 8) (some ((1 : Int32), (aw A216 149 (V217 132 28) (vp_nar .boolean (0 : Int32))), V217, c218))) else (bC (xq_in (V217 132 28) 8) (if (A216 149 (V217 132 28).toNatClampNeg) = 0 then (some ((1 : Int32), (aw A216 149 (V217 132 28) (vp_nar .boolean (0 : Int32))), V217, c218)) else (some ((1 : Int32), (aw A216 149 (V217 132 28) (vp_nar .boolean (1 : Int32))), V217, c218))))))))))) else (some ((0 : Int32), A, V, cu)))) else (bI (fX9_rank (14 : Int32) A V) (fun x230 => bS (fX9_doAll x230 A V cu) (fun A233 V234 c235 => bS (fX9_await (14 : Int32) A233 V234 c235) (fun A238 V239 c240 => bI (fX9_rank (14 : Int32) A238 V239) (fun x242 => if x242 = (4 : Int32) then (bC (xq_in (V239 132 28) 8) (some ((1 : Int32), (aw A238 149 (V239 132 28) (vp_nar .boolean (1 : Int32))), V239, c240))) else (bI (fX9_rank (14 : Int32) A238 V239) (fun x246 => if x246 ≤ (4 : Int32) then (bC (xq_in (V239 132 28) 8) (some ((1 : Int32), (aw A238 149 (V239 132 28) (vp_nar .boolean (0 : Int32))), V239, c240))) else (bC (xq_in (V239 132 28) 8) (if (A238 149 (V239 132 28).toNatClampNeg) = 0 then (some ((1 : Int32), (aw A238 149 (V239 132 28) (vp_nar .boolean (0 : Int32))), V239, c240)) else (some ((1 : Int32), (aw A238 149 (V239 132 28) (vp_nar .boolean (1 : Int32))), V239, c240))))))))))))) else (if (V 132 20) = (3 : Int32) then (if (V 132 21) = (4 : Int32) then (bI (fX9_rank (11 : Int32) A V) (fun x254 => if x254 = (4 : Int32) then (bC (xq_in (V 132 28) 8) (if (A 149 (V 132 28).toNatClampNeg) = 0 then (bI (fX9_rank (11 : Int32) A V) (fun x259 => bS (fX9_doAll x259 A V cu) (fun A262 V263 c264 => bS (fX9_await (11 : Int32) A262 V263 c264) (fun A267 V268 c269 => bI (fX9_rank (11 : Int32) A267 V268) (fun x271 => if x271 = (4 : Int32) then (bC (xq_in (V268 132 28) 8) (some ((1 : Int32), (aw A267 149 (V268 132 28) (vp_nar .boolean (1 : Int32))), V268, c269))) else (bI (fX9_rank (11 : Int32) A267 V268) (fun x275 => if x275 ≤ (4 : Int32) then (bC (xq_in (V268 132 28) 8) (some ((1 : Int32), (aw A267 149 (V268 132 28) (vp_nar .boolean (0 : Int32))), V268, c269))) else (bC (xq_in (V268 132 28) 8) (if (A267 149 (V268 132 28).toNatClampNeg) = 0 then (some ((1 : Int32), (aw A267 149 (V268 132 28) (vp_nar .boolean (0 : Int32))), V268, c269)) else (some ((1 : Int32), (aw A267 149 (V268 132 28) (vp_nar .boolean (1 : Int32))), V268, c269))))))))))) else (some ((0 : Int32), A, V, cu)))) else (bI (fX9_rank (11 : Int32) A V) (fun x281 => bS (fX9_doAll x281 A V cu) (fun A284 V285 c286 => bS (fX9_await (11 : Int32) A284 V285 c286) (fun A289 V290 c291 => bI (fX9_rank (11 : Int32) A289 V290) (fun x293 => if x293 = (4 : Int32) then (bC (xq_in (V290 132 28) 8) (some ((1 : Int32), (aw A289 149 (V290 132 28) (vp_nar .boolean (1 : Int32))), V290, c291))) else (bI (fX9_rank (11 : Int32) A289 V290) (fun x297 => if x297 ≤ (4 : Int32) then (bC (xq_in (V290 132 28) 8) (some ((1 : Int32), (aw A289 149 (V290 132 28) (vp_nar .boolean (0 : Int32))), V290, c291))) else (bC (xq_in (V290 132 28) 8) (if (A289 149 (V290 132 28).toNatClampNeg) = 0 then (some ((1 : Int32), (aw A289 149 (V290 132 28) (vp_nar .boolean (0 : Int32))), V290, c291)) else (some ((1 : Int32), (aw A289 149 (V290 132 28) (vp_nar .boolean (1 : Int32))), V290, c291))))))))))))) else (if (V 132 21) = (3 : Int32) then (bI (fX9_rank (10 : Int32) A V) (fun x304 => if x304 = (4 : Int32) then (bC (xq_in (V 132 28) 8) (if (A 149 (V 132 28).toNatClampNeg) = 0 then (bI (fX9_rank (10 : Int32) A V) (fun x309 => bS (fX9_doAll x309 A V cu) (fun A312 V313 c314 => bS (fX9_await (10 : Int32) A312 V313 c314) (fun A317 V318 c319 => bI (fX9_rank (10 : Int32) A317 V318) (fun x321 => if x321 = (4 : Int32) then (bC (xq_in (V318 132 28) 8) (some ((1 : Int32), (aw A317 149 (V318 132 28) (vp_nar .boolean (1 : Int32))), V318, c319))) else (bI (fX9_rank (10 : Int32) A317 V318) (fun x325 => if x325 ≤ (4 : Int32) then (bC (xq_in (V318 132 28) 8) (some ((1 : Int32), (aw A317 149 (V318 132 28) (vp_nar .boolean (0 : Int32))), V318, c319))) else (bC (xq_in (V318 132 28) 8) (if (A317 149 (V318 132 28).toNatClampNeg) = 0 then (some ((1 : Int32), (aw A317 149 (V318 132 28) (vp_nar .boolean (0 : Int32))), V318, c319)) else (some ((1 : Int32), (aw A317 149 (V318 132 28) (vp_nar .boolean (1 : Int32))), V318, c319))))))))))) else (some ((0 : Int32), A, V, cu)))) else (bI (fX9_rank (10 : Int32) A V) (fun x331 => bS (fX9_doAll x331 A V cu) (fun A334 V335 c336 => bS (fX9_await (10 : Int32) A334 V335 c336) (fun A339 V340 c341 => bI (fX9_rank (10 : Int32) A339 V340) (fun x343 => if x343 = (4 : Int32) then (bC (xq_in (V340 132 28) 8) (some ((1 : Int32), (aw A339 149 (V340 132 28) (vp_nar .boolean (1 : Int32))), V340, c341))) else (bI (fX9_rank (10 : Int32) A339 V340) (fun x347 => if x347 ≤ (4 : Int32) then (bC (xq_in (V340 132 28) 8) (some ((1 : Int32), (aw A339 149 (V340 132 28) (vp_nar .boolean (0 : Int32))), V340, c341))) else (bC (xq_in (V340 132 28) 8) (if (A339 149 (V340 132 28).toNatClampNeg) = 0 then (some ((1 : Int32), (aw A339 149 (V340 132 28) (vp_nar .boolean (0 : Int32))), V340, c341)) else (some ((1 : Int32), (aw A339 149 (V340 132 28) (vp_nar .boolean (1 : Int32))), V340, c341))))))))))))) else (some ((0 : Int32), A, V, cu)))) else (some ((0 : Int32), A, V, cu)))))))) else (if (V 132 20) = (3 : Int32) then (if (V 132 21) = (4 : Int32) then (bI (fX9_rank (11 : Int32) A V) (fun x355 => if x355 = (4 : Int32) then (bC (xq_in (V 132 28) 8) (if (A 149 (V 132 28).toNatClampNeg) = 0 then (bI (fX9_rank (11 : Int32) A V) (fun x360 => bS (fX9_doAll x360 A V cu) (fun A363 V364 c365 => bS (fX9_await (11 : Int32) A363 V364 c365) (fun A368 V369 c370 => bI (fX9_rank (11 : Int32) A368 V369) (fun x372 => if x372 = (4 : Int32) then (bC (xq_in (V369 132 28) 8) (some ((1 : Int32), (aw A368 149 (V369 132 28) (vp_nar .boolean (1 : Int32))), V369, c370))) else (bI (fX9_rank (11 : Int32) A368 V369) (fun x376 => if x376 ≤ (4 : Int32) then (bC (xq_in (V369 132 28) 8) (some ((1 : Int32), (aw A368 149 (V369 132 28) (vp_nar .boolean (0 : Int32))), V369, c370))) else (bC (xq_in (V369 132 28) 8) (if (A368 149 (V369 132 28).toNatClampNeg) = 0 then (some ((1 : Int32), (aw A368 149 (V369 132 28) (vp_nar .boolean (0 : Int32))), V369, c370)) else (some ((1 : Int32), (aw A368 149 (V369 132 28) (vp_nar .boolean (1 : Int32))), V369, c370))))))))))) else (some ((0 : Int32), A, V, cu)))) else (bI (fX9_rank (11 : Int32) A V) (fun x382 => bS (fX9_doAll x382 A V cu) (fun A385 V386 c387 => bS (fX9_await (11 : Int32) A385 V386 c387) (fun A390 V391 c392 => bI (fX9_rank (11 : Int32) A390 V391) (fun x394 => if x394 = (4 : Int32) then (bC (xq_in (V391 132 28) 8) (some ((1 : Int32), (aw A390 149 (V391 132 28) (vp_nar .boolean (1 : Int32))), V391, c392))) else (bI (fX9_rank (11 : Int32) A390 V391) (fun x398 => if x398 ≤ (4 : Int32) then (bC (xq_in (V391 132 28) 8) (some ((1 : Int32), (aw A390 149 (V391 132 28) (vp_nar .boolean (0 : Int32))), V391, c392))) else (bC (xq_in (V391 132 28) 8) (if (A390 149 (V391 132 28).toNatClampNeg) = 0 then (some ((1 : Int32), (aw A390 149 (V391 132 28) (vp_nar .boolean (0 : Int32))), V391, c392)) else (some ((1 : Int32), (aw A390 149 (V391 132 28) (vp_nar .boolean (1 : Int32))), V391, c392))))))))))))) else (if (V 132 21) = (3 : Int32) then (bI (fX9_rank (10 : Int32) A V) (fun x405 => if x405 = (4 : Int32) then (bC (xq_in (V 132 28) 8) (if (A 149 (V 132 28).toNatClampNeg) = 0 then (bI (fX9_rank (10 : Int32) A V) (fun x410 => bS (fX9_doAll x410 A V cu) (fun A413 V414 c415 => bS (fX9_await (10 : Int32) A413 V414 c415) (fun A418 V419 c420 => bI (fX9_rank (10 : Int32) A418 V419) (fun x422 => if x422 = (4 : Int32) then (bC (xq_in (V419 132 28) 8) (some ((1 : Int32), (aw A418 149 (V419 132 28) (vp_nar .boolean (1 : Int32))), V419, c420))) else (bI (fX9_rank (10 : Int32) A418 V419) (fun x426 => if x426 ≤ (4 : Int32) then (bC (xq_in (V419 132 28) 8) (some ((1 : Int32), (aw A418 149 (V419 132 28) (vp_nar .boolean (0 : Int32))), V419, c420))) else (bC (xq_in (V419 132 28) 8) (if (A418 149 (V419 132 28).toNatClampNeg) = 0 then (some ((1 : Int32), (aw A418 149 (V419 132 28) (vp_nar .boolean (0 : Int32))), V419, c420)) else (some ((1 : Int32), (aw A418 149 (V419 132 28) (vp_nar .boolean (1 : Int32))), V419, c420))))))))))) else (some ((0 : Int32), A, V, cu)))) else (bI (fX9_rank (10 : Int32) A V) (fun x432 => bS (fX9_doAll x432 A V cu) (fun A435 V436 c437 => bS (fX9_await (10 : Int32) A435 V436 c437) (fun A440 V441 c442 => bI (fX9_rank (10 : Int32) A440 V441) (fun x444 => if x444 = (4 : Int32) then (bC (xq_in (V441 132 28) 8) (some ((1 : Int32), (aw A440 149 (V441 132 28) (vp_nar .boolean (1 : Int32))), V441, c442))) else (bI (fX9_rank (10 : Int32) A440 V441) (fun x448 => if x448 ≤ (4 : Int32) then (bC (xq_in (V441 132 28) 8) (some ((1 : Int32), (aw A440 149 (V441 132 28) (vp_nar .boolean (0 : Int32))), V441, c442))) else (bC (xq_in (V441 132 28) 8) (if (A440 149 (V441 132 28).toNatClampNeg) = 0 then (some ((1 : Int32), (aw A440 149 (V441 132 28) (vp_nar .boolean (0 : Int32))), V441, c442)) else (some ((1 : Int32), (aw A440 149 (V441 132 28) (vp_nar .boolean (1 : Int32))), V441, c442))))))))))))) else (some ((0 : Int32), A, V, cu)))) else (some ((0 : Int32), A, V, cu)))
def fX9_closes (A V : xM) (cu : Value) : Option (Int32 × xS) := if (V 132 20) = (4 : Int32) then (if (V 132 21) = (41 : Int32) then (if (V 132 28) = 0 then (some ((0 : Int32), A, V, cu)) else (bS (fX9_doAll (1 : Int32) A V cu) (fun A5 V6 c7 => bS (fX9_doAll (7 : Int32) A5 (up2 (up2 (up2 V6 132 26 ((V6 132 26) - (1 : Int32))) 132 28 (((up2 V6 132 26 ((V6 132 26) - (1 : Int32))) 132 28) - (1 : Int32))) 132 27 (((up2 (up2 V6 132 26 ((V6 132 26) - (1 : Int32))) 132 28 (((up2 V6 132 26 ((V6 132 26) - (1 : Int32))) 132 28) - (1 : Int32))) 132 27) - (1 : Int32))) c7) (fun A10 V11 c12 => some ((1 : Int32), A10, V11, c12))))) else (some ((0 : Int32), A, V, cu))) else (some ((0 : Int32), A, V, cu))
def fX9_ahead (l1 : Int32) (A V : xM) (cu : Value) : Option (Int32 × xS) := if (V 132 20) = (4 : Int32) then (if (V 132 21) = (40 : Int32) then (if (V 132 27) = (5 : Int32) then (some ((0 : Int32), A, V, cu)) else (if ((up2 V 132 27 ((V 132 27) + (1 : Int32))) 132 20) = (4 : Int32) then (if ((up2 V 132 27 ((V 132 27) + (1 : Int32))) 132 21) = (40 : Int32) then (bS (fX9_await (30 : Int32) A (up2 V 132 27 ((V 132 27) + (1 : Int32))) cu) (fun A7 V8 c9 => bC (xq_in ((up2 V8 132 28 ((V8 132 28) + (1 : Int32))) 132 28) 8) (some ((1 : Int32), (aw A7 149 ((up2 V8 132 28 ((V8 132 28) + (1 : Int32))) 132 28) (vp_nar .boolean (0 : Int32))), (up2 V8 132 28 ((V8 132 28) + (1 : Int32))), c9)))) else (if ((up2 V 132 27 ((V 132 27) + (1 : Int32))) 132 20) = (3 : Int32) then (bS (fX9_await (12 : Int32) A (up2 V 132 27 ((V 132 27) + (1 : Int32))) cu) (fun A14 V15 c16 => some ((1 : Int32), A14, V15, c16))) else (bS (fX9_await (18 : Int32) A (up2 V 132 27 ((V 132 27) + (1 : Int32))) cu) (fun A19 V20 c21 => some ((1 : Int32), A19, V20, c21))))) else (if ((up2 V 132 27 ((V 132 27) + (1 : Int32))) 132 20) = (3 : Int32) then (bS (fX9_await (12 : Int32) A (up2 V 132 27 ((V 132 27) + (1 : Int32))) cu) (fun A25 V26 c27 => some ((1 : Int32), A25, V26, c27))) else (bS (fX9_await (18 : Int32) A (up2 V 132 27 ((V 132 27) + (1 : Int32))) cu) (fun A30 V31 c32 => some ((1 : Int32), A30, V31, c32)))))) else (if (V 132 21) = (45 : Int32) then (if (V 132 27) = (5 : Int32) then (some ((0 : Int32), A, V, cu)) else (if ((up2 V 132 27 ((V 132 27) + (1 : Int32))) 132 20) = (4 : Int32) then (if ((up2 V 132 27 ((V 132 27) + (1 : Int32))) 132 21) = (40 : Int32) then (bS (fX9_await (30 : Int32) A (up2 V 132 27 ((V 132 27) + (1 : Int32))) cu) (fun A39 V40 c41 => bC (xq_in ((up2 V40 132 28 ((V40 132 28) + (1 : Int32))) 132 28) 8) (some ((1 : Int32), (aw A39 149 ((up2 V40 132 28 ((V40 132 28) + (1 : Int32))) 132 28) (vp_nar .boolean (0 : Int32))), (up2 V40 132 28 ((V40 132 28) + (1 : Int32))), c41)))) else (if ((up2 V 132 27 ((V 132 27) + (1 : Int32))) 132 20) = (3 : Int32) then (bS (fX9_await (12 : Int32) A (up2 V 132 27 ((V 132 27) + (1 : Int32))) cu) (fun A46 V47 c48 => some ((1 : Int32), A46, V47, c48))) else (bS (fX9_await (18 : Int32) A (up2 V 132 27 ((V 132 27) + (1 : Int32))) cu) (fun A51 V52 c53 => some ((1 : Int32), A51, V52, c53))))) else (if ((up2 V 132 27 ((V 132 27) + (1 : Int32))) 132 20) = (3 : Int32) then (bS (fX9_await (12 : Int32) A (up2 V 132 27 ((V 132 27) + (1 : Int32))) cu) (fun A57 V58 c59 => some ((1 : Int32), A57, V58, c59))) else (bS (fX9_await (18 : Int32) A (up2 V 132 27 ((V 132 27) + (1 : Int32))) cu) (fun A62 V63 c64 => some ((1 : Int32), A62, V63, c64)))))) else (if l1 = 0 then (some ((0 : Int32), A, V, cu)) else (if (V 132 20) = (3 : Int32) then (if (V 132 21) = (5 : Int32) then (if (V 132 27) = (5 : Int32) then (some ((0 : Int32), A, V, cu)) else (if ((up2 V 132 27 ((V 132 27) + (1 : Int32))) 132 20) = (4 : Int32) then (if ((up2 V 132 27 ((V 132 27) + (1 : Int32))) 132 21) = (40 : Int32) then (bS (fX9_await (30 : Int32) A (up2 V 132 27 ((V 132 27) + (1 : Int32))) cu) (fun A73 V74 c75 => bC (xq_in ((up2 V74 132 28 ((V74 132 28) + (1 : Int32))) 132 28) 8) (some ((1 : Int32), (aw A73 149 ((up2 V74 132 28 ((V74 132 28) + (1 : Int32))) 132 28) (vp_nar .boolean (0 : Int32))), (up2 V74 132 28 ((V74 132 28) + (1 : Int32))), c75)))) else (if ((up2 V 132 27 ((V 132 27) + (1 : Int32))) 132 20) = (3 : Int32) then (bS (fX9_await (12 : Int32) A (up2 V 132 27 ((V 132 27) + (1 : Int32))) cu) (fun A80 V81 c82 => some ((1 : Int32), A80, V81, c82))) else (bS (fX9_await (18 : Int32) A (up2 V 132 27 ((V 132 27) + (1 : Int32))) cu) (fun A85 V86 c87 => some ((1 : Int32), A85, V86, c87))))) else (if ((up2 V 132 27 ((V 132 27) + (1 : Int32))) 132 20) = (3 : Int32) then (bS (fX9_await (12 : Int32) A (up2 V 132 27 ((V 132 27) + (1 : Int32))) cu) (fun A91 V92 c93 => some ((1 : Int32), A91, V92, c93))) else (bS (fX9_await (18 : Int32) A (up2 V 132 27 ((V 132 27) + (1 : Int32))) cu) (fun A96 V97 c98 => some ((1 : Int32), A96, V97, c98)))))) else (some ((0 : Int32), A, V, cu))) else (some ((0 : Int32), A, V, cu)))))) else (if l1 = 0 then (some ((0 : Int32), A, V, cu)) else (if (V 132 20) = (3 : Int32) then (if (V 132 21) = (5 : Int32) then (if (V 132 27) = (5 : Int32) then (some ((0 : Int32), A, V, cu)) else (if ((up2 V 132 27 ((V 132 27) + (1 : Int32))) 132 20) = (4 : Int32) then (if ((up2 V 132 27 ((V 132 27) + (1 : Int32))) 132 21) = (40 : Int32) then (bS (fX9_await (30 : Int32) A (up2 V 132 27 ((V 132 27) + (1 : Int32))) cu) (fun A107 V108 c109 => bC (xq_in ((up2 V108 132 28 ((V108 132 28) + (1 : Int32))) 132 28) 8) (some ((1 : Int32), (aw A107 149 ((up2 V108 132 28 ((V108 132 28) + (1 : Int32))) 132 28) (vp_nar .boolean (0 : Int32))), (up2 V108 132 28 ((V108 132 28) + (1 : Int32))), c109)))) else (if ((up2 V 132 27 ((V 132 27) + (1 : Int32))) 132 20) = (3 : Int32) then (bS (fX9_await (12 : Int32) A (up2 V 132 27 ((V 132 27) + (1 : Int32))) cu) (fun A114 V115 c116 => some ((1 : Int32), A114, V115, c116))) else (bS (fX9_await (18 : Int32) A (up2 V 132 27 ((V 132 27) + (1 : Int32))) cu) (fun A119 V120 c121 => some ((1 : Int32), A119, V120, c121))))) else (if ((up2 V 132 27 ((V 132 27) + (1 : Int32))) 132 20) = (3 : Int32) then (bS (fX9_await (12 : Int32) A (up2 V 132 27 ((V 132 27) + (1 : Int32))) cu) (fun A125 V126 c127 => some ((1 : Int32), A125, V126, c127))) else (bS (fX9_await (18 : Int32) A (up2 V 132 27 ((V 132 27) + (1 : Int32))) cu) (fun A130 V131 c132 => some ((1 : Int32), A130, V131, c132)))))) else (some ((0 : Int32), A, V, cu))) else (some ((0 : Int32), A, V, cu))))
def fX9_readE_L40 (l1 : Int32) (ex : xM → xM → Value → Option (Int32 × xS)) : Nat → Int32 → Int32 → xM → xM → Value → Option (Int32 × xS)
  | 0, _, _, _, _, _ => none
  | n + 1, l2, l3, A, V, cu => if l2 = 0 then (if (V 132 20) = (4 : Int32) then (if (V 132 21) = (59 : Int32) then (if (V 132 28) = 0 then (ex  A V cu) else (bX (fX9_between A V cu) (fun x5 A6 V7 c8 => if x5 = 0 then (bX (fX9_closes A6 V7 c8) (fun x11 A12 V13 c14 => if x11 = 0 then (some ((0 : Int32), A12, V13, c14)) else (bS (fX9_next A12 V13 c14) (fun A18 V19 c20 => fX9_readE_L40 l1 ex n l2 l3 A18 V19 c20)))) else (if (V7 132 20) = (3 : Int32) then (if (V7 132 21) = (4 : Int32) then (bS (fX9_next A6 V7 c8) (fun A25 V26 c27 => fX9_readE_L40 l1 ex n (1 : Int32) (1 : Int32) A25 V26 c27)) else (if (V7 132 21) = (3 : Int32) then (bS (fX9_next A6 V7 c8) (fun A31 V32 c33 => fX9_readE_L40 l1 ex n (1 : Int32) (1 : Int32) A31 V32 c33)) else (bS (fX9_next A6 V7 c8) (fun A36 V37 c38 => fX9_readE_L40 l1 ex n (1 : Int32) (0 : Int32) A36 V37 c38)))) else (bS (fX9_next A6 V7 c8) (fun A41 V42 c43 => fX9_readE_L40 l1 ex n (1 : Int32) (0 : Int32) A41 V42 c43)))))) else (bX (fX9_between A V cu) (fun x45 A46 V47 c48 => if x45 = 0 then (bX (fX9_closes A46 V47 c48) (fun x51 A52 V53 c54 => if x51 = 0 then (some ((0 : Int32), A52, V53, c54)) else (bS (fX9_next A52 V53 c54) (fun A58 V59 c60 => fX9_readE_L40 l1 ex n l2 l3 A58 V59 c60)))) else (if (V47 132 20) = (3 : Int32) then (if (V47 132 21) = (4 : Int32) then (bS (fX9_next A46 V47 c48) (fun A65 V66 c67 => fX9_readE_L40 l1 ex n (1 : Int32) (1 : Int32) A65 V66 c67)) else (if (V47 132 21) = (3 : Int32) then (bS (fX9_next A46 V47 c48) (fun A71 V72 c73 => fX9_readE_L40 l1 ex n (1 : Int32) (1 : Int32) A71 V72 c73)) else (bS (fX9_next A46 V47 c48) (fun A76 V77 c78 => fX9_readE_L40 l1 ex n (1 : Int32) (0 : Int32) A76 V77 c78)))) else (bS (fX9_next A46 V47 c48) (fun A81 V82 c83 => fX9_readE_L40 l1 ex n (1 : Int32) (0 : Int32) A81 V82 c83)))))) else (bX (fX9_between A V cu) (fun x85 A86 V87 c88 => if x85 = 0 then (bX (fX9_closes A86 V87 c88) (fun x91 A92 V93 c94 => if x91 = 0 then (some ((0 : Int32), A92, V93, c94)) else (bS (fX9_next A92 V93 c94) (fun A98 V99 c100 => fX9_readE_L40 l1 ex n l2 l3 A98 V99 c100)))) else (if (V87 132 20) = (3 : Int32) then (if (V87 132 21) = (4 : Int32) then (bS (fX9_next A86 V87 c88) (fun A105 V106 c107 => fX9_readE_L40 l1 ex n (1 : Int32) (1 : Int32) A105 V106 c107)) else (if (V87 132 21) = (3 : Int32) then (bS (fX9_next A86 V87 c88) (fun A111 V112 c113 => fX9_readE_L40 l1 ex n (1 : Int32) (1 : Int32) A111 V112 c113)) else (bS (fX9_next A86 V87 c88) (fun A116 V117 c118 => fX9_readE_L40 l1 ex n (1 : Int32) (0 : Int32) A116 V117 c118)))) else (bS (fX9_next A86 V87 c88) (fun A121 V122 c123 => fX9_readE_L40 l1 ex n (1 : Int32) (0 : Int32) A121 V122 c123)))))) else (if (V 132 20) = (1 : Int32) then (bS (fX9_emit ((-1 : Int32) - (V 132 21)) A V cu) (fun A127 V128 c129 => bS (fX9_doAll (7 : Int32) A127 V128 c129) (fun A132 V133 c134 => bS (fX9_next A132 V133 c134) (fun A137 V138 c139 => fX9_readE_L40 l1 ex n (0 : Int32) l3 A137 V138 c139)))) else (if (V 132 20) = (2 : Int32) then (bS (fX9_emit (V 132 21) A V cu) (fun A143 V144 c145 => bS (fX9_doAll (7 : Int32) A143 V144 c145) (fun A148 V149 c150 => bS (fX9_next A148 V149 c150) (fun A153 V154 c155 => fX9_readE_L40 l1 ex n (0 : Int32) l3 A153 V154 c155)))) else (if (V 132 20) = (4 : Int32) then (if (V 132 21) = (45 : Int32) then (bX (fX9_ahead l3 A V cu) (fun x159 A160 V161 c162 => if x159 = 0 then (some ((0 : Int32), A160, V161, c162)) else (bS (fX9_next A160 V161 c162) (fun A166 V167 c168 => fX9_readE_L40 l1 ex n l2 (0 : Int32) A166 V167 c168)))) else (bX (fX9_ahead l3 A V cu) (fun x170 A171 V172 c173 => if x170 = 0 then (some ((0 : Int32), A171, V172, c173)) else (bS (fX9_next A171 V172 c173) (fun A177 V178 c179 => fX9_readE_L40 l1 ex n l2 (1 : Int32) A177 V178 c179))))) else (bX (fX9_ahead l3 A V cu) (fun x181 A182 V183 c184 => if x181 = 0 then (some ((0 : Int32), A182, V183, c184)) else (bS (fX9_next A182 V183 c184) (fun A188 V189 c190 => fX9_readE_L40 l1 ex n l2 (1 : Int32) A188 V189 c190)))))))
def fX9_readE (l1 : Int32) (A V : xM) (cu : Value) : Option (Int32 × xS) := fX9_readE_L40 l1 (fun (A195 V196 : xM) (c197 : Value) => bS (fX9_doAll (1 : Int32) A195 V196 c197) (fun A199 V200 c201 => bC (xq_in l1 18) (some ((1 : Int32), (aw A199 145 l1 (V200 132 31)), V200, c201)))) FU (1 : Int32) (1 : Int32) (aw A 149 (0 : Int32) (vp_nar .boolean (0 : Int32))) (up2 (up2 (up2 (up2 (up2 V 132 30 ((160 : Int32) * l1)) 132 31 (0 : Int32)) 132 26 (0 : Int32)) 132 27 (0 : Int32)) 132 28 (0 : Int32)) cu
def fX9_readAll_L7 (l1 : Int32) (ex : xM → xM → Value → Option (Int32 × xS)) (ex1 : xM → xM → Value → Option (Int32 × xS)) (ex2 : xM → xM → Value → Option (Int32 × xS)) : Nat → Int32 → xM → xM → Value → Option (Int32 × xS)
  | 0, _, _, _, _ => none
  | n + 1, l2, A, V, cu => if (3 : Int32) ≤ l2 then (ex  A V cu) else (bS (fX9_next A V cu) (fun A3 V4 c5 => if (V4 132 20) = (3 : Int32) then (if (V4 132 21) = l2 then (bS (fX9_next A3 V4 c5) (fun A10 V11 c12 => bX (fX9_readE (((3 : Int32) * l1) + l2) A10 V11 c12) (fun x14 A15 V16 c17 => if x14 = 0 then (ex2  A15 V16 c17) else (fX9_readAll_L7 l1 ex ex1 ex2 n (l2 + Int32.ofInt 1) A15 V16 c17)))) else (ex1  A3 V4 c5)) else (ex1  A3 V4 c5)))
def fX9_readAll (l1 : Int32) (A V : xM) (cu : Value) : Option (Int32 × xS) := fX9_readAll_L7 l1 (fun (A22 V23 : xM) (c24 : Value) => bS (fX9_next A22 V23 c24) (fun A26 V27 c28 => if (V27 132 20) = (5 : Int32) then (some ((-1 : Int32), A26, V27, c28)) else (some ((V27 132 22), A26, V27, c28)))) (fun (A33 V34 : xM) (c35 : Value) => some ((V34 132 22), A33, V34, c35)) (fun (A38 V39 : xM) (c40 : Value) => some ((V39 132 22), A38, V39, c40)) FU (0 : Int32) A (up2 V 132 19 (0 : Int32)) cu
theorem ok4 {α β γ δ : Type} {a a1 : α} {b b1 : β} {c c1 : γ} {d d1 : δ} (h : some (a, b, c, d) = some (a1, b1, c1, d1)) : a = a1 ∧ b = b1 ∧ c = c1 ∧ d = d1 := by
  simpa using h
def fX9_text (A V : xM) (cu : Value) : Option (Int32 × xS) := if (V 132 15) = (6 : Int32) then (some ((-4 : Int32), A, V, cu)) else (bX (fX9_readAll (V 132 15) A V cu) (fun x2 A3 V4 c5 => if x2 = (-1 : Int32) then (some ((((up2 (up2 V4 132 14 (0 : Int32)) 132 15 (((up2 V4 132 14 (0 : Int32)) 132 15) + (1 : Int32))) 132 15) - (1 : Int32)), A3, (up2 (up2 V4 132 14 (0 : Int32)) 132 15 (((up2 V4 132 14 (0 : Int32)) 132 15) + (1 : Int32))), c5)) else (some (((-100 : Int32) - x2), A3, (up2 V4 132 14 (0 : Int32)), c5))))
set_option maxRecDepth 20000 in
set_option maxHeartbeats 4000000 in
theorem sX9_put {LL : Nat} {xs : Nat → Int32} {tx : List xh_T} {d : Nat} {A V : xM} {cu : Value} {A' V' : xM} {c' : Value} {l1 : Int32} (hd : 61 ≤ d) (e : fX9_put l1 A V cu = some (A', V', c')) : xe (xk_ro LL xs) d 135 [.ref 132, .int l1] (xh A V tx cu) (qU (xh A' V' tx c')) := by
  obtain ⟨d, rfl⟩ : ∃ d1, d = d1 + 1 := ⟨d - 1, by omega⟩
  replace hd : 60 ≤ d := by omega
  have hd0 : 60 ≤ d := by omega
  refine xe_of (co := xk_135) (nl := 2) rfl rfl rfl ?_
  unfold fX9_put at e
  obtain ⟨h1, e⟩ := bC_ok e
  cases e
  exact xw_yr hd0 14 [] rfl ⟨h1, rfl, trivial⟩ ⟨rfl, rfl⟩
set_option maxRecDepth 20000 in
set_option maxHeartbeats 4000000 in
theorem sX9_feed {LL : Nat} {xs : Nat → Int32} {tx : List xh_T} {d : Nat} {A V : xM} {cu : Value} {A' V' : xM} {c' : Value} {r : Int32} {l1 l2 l3 l4 l5 l6 : Int32} (hd : 62 ≤ d) (e : fX9_feed l1 l2 l3 l4 l5 l6 A V cu = some (r, A', V', c')) : xe (xk_ro LL xs) d 136 [.ref 132, .int l1, .int l2, .int l3, .int l4, .int l5, .int l6] (xh A V tx cu) (qI r (xh A' V' tx c')) := by
  obtain ⟨d, rfl⟩ : ∃ d1, d = d1 + 1 := ⟨d - 1, by omega⟩
  replace hd : 61 ≤ d := by omega
  have hd0 : 60 ≤ d := by omega
  refine xe_of (co := xk_136) (nl := 7) rfl rfl rfl ?_
  unfold fX9_feed at e
  rcases ite_ok e with ⟨h1, e⟩ | ⟨h1, e⟩
  · cases e
    exact xw_yr hd0 13 [1, 1] rfl ⟨decide_eq_true h1, rfl, rfl, rfl, trivial⟩ ⟨rfl, rfl⟩
  · rcases ite_ok e with ⟨h2, e⟩ | ⟨h2, e⟩
    · cases e
      exact xw_yr hd0 16 [0, 1, 1] rfl ⟨nt h1, decide_eq_true h2, rfl, rfl, rfl, trivial⟩ ⟨rfl, rfl⟩
    · rcases ite_ok e with ⟨h3, e⟩ | ⟨h3, e⟩
      · cases e
        exact xw_yr hd0 27 [0, 0, 0, 1, 1] rfl ⟨nt h1, nt h2, rfl, rfl, decide_eq_true h3, rfl, rfl, rfl, trivial⟩ ⟨rfl, rfl⟩
      · rcases ite_ok e with ⟨h4, e⟩ | ⟨h4, e⟩
        · cases e
          exact xw_yr hd0 30 [0, 0, 0, 0, 1, 1] rfl ⟨nt h1, nt h2, rfl, rfl, nt h3, decide_eq_true h4, rfl, rfl, rfl, trivial⟩ ⟨rfl, rfl⟩
        · rcases ite_ok e with ⟨h5, e⟩ | ⟨h5, e⟩
          · cases e
            exact xw_yr hd0 41 [0, 0, 0, 0, 0, 0, 1, 1] rfl ⟨nt h1, nt h2, rfl, rfl, nt h3, nt h4, rfl, rfl, decide_eq_true h5, rfl, rfl, rfl, trivial⟩ ⟨rfl, rfl⟩
          · rcases ite_ok e with ⟨h6, e⟩ | ⟨h6, e⟩
            · cases e
              exact xw_yr hd0 44 [0, 0, 0, 0, 0, 0, 0, 1, 1] rfl ⟨nt h1, nt h2, rfl, rfl, nt h3, nt h4, rfl, rfl, nt h5, decide_eq_true h6, rfl, rfl, rfl, trivial⟩ ⟨rfl, rfl⟩
            · rcases ite_ok e with ⟨h7, e⟩ | ⟨h7, e⟩
              · cases e
                exact xw_yr hd0 55 [0, 0, 0, 0, 0, 0, 0, 0, 0, 1, 1] rfl ⟨nt h1, nt h2, rfl, rfl, nt h3, nt h4, rfl, rfl, nt h5, nt h6, rfl, rfl, decide_eq_true h7, rfl, rfl, rfl, trivial⟩ ⟨rfl, rfl⟩
              · rcases ite_ok e with ⟨h8, e⟩ | ⟨h8, e⟩
                · cases e
                  exact xw_yr hd0 58 [0, 0, 0, 0, 0, 0, 0, 0, 0, 0, 1, 1] rfl ⟨nt h1, nt h2, rfl, rfl, nt h3, nt h4, rfl, rfl, nt h5, nt h6, rfl, rfl, nt h7, decide_eq_true h8, rfl, rfl, rfl, trivial⟩ ⟨rfl, rfl⟩
                · rcases ite_ok e with ⟨h9, e⟩ | ⟨h9, e⟩
                  · cases e
                    exact xw_yr hd0 69 [0, 0, 0, 0, 0, 0, 0, 0, 0, 0, 0, 0, 1, 1] rfl ⟨nt h1, nt h2, rfl, rfl, nt h3, nt h4, rfl, rfl, nt h5, nt h6, rfl, rfl, nt h7, nt h8, rfl, rfl, decide_eq_true h9, rfl, rfl, rfl, trivial⟩ ⟨rfl, rfl⟩
                  · rcases ite_ok e with ⟨h10, e⟩ | ⟨h10, e⟩
                    · cases e
                      exact xw_yr hd0 72 [0, 0, 0, 0, 0, 0, 0, 0, 0, 0, 0, 0, 0, 1, 1] rfl ⟨nt h1, nt h2, rfl, rfl, nt h3, nt h4, rfl, rfl, nt h5, nt h6, rfl, rfl, nt h7, nt h8, rfl, rfl, nt h9, decide_eq_true h10, rfl, rfl, rfl, trivial⟩ ⟨rfl, rfl⟩
                    · rcases ite_ok e with ⟨h11, e⟩ | ⟨h11, e⟩
                      · cases e
                        exact xw_yr hd0 83 [0, 0, 0, 0, 0, 0, 0, 0, 0, 0, 0, 0, 0, 0, 0, 1, 0] rfl ⟨nt h1, nt h2, rfl, rfl, nt h3, nt h4, rfl, rfl, nt h5, nt h6, rfl, rfl, nt h7, nt h8, rfl, rfl, nt h9, nt h10, rfl, rfl, decide_eq_true h11, rfl, rfl, rfl, trivial⟩ ⟨rfl, rfl⟩
                      · rcases ite_ok e with ⟨h12, e⟩ | ⟨h12, e⟩
                        · cases e
                          exact xw_yr hd0 86 [0, 0, 0, 0, 0, 0, 0, 0, 0, 0, 0, 0, 0, 0, 0, 0, 1, 0] rfl ⟨nt h1, nt h2, rfl, rfl, nt h3, nt h4, rfl, rfl, nt h5, nt h6, rfl, rfl, nt h7, nt h8, rfl, rfl, nt h9, nt h10, rfl, rfl, nt h11, decide_eq_true h12, rfl, rfl, rfl, trivial⟩ ⟨rfl, rfl⟩
                        · rcases ite_ok e with ⟨h13, e⟩ | ⟨h13, e⟩
                          · refine xw_y hd0 92 [0, 0, 0, 0, 0, 0, 0, 0, 0, 0, 0, 0, 0, 0, 0, 0, 0, 1, 1] rfl ⟨nt h1, nt h2, rfl, rfl, nt h3, nt h4, rfl, rfl, nt h5, nt h6, rfl, rfl, nt h7, nt h8, rfl, rfl, nt h9, nt h10, rfl, rfl, nt h11, nt h12, rfl, rfl, decide_eq_true h13, trivial⟩ ?_
                            obtain ⟨A15, V16, c17, e18, e⟩ := bS_ok e
                            refine xw_call (k := 135) (j := 2) rfl (fun F => xm_c_ok (y_c_ok rfl) F) rfl rfl rfl (sX9_put (by omega) e18) ?_
                            rintro _ _ ⟨rfl, rfl⟩
                            rcases ite_ok e with ⟨h19, e⟩ | ⟨h19, e⟩
                            · rcases ite_ok e with ⟨h20, e⟩ | ⟨h20, e⟩
                              · rcases ite_ok e with ⟨h21, e⟩ | ⟨h21, e⟩
                                · rcases ite_ok e with ⟨h22, e⟩ | ⟨h22, e⟩
                                  · cases e
                                    exact xw_yr hd0 16 [1, 1, 1, 1] rfl ⟨decide_eq_true h19, decide_eq_true h20, decide_eq_true h21, decide_eq_true h22, rfl, trivial⟩ ⟨rfl, rfl⟩
                                  · refine xw_y hd0 14 [1, 1, 1, 0] rfl ⟨decide_eq_true h19, decide_eq_true h20, decide_eq_true h21, nt h22, trivial⟩ ?_
                                    obtain ⟨A24, V25, c26, e27, e⟩ := bS_ok e
                                    refine xw_call (k := 135) (j := 2) rfl (fun F => xm_c_ok (y_c_ok rfl) F) rfl rfl rfl (sX9_put (by omega) e27) ?_
                                    rintro _ _ ⟨rfl, rfl⟩
                                    cases e
                                    exact xw_yr hd0 4 [] rfl ⟨rfl, trivial⟩ ⟨rfl, rfl⟩
                                · refine xw_y hd0 11 [1, 1, 0] rfl ⟨decide_eq_true h19, decide_eq_true h20, nt h21, trivial⟩ ?_
                                  obtain ⟨A29, V30, c31, e32, e⟩ := bS_ok e
                                  refine xw_call (k := 135) (j := 2) rfl (fun F => xm_c_ok (y_c_ok rfl) F) rfl rfl rfl (sX9_put (by omega) e32) ?_
                                  rintro _ _ ⟨rfl, rfl⟩
                                  rcases ite_ok e with ⟨h33, e⟩ | ⟨h33, e⟩
                                  · cases e
                                    exact xw_yr hd0 7 [1] rfl ⟨decide_eq_true h33, rfl, trivial⟩ ⟨rfl, rfl⟩
                                  · refine xw_y hd0 5 [0] rfl ⟨nt h33, trivial⟩ ?_
                                    obtain ⟨A35, V36, c37, e38, e⟩ := bS_ok e
                                    refine xw_call (k := 135) (j := 2) rfl (fun F => xm_c_ok (y_c_ok rfl) F) rfl rfl rfl (sX9_put (by omega) e38) ?_
                                    rintro _ _ ⟨rfl, rfl⟩
                                    cases e
                                    exact xw_yr hd0 4 [] rfl ⟨rfl, trivial⟩ ⟨rfl, rfl⟩
                              · refine xw_y hd0 8 [1, 0] rfl ⟨decide_eq_true h19, nt h20, trivial⟩ ?_
                                obtain ⟨A40, V41, c42, e43, e⟩ := bS_ok e
                                refine xw_call (k := 135) (j := 2) rfl (fun F => xm_c_ok (y_c_ok rfl) F) rfl rfl rfl (sX9_put (by omega) e43) ?_
                                rintro _ _ ⟨rfl, rfl⟩
                                rcases ite_ok e with ⟨h44, e⟩ | ⟨h44, e⟩
                                · rcases ite_ok e with ⟨h45, e⟩ | ⟨h45, e⟩
                                  · cases e
                                    exact xw_yr hd0 10 [1, 1] rfl ⟨decide_eq_true h44, decide_eq_true h45, rfl, trivial⟩ ⟨rfl, rfl⟩
                                  · refine xw_y hd0 8 [1, 0] rfl ⟨decide_eq_true h44, nt h45, trivial⟩ ?_
                                    obtain ⟨A47, V48, c49, e50, e⟩ := bS_ok e
                                    refine xw_call (k := 135) (j := 2) rfl (fun F => xm_c_ok (y_c_ok rfl) F) rfl rfl rfl (sX9_put (by omega) e50) ?_
                                    rintro _ _ ⟨rfl, rfl⟩
                                    cases e
                                    exact xw_yr hd0 4 [] rfl ⟨rfl, trivial⟩ ⟨rfl, rfl⟩
                                · refine xw_y hd0 5 [0] rfl ⟨nt h44, trivial⟩ ?_
                                  obtain ⟨A52, V53, c54, e55, e⟩ := bS_ok e
                                  refine xw_call (k := 135) (j := 2) rfl (fun F => xm_c_ok (y_c_ok rfl) F) rfl rfl rfl (sX9_put (by omega) e55) ?_
                                  rintro _ _ ⟨rfl, rfl⟩
                                  rcases ite_ok e with ⟨h56, e⟩ | ⟨h56, e⟩
                                  · cases e
                                    exact xw_yr hd0 7 [1] rfl ⟨decide_eq_true h56, rfl, trivial⟩ ⟨rfl, rfl⟩
                                  · refine xw_y hd0 5 [0] rfl ⟨nt h56, trivial⟩ ?_
                                    obtain ⟨A58, V59, c60, e61, e⟩ := bS_ok e
                                    refine xw_call (k := 135) (j := 2) rfl (fun F => xm_c_ok (y_c_ok rfl) F) rfl rfl rfl (sX9_put (by omega) e61) ?_
                                    rintro _ _ ⟨rfl, rfl⟩
                                    cases e
                                    exact xw_yr hd0 4 [] rfl ⟨rfl, trivial⟩ ⟨rfl, rfl⟩
                            · refine xw_y hd0 5 [0] rfl ⟨nt h19, trivial⟩ ?_
                              obtain ⟨A63, V64, c65, e66, e⟩ := bS_ok e
                              refine xw_call (k := 135) (j := 2) rfl (fun F => xm_c_ok (y_c_ok rfl) F) rfl rfl rfl (sX9_put (by omega) e66) ?_
                              rintro _ _ ⟨rfl, rfl⟩
                              rcases ite_ok e with ⟨h67, e⟩ | ⟨h67, e⟩
                              · rcases ite_ok e with ⟨h68, e⟩ | ⟨h68, e⟩
                                · rcases ite_ok e with ⟨h69, e⟩ | ⟨h69, e⟩
                                  · cases e
                                    exact xw_yr hd0 13 [1, 1, 1] rfl ⟨decide_eq_true h67, decide_eq_true h68, decide_eq_true h69, rfl, trivial⟩ ⟨rfl, rfl⟩
                                  · refine xw_y hd0 11 [1, 1, 0] rfl ⟨decide_eq_true h67, decide_eq_true h68, nt h69, trivial⟩ ?_
                                    obtain ⟨A71, V72, c73, e74, e⟩ := bS_ok e
                                    refine xw_call (k := 135) (j := 2) rfl (fun F => xm_c_ok (y_c_ok rfl) F) rfl rfl rfl (sX9_put (by omega) e74) ?_
                                    rintro _ _ ⟨rfl, rfl⟩
                                    cases e
                                    exact xw_yr hd0 4 [] rfl ⟨rfl, trivial⟩ ⟨rfl, rfl⟩
                                · refine xw_y hd0 8 [1, 0] rfl ⟨decide_eq_true h67, nt h68, trivial⟩ ?_
                                  obtain ⟨A76, V77, c78, e79, e⟩ := bS_ok e
                                  refine xw_call (k := 135) (j := 2) rfl (fun F => xm_c_ok (y_c_ok rfl) F) rfl rfl rfl (sX9_put (by omega) e79) ?_
                                  rintro _ _ ⟨rfl, rfl⟩
                                  rcases ite_ok e with ⟨h80, e⟩ | ⟨h80, e⟩
                                  · cases e
                                    exact xw_yr hd0 7 [1] rfl ⟨decide_eq_true h80, rfl, trivial⟩ ⟨rfl, rfl⟩
                                  · refine xw_y hd0 5 [0] rfl ⟨nt h80, trivial⟩ ?_
                                    obtain ⟨A82, V83, c84, e85, e⟩ := bS_ok e
                                    refine xw_call (k := 135) (j := 2) rfl (fun F => xm_c_ok (y_c_ok rfl) F) rfl rfl rfl (sX9_put (by omega) e85) ?_
                                    rintro _ _ ⟨rfl, rfl⟩
                                    cases e
                                    exact xw_yr hd0 4 [] rfl ⟨rfl, trivial⟩ ⟨rfl, rfl⟩
                              · refine xw_y hd0 5 [0] rfl ⟨nt h67, trivial⟩ ?_
                                obtain ⟨A87, V88, c89, e90, e⟩ := bS_ok e
                                refine xw_call (k := 135) (j := 2) rfl (fun F => xm_c_ok (y_c_ok rfl) F) rfl rfl rfl (sX9_put (by omega) e90) ?_
                                rintro _ _ ⟨rfl, rfl⟩
                                rcases ite_ok e with ⟨h91, e⟩ | ⟨h91, e⟩
                                · rcases ite_ok e with ⟨h92, e⟩ | ⟨h92, e⟩
                                  · cases e
                                    exact xw_yr hd0 10 [1, 1] rfl ⟨decide_eq_true h91, decide_eq_true h92, rfl, trivial⟩ ⟨rfl, rfl⟩
                                  · refine xw_y hd0 8 [1, 0] rfl ⟨decide_eq_true h91, nt h92, trivial⟩ ?_
                                    obtain ⟨A94, V95, c96, e97, e⟩ := bS_ok e
                                    refine xw_call (k := 135) (j := 2) rfl (fun F => xm_c_ok (y_c_ok rfl) F) rfl rfl rfl (sX9_put (by omega) e97) ?_
                                    rintro _ _ ⟨rfl, rfl⟩
                                    cases e
                                    exact xw_yr hd0 4 [] rfl ⟨rfl, trivial⟩ ⟨rfl, rfl⟩
                                · refine xw_y hd0 5 [0] rfl ⟨nt h91, trivial⟩ ?_
                                  obtain ⟨A99, V100, c101, e102, e⟩ := bS_ok e
                                  refine xw_call (k := 135) (j := 2) rfl (fun F => xm_c_ok (y_c_ok rfl) F) rfl rfl rfl (sX9_put (by omega) e102) ?_
                                  rintro _ _ ⟨rfl, rfl⟩
                                  rcases ite_ok e with ⟨h103, e⟩ | ⟨h103, e⟩
                                  · cases e
                                    exact xw_yr hd0 7 [1] rfl ⟨decide_eq_true h103, rfl, trivial⟩ ⟨rfl, rfl⟩
                                  · refine xw_y hd0 5 [0] rfl ⟨nt h103, trivial⟩ ?_
                                    obtain ⟨A105, V106, c107, e108, e⟩ := bS_ok e
                                    refine xw_call (k := 135) (j := 2) rfl (fun F => xm_c_ok (y_c_ok rfl) F) rfl rfl rfl (sX9_put (by omega) e108) ?_
                                    rintro _ _ ⟨rfl, rfl⟩
                                    cases e
                                    exact xw_yr hd0 4 [] rfl ⟨rfl, trivial⟩ ⟨rfl, rfl⟩
                          · cases e
                            exact xw_yr hd0 93 [0, 0, 0, 0, 0, 0, 0, 0, 0, 0, 0, 0, 0, 0, 0, 0, 0, 1, 0] rfl ⟨nt h1, nt h2, rfl, rfl, nt h3, nt h4, rfl, rfl, nt h5, nt h6, rfl, rfl, nt h7, nt h8, rfl, rfl, nt h9, nt h10, rfl, rfl, nt h11, nt h12, rfl, rfl, nt h13, rfl, trivial⟩ ⟨rfl, rfl⟩
set_option maxRecDepth 20000 in
set_option maxHeartbeats 4000000 in
theorem slX9_readWord_L0 {LL : Nat} {xs : Nat → Int32} {tx : List xh_T} {d : Nat} {A' V' : xM} {c' : Value} {ex : xM → xM → Value → Option (xS)} (hd : 60 ≤ d) (hex : ∀ (w1 w2 w3 w4 : Option Value) (A V : xM) (cu : Value), ex  A V cu = some (A', V', c') → xw (xk_ro LL xs) d xk_139 24 [some (.ref 132), w1, w2, w3, w4] [] (xh A V tx cu) (qU (xh A' V' tx c'))) : ∀ (n : Nat) (z1 z2 z3 z4 : Option Value) (A V : xM) (cu : Value), fX9_readWord_L0 ex n  A V cu = some (A', V', c') → xw (xk_ro LL xs) d xk_139 0 [some (.ref 132), z1, z2, z3, z4] [] (xh A V tx cu) (qU (xh A' V' tx c')) := by
  have hd0 : 60 ≤ d := by omega
  intro n
  induction n with
  | zero =>
    intro z1 z2 z3 z4 A V cu e
    rw [fX9_readWord_L0] at e
    cases e
  | succ n ih =>
    intro z1 z2 z3 z4 A V cu e
    rw [fX9_readWord_L0] at e
    rcases ite_ok e with ⟨h1, e⟩ | ⟨h1, e⟩
    · refine xw_y hd0 11 [1, 1] rfl ⟨decide_eq_true h1, rfl, rfl, trivial⟩ ?_
      exact hex _ _ _ _ _ _ _ e
    · obtain ⟨h2, e⟩ := bC_ok e
      rcases ite_ok e with ⟨h3, e⟩ | ⟨h3, e⟩
      · refine xw_y hd0 17 [0, 1, 1] rfl ⟨nt h1, h2, decide_eq_true h3, rfl, rfl, trivial⟩ ?_
        exact hex _ _ _ _ _ _ _ e
      · rcases ite_ok e with ⟨h4, e⟩ | ⟨h4, e⟩
        · refine xw_y hd0 23 [0, 0, 1, 1] rfl ⟨nt h1, h2, nt h3, h2, decide_eq_true h4, rfl, rfl, trivial⟩ ?_
          exact hex _ _ _ _ _ _ _ e
        · refine xw_y hd0 31 [0, 0, 0, 0] rfl ⟨nt h1, h2, nt h3, h2, nt h4, rfl, rfl, rfl, trivial⟩ ?_
          exact ih _ _ _ _ _ _ _ e
set_option maxRecDepth 20000 in
set_option maxHeartbeats 4000000 in
theorem slX9_readWord_L76 {LL : Nat} {xs : Nat → Int32} {tx : List xh_T} {d : Nat}{A V : xM} {cu : Value} {A' V' : xM} {c' : Value} {l1 : Int32} {l2 : Int32} {ex : Int32 → Option (xS)} (hd : 60 ≤ d) (hex : ∀ (y3 : Int32) (w2 w4 : Option Value), ex y3 = some (A', V', c') → xw (xk_ro LL xs) d xk_139 127 [some (.ref 132), some (.int l1), w2, some (.int y3), w4] [] (xh A V tx cu) (qU (xh A' V' tx c'))) : ∀ (n : Nat) (l3 : Int32) (l4 : Int32), fX9_readWord_L76 l1 l2 A V cu ex n l3 l4 = some (A', V', c') → xw (xk_ro LL xs) d xk_139 76 [some (.ref 132), some (.int l1), some (.int l2), some (.int l3), some (.int l4)] [] (xh A V tx cu) (qU (xh A' V' tx c')) := by
  have hd0 : 60 ≤ d := by omega
  intro n
  induction n with
  | zero =>
    intro l3 l4 e
    rw [fX9_readWord_L76] at e
    cases e
  | succ n ih =>
    intro l3 l4 e
    rw [fX9_readWord_L76] at e
    rcases ite_ok e with ⟨h5, e⟩ | ⟨h5, e⟩
    · refine xw_y hd0 3 [1] rfl ⟨decide_eq_true h5, trivial⟩ ?_
      exact hex _ _ _ e
    · rcases ite_ok e with ⟨h6, e⟩ | ⟨h6, e⟩
      · refine xw_y hd0 5 [0, 1] rfl ⟨nt h5, decide_eq_true h6, trivial⟩ ?_
        exact hex _ _ _ e
      · obtain ⟨h7, e⟩ := bC_ok e
        obtain ⟨h8, e⟩ := bC_ok e
        obtain ⟨h9, e⟩ := bC_ok e
        rcases ite_ok e with ⟨h10, e⟩ | ⟨h10, e⟩
        · refine xw_y hd0 27 [0, 0, 0] rfl ⟨nt h5, nt h6, h7, h8, h9, nnt h10, trivial⟩ ?_
          exact ih _ _ e
        · refine xw_y hd0 26 [0, 0, 1] rfl ⟨nt h5, nt h6, h7, h8, h9, nt h10, trivial⟩ ?_
          exact ih _ _ e
set_option maxRecDepth 20000 in
set_option maxHeartbeats 4000000 in
theorem slX9_readWord_L32 {LL : Nat} {xs : Nat → Int32} {tx : List xh_T} {d : Nat} {A' V' : xM} {c' : Value} {ex : xM → xM → Value → Option (xS)} (hd : 60 ≤ d) (hex : ∀ (w0 w1 w2 w3 w4 : Option Value) (A V : xM) (cu : Value), ex  A V cu = some (A', V', c') → xw (xk_ro LL xs) d xk_139 170 [w0, w1, w2, w3, w4] [] (xh A V tx cu) (qU (xh A' V' tx c'))) : ∀ (n : Nat) (l1 : Int32) (z2 z3 z4 : Option Value) (A V : xM) (cu : Value), fX9_readWord_L32 ex n l1 A V cu = some (A', V', c') → xw (xk_ro LL xs) d xk_139 32 [some (.ref 132), some (.int l1), z2, z3, z4] [] (xh A V tx cu) (qU (xh A' V' tx c')) := by
  have hd0 : 60 ≤ d := by omega
  intro n
  induction n with
  | zero =>
    intro l1 z2 z3 z4 A V cu e
    rw [fX9_readWord_L32] at e
    cases e
  | succ n ih =>
    intro l1 z2 z3 z4 A V cu e
    rw [fX9_readWord_L32] at e
    rcases ite_ok e with ⟨h11, e⟩ | ⟨h11, e⟩
    · refine xw_y hd0 3 [1] rfl ⟨decide_eq_true h11, trivial⟩ ?_
      exact hex _ _ _ _ _ _ _ _ e
    · obtain ⟨h12, e⟩ := bC_ok e
      obtain ⟨h13, e⟩ := bC_ok e
      rcases ite_ok e with ⟨h14, e⟩ | ⟨h14, e⟩
      · refine xw_y hd0 27 [0, 0] rfl ⟨nt h11, h12, h13, nnt h14, trivial⟩ ?_
        refine slX9_readWord_L76 hd ?_ FU _ _ e
        · intro l3_15 z16 z17 e
          rcases ite_ok e with ⟨h18, e⟩ | ⟨h18, e⟩
          · refine xw_y hd0 4 [1] rfl ⟨decide_eq_true h18, trivial⟩ ?_
            exact ih _ _ _ _ _ _ _ e
          · rcases ite_ok e with ⟨h19, e⟩ | ⟨h19, e⟩
            · refine xw_y hd0 18 [0, 1, 1] rfl ⟨nt h18, decide_eq_true h19, rfl, decide_eq_true h19, rfl, trivial⟩ ?_
              exact ih _ _ _ _ _ _ _ e
            · refine xw_y hd0 18 [0, 0, 0] rfl ⟨nt h18, nt h19, rfl, nt h19, rfl, trivial⟩ ?_
              exact ih _ _ _ _ _ _ _ e
      · refine xw_y hd0 26 [0, 1] rfl ⟨nt h11, h12, h13, nt h14, trivial⟩ ?_
        refine slX9_readWord_L76 hd ?_ FU _ _ e
        · intro l3_20 z21 z22 e
          rcases ite_ok e with ⟨h23, e⟩ | ⟨h23, e⟩
          · refine xw_y hd0 4 [1] rfl ⟨decide_eq_true h23, trivial⟩ ?_
            exact ih _ _ _ _ _ _ _ e
          · rcases ite_ok e with ⟨h24, e⟩ | ⟨h24, e⟩
            · refine xw_y hd0 18 [0, 1, 1] rfl ⟨nt h23, decide_eq_true h24, rfl, decide_eq_true h24, rfl, trivial⟩ ?_
              exact ih _ _ _ _ _ _ _ e
            · refine xw_y hd0 18 [0, 0, 0] rfl ⟨nt h23, nt h24, rfl, nt h24, rfl, trivial⟩ ?_
              exact ih _ _ _ _ _ _ _ e
set_option maxRecDepth 20000 in
set_option maxHeartbeats 4000000 in
theorem sX9_readWord {LL : Nat} {xs : Nat → Int32} {tx : List xh_T} {d : Nat} {A V : xM} {cu : Value} {A' V' : xM} {c' : Value} (hd : 61 ≤ d) (e : fX9_readWord A V cu = some (A', V', c')) : xe (xk_ro LL xs) d 139 [.ref 132] (xh A V tx cu) (qU (xh A' V' tx c')) := by
  obtain ⟨d, rfl⟩ : ∃ d1, d = d1 + 1 := ⟨d - 1, by omega⟩
  replace hd : 60 ≤ d := by omega
  have hd0 : 60 ≤ d := by omega
  refine xe_of (co := xk_139) (nl := 5) rfl rfl rfl ?_
  unfold fX9_readWord at e
  refine slX9_readWord_L0 hd ?_ FU _ _ _ _ _ _ _ e
  · intro z25 z26 z27 z28 A29 V30 c31 e
    refine xw_y hd0 5 [] rfl ⟨rfl, trivial⟩ ?_
    refine slX9_readWord_L32 hd ?_ FU _ _ _ _ _ _ _ e
    · intro z32 z33 z34 z35 z36 A37 V38 c39 e
      cases e
      exact xw_yr hd0 2 [] rfl trivial ⟨rfl, rfl⟩
set_option maxRecDepth 20000 in
set_option maxHeartbeats 4000000 in
theorem slX9_readNumber_L5 {LL : Nat} {xs : Nat → Int32} {tx : List xh_T} {d : Nat} {A' V' : xM} {c' : Value} {ex : xM → xM → Value → Option (xS)} (hd : 60 ≤ d) (hex : ∀ (A V : xM) (cu : Value), ex  A V cu = some (A', V', c') → xw (xk_ro LL xs) d xk_140 73 [some (.ref 132)] [] (xh A V tx cu) (qU (xh A' V' tx c'))) : ∀ (n : Nat) (A V : xM) (cu : Value), fX9_readNumber_L5 ex n  A V cu = some (A', V', c') → xw (xk_ro LL xs) d xk_140 5 [some (.ref 132)] [] (xh A V tx cu) (qU (xh A' V' tx c')) := by
  have hd0 : 60 ≤ d := by omega
  intro n
  induction n with
  | zero =>
    intro A V cu e
    rw [fX9_readNumber_L5] at e
    cases e
  | succ n ih =>
    intro A V cu e
    rw [fX9_readNumber_L5] at e
    rcases ite_ok e with ⟨h1, e⟩ | ⟨h1, e⟩
    · refine xw_y hd0 11 [1, 1] rfl ⟨decide_eq_true h1, rfl, rfl, trivial⟩ ?_
      exact hex _ _ _ e
    · obtain ⟨h2, e⟩ := bC_ok e
      rcases ite_ok e with ⟨h3, e⟩ | ⟨h3, e⟩
      · refine xw_y hd0 17 [0, 1, 1] rfl ⟨nt h1, h2, decide_eq_true h3, rfl, rfl, trivial⟩ ?_
        exact hex _ _ _ e
      · rcases ite_ok e with ⟨h4, e⟩ | ⟨h4, e⟩
        · refine xw_y hd0 23 [0, 0, 1, 1] rfl ⟨nt h1, h2, nt h3, h2, decide_eq_true h4, rfl, rfl, trivial⟩ ?_
          exact hex _ _ _ e
        · rcases ite_ok e with ⟨h5, e⟩ | ⟨h5, e⟩
          · refine xw_y hd0 42 [0, 0, 0, 0, 1] rfl ⟨nt h1, h2, nt h3, h2, nt h4, rfl, rfl, decide_eq_true h5, rfl, rfl, trivial⟩ ?_
            exact ih _ _ _ e
          · refine xw_y hd0 53 [0, 0, 0, 0, 0] rfl ⟨nt h1, h2, nt h3, h2, nt h4, rfl, rfl, nt h5, h2, rfl, rfl, trivial⟩ ?_
            exact ih _ _ _ e
set_option maxRecDepth 20000 in
set_option maxHeartbeats 4000000 in
theorem sX9_readNumber {LL : Nat} {xs : Nat → Int32} {tx : List xh_T} {d : Nat} {A V : xM} {cu : Value} {A' V' : xM} {c' : Value} (hd : 61 ≤ d) (e : fX9_readNumber A V cu = some (A', V', c')) : xe (xk_ro LL xs) d 140 [.ref 132] (xh A V tx cu) (qU (xh A' V' tx c')) := by
  obtain ⟨d, rfl⟩ : ∃ d1, d = d1 + 1 := ⟨d - 1, by omega⟩
  replace hd : 60 ≤ d := by omega
  have hd0 : 60 ≤ d := by omega
  refine xe_of (co := xk_140) (nl := 1) rfl rfl rfl ?_
  unfold fX9_readNumber at e
  refine xw_y hd0 3 [] rfl ⟨rfl, trivial⟩ ?_
  refine slX9_readNumber_L5 hd ?_ FU _ _ _ e
  · intro A6 V7 c8 e
    rcases ite_ok e with ⟨h9, e⟩ | ⟨h9, e⟩
    · cases e
      exact xw_yr hd0 12 [1] rfl ⟨decide_eq_true h9, rfl, trivial⟩ ⟨rfl, rfl⟩
    · cases e
      exact xw_yr hd0 13 [0] rfl ⟨nt h9, rfl, trivial⟩ ⟨rfl, rfl⟩
set_option maxRecDepth 20000 in
set_option maxHeartbeats 4000000 in
theorem slX9_next_L0 {LL : Nat} {xs : Nat → Int32} {tx : List xh_T} {d : Nat} {A' V' : xM} {c' : Value} {ex : xM → xM → Value → Option (xS)} (hd : 61 ≤ d) (hex : ∀ (w1 : Option Value) (A V : xM) (cu : Value), ex  A V cu = some (A', V', c') → xw (xk_ro LL xs) d xk_141 52 [some (.ref 132), w1] [] (xh A V tx cu) (qU (xh A' V' tx c'))) : ∀ (n : Nat) (z1 : Option Value) (A V : xM) (cu : Value), fX9_next_L0 ex n  A V cu = some (A', V', c') → xw (xk_ro LL xs) d xk_141 0 [some (.ref 132), z1] [] (xh A V tx cu) (qU (xh A' V' tx c')) := by
  have hd0 : 60 ≤ d := by omega
  intro n
  induction n with
  | zero =>
    intro z1 A V cu e
    rw [fX9_next_L0] at e
    cases e
  | succ n ih =>
    intro z1 A V cu e
    rw [fX9_next_L0] at e
    rcases ite_ok e with ⟨h1, e⟩ | ⟨h1, e⟩
    · refine xw_y hd0 5 [1] rfl ⟨decide_eq_true h1, trivial⟩ ?_
      exact hex _ _ _ _ e
    · obtain ⟨h2, e⟩ := bC_ok e
      rcases ite_ok e with ⟨h3, e⟩ | ⟨h3, e⟩
      · refine xw_y hd0 19 [0, 1] rfl ⟨nt h1, h2, decide_eq_true h3, rfl, trivial⟩ ?_
        exact ih _ _ _ _ e
      · rcases ite_ok e with ⟨h4, e⟩ | ⟨h4, e⟩
        · refine xw_y hd0 26 [0, 0, 0] rfl ⟨nt h1, h2, nt h3, h2, nnt h4, rfl, trivial⟩ ?_
          exact ih _ _ _ _ e
        · refine xw_y hd0 19 [0, 0, 1] rfl ⟨nt h1, h2, nt h3, h2, nt h4, trivial⟩ ?_
          exact hex _ _ _ _ e
set_option maxRecDepth 20000 in
set_option maxHeartbeats 4000000 in
theorem sX9_next {LL : Nat} {xs : Nat → Int32} {tx : List xh_T} {d : Nat} {A V : xM} {cu : Value} {A' V' : xM} {c' : Value} (hd : 62 ≤ d) (e : fX9_next A V cu = some (A', V', c')) : xe (xk_ro LL xs) d 141 [.ref 132] (xh A V tx cu) (qU (xh A' V' tx c')) := by
  obtain ⟨d, rfl⟩ : ∃ d1, d = d1 + 1 := ⟨d - 1, by omega⟩
  replace hd : 61 ≤ d := by omega
  have hd0 : 60 ≤ d := by omega
  refine xe_of (co := xk_141) (nl := 2) rfl rfl rfl ?_
  unfold fX9_next at e
  refine slX9_next_L0 hd ?_ FU _ _ _ _ e
  · intro z5 A6 V7 c8 e
    rcases ite_ok e with ⟨h9, e⟩ | ⟨h9, e⟩
    · cases e
      exact xw_yr hd0 15 [0] rfl ⟨rfl, nnt h9, rfl, trivial⟩ ⟨rfl, rfl⟩
    · rcases ite_ok e with ⟨h10, e⟩ | ⟨h10, e⟩
      · obtain ⟨h11, e⟩ := bC_ok e
        rcases ite_ok e with ⟨h12, e⟩ | ⟨h12, e⟩
        · cases e
          exact xw_yr hd0 59 [1, 1, 1, 1, 1, 1, 0] rfl ⟨rfl, nt h9, decide_eq_true h10, rfl, rfl, decide_eq_true h10, rfl, rfl, h11, rfl, decide_eq_true h12, rfl, rfl, rfl, trivial⟩ ⟨rfl, rfl⟩
        · rcases ite_ok e with ⟨h13, e⟩ | ⟨h13, e⟩
          · cases e
            exact xw_yr hd0 63 [1, 1, 1, 1, 1, 0, 1, 0] rfl ⟨rfl, nt h9, decide_eq_true h10, rfl, rfl, decide_eq_true h10, rfl, rfl, h11, rfl, nt h12, decide_eq_true h13, rfl, rfl, rfl, trivial⟩ ⟨rfl, rfl⟩
          · rcases ite_ok e with ⟨h14, e⟩ | ⟨h14, e⟩
            · cases e
              exact xw_yr hd0 67 [1, 1, 1, 1, 1, 0, 0, 1, 0] rfl ⟨rfl, nt h9, decide_eq_true h10, rfl, rfl, decide_eq_true h10, rfl, rfl, h11, rfl, nt h12, nt h13, decide_eq_true h14, rfl, rfl, rfl, trivial⟩ ⟨rfl, rfl⟩
            · rcases ite_ok e with ⟨h15, e⟩ | ⟨h15, e⟩
              · cases e
                exact xw_yr hd0 71 [1, 1, 1, 1, 1, 0, 0, 0, 1, 0] rfl ⟨rfl, nt h9, decide_eq_true h10, rfl, rfl, decide_eq_true h10, rfl, rfl, h11, rfl, nt h12, nt h13, nt h14, decide_eq_true h15, rfl, rfl, rfl, trivial⟩ ⟨rfl, rfl⟩
              · rcases ite_ok e with ⟨h16, e⟩ | ⟨h16, e⟩
                · cases e
                  exact xw_yr hd0 75 [1, 1, 1, 1, 1, 0, 0, 0, 0, 1, 0] rfl ⟨rfl, nt h9, decide_eq_true h10, rfl, rfl, decide_eq_true h10, rfl, rfl, h11, rfl, nt h12, nt h13, nt h14, nt h15, decide_eq_true h16, rfl, rfl, rfl, trivial⟩ ⟨rfl, rfl⟩
                · rcases ite_ok e with ⟨h17, e⟩ | ⟨h17, e⟩
                  · cases e
                    exact xw_yr hd0 79 [1, 1, 1, 1, 1, 0, 0, 0, 0, 0, 1, 0] rfl ⟨rfl, nt h9, decide_eq_true h10, rfl, rfl, decide_eq_true h10, rfl, rfl, h11, rfl, nt h12, nt h13, nt h14, nt h15, nt h16, decide_eq_true h17, rfl, rfl, rfl, trivial⟩ ⟨rfl, rfl⟩
                  · rcases ite_ok e with ⟨h18, e⟩ | ⟨h18, e⟩
                    · cases e
                      exact xw_yr hd0 83 [1, 1, 1, 1, 1, 0, 0, 0, 0, 0, 0, 1, 0] rfl ⟨rfl, nt h9, decide_eq_true h10, rfl, rfl, decide_eq_true h10, rfl, rfl, h11, rfl, nt h12, nt h13, nt h14, nt h15, nt h16, nt h17, decide_eq_true h18, rfl, rfl, rfl, trivial⟩ ⟨rfl, rfl⟩
                    · rcases ite_ok e with ⟨h19, e⟩ | ⟨h19, e⟩
                      · cases e
                        exact xw_yr hd0 87 [1, 1, 1, 1, 1, 0, 0, 0, 0, 0, 0, 0, 0, 0] rfl ⟨rfl, nt h9, decide_eq_true h10, rfl, rfl, decide_eq_true h10, rfl, rfl, h11, rfl, nt h12, nt h13, nt h14, nt h15, nt h16, nt h17, nt h18, nnt h19, rfl, rfl, rfl, trivial⟩ ⟨rfl, rfl⟩
                      · cases e
                        exact xw_yr hd0 85 [1, 1, 1, 1, 1, 0, 0, 0, 0, 0, 0, 0, 1, 1] rfl ⟨rfl, nt h9, decide_eq_true h10, rfl, rfl, decide_eq_true h10, rfl, rfl, h11, rfl, nt h12, nt h13, nt h14, nt h15, nt h16, nt h17, nt h18, nt h19, rfl, rfl, rfl, trivial⟩ ⟨rfl, rfl⟩
      · obtain ⟨h20, e⟩ := bC_ok e
        rcases ite_ok e with ⟨h21, e⟩ | ⟨h21, e⟩
        · rcases ite_ok e with ⟨h22, e⟩ | ⟨h22, e⟩
          · rcases ite_ok e with ⟨h23, e⟩ | ⟨h23, e⟩
            · cases e
              exact xw_yr hd0 71 [1, 0, 1, 1, 0, 1, 1, 1, 0] rfl ⟨rfl, nt h9, nt h10, h20, decide_eq_true h21, rfl, rfl, nt h10, h20, decide_eq_true h22, rfl, rfl, h20, rfl, decide_eq_true h23, rfl, rfl, rfl, trivial⟩ ⟨rfl, rfl⟩
            · rcases ite_ok e with ⟨h24, e⟩ | ⟨h24, e⟩
              · cases e
                exact xw_yr hd0 75 [1, 0, 1, 1, 0, 1, 1, 0, 1, 0] rfl ⟨rfl, nt h9, nt h10, h20, decide_eq_true h21, rfl, rfl, nt h10, h20, decide_eq_true h22, rfl, rfl, h20, rfl, nt h23, decide_eq_true h24, rfl, rfl, rfl, trivial⟩ ⟨rfl, rfl⟩
              · rcases ite_ok e with ⟨h25, e⟩ | ⟨h25, e⟩
                · cases e
                  exact xw_yr hd0 79 [1, 0, 1, 1, 0, 1, 1, 0, 0, 1, 0] rfl ⟨rfl, nt h9, nt h10, h20, decide_eq_true h21, rfl, rfl, nt h10, h20, decide_eq_true h22, rfl, rfl, h20, rfl, nt h23, nt h24, decide_eq_true h25, rfl, rfl, rfl, trivial⟩ ⟨rfl, rfl⟩
                · rcases ite_ok e with ⟨h26, e⟩ | ⟨h26, e⟩
                  · cases e
                    exact xw_yr hd0 83 [1, 0, 1, 1, 0, 1, 1, 0, 0, 0, 1, 0] rfl ⟨rfl, nt h9, nt h10, h20, decide_eq_true h21, rfl, rfl, nt h10, h20, decide_eq_true h22, rfl, rfl, h20, rfl, nt h23, nt h24, nt h25, decide_eq_true h26, rfl, rfl, rfl, trivial⟩ ⟨rfl, rfl⟩
                  · rcases ite_ok e with ⟨h27, e⟩ | ⟨h27, e⟩
                    · cases e
                      exact xw_yr hd0 87 [1, 0, 1, 1, 0, 1, 1, 0, 0, 0, 0, 1, 0] rfl ⟨rfl, nt h9, nt h10, h20, decide_eq_true h21, rfl, rfl, nt h10, h20, decide_eq_true h22, rfl, rfl, h20, rfl, nt h23, nt h24, nt h25, nt h26, decide_eq_true h27, rfl, rfl, rfl, trivial⟩ ⟨rfl, rfl⟩
                    · rcases ite_ok e with ⟨h28, e⟩ | ⟨h28, e⟩
                      · cases e
                        exact xw_yr hd0 91 [1, 0, 1, 1, 0, 1, 1, 0, 0, 0, 0, 0, 1, 0] rfl ⟨rfl, nt h9, nt h10, h20, decide_eq_true h21, rfl, rfl, nt h10, h20, decide_eq_true h22, rfl, rfl, h20, rfl, nt h23, nt h24, nt h25, nt h26, nt h27, decide_eq_true h28, rfl, rfl, rfl, trivial⟩ ⟨rfl, rfl⟩
                      · rcases ite_ok e with ⟨h29, e⟩ | ⟨h29, e⟩
                        · cases e
                          exact xw_yr hd0 95 [1, 0, 1, 1, 0, 1, 1, 0, 0, 0, 0, 0, 0, 1, 0] rfl ⟨rfl, nt h9, nt h10, h20, decide_eq_true h21, rfl, rfl, nt h10, h20, decide_eq_true h22, rfl, rfl, h20, rfl, nt h23, nt h24, nt h25, nt h26, nt h27, nt h28, decide_eq_true h29, rfl, rfl, rfl, trivial⟩ ⟨rfl, rfl⟩
                        · rcases ite_ok e with ⟨h30, e⟩ | ⟨h30, e⟩
                          · cases e
                            exact xw_yr hd0 99 [1, 0, 1, 1, 0, 1, 1, 0, 0, 0, 0, 0, 0, 0, 0, 0] rfl ⟨rfl, nt h9, nt h10, h20, decide_eq_true h21, rfl, rfl, nt h10, h20, decide_eq_true h22, rfl, rfl, h20, rfl, nt h23, nt h24, nt h25, nt h26, nt h27, nt h28, nt h29, nnt h30, rfl, rfl, rfl, trivial⟩ ⟨rfl, rfl⟩
                          · cases e
                            exact xw_yr hd0 97 [1, 0, 1, 1, 0, 1, 1, 0, 0, 0, 0, 0, 0, 0, 1, 1] rfl ⟨rfl, nt h9, nt h10, h20, decide_eq_true h21, rfl, rfl, nt h10, h20, decide_eq_true h22, rfl, rfl, h20, rfl, nt h23, nt h24, nt h25, nt h26, nt h27, nt h28, nt h29, nt h30, rfl, rfl, rfl, trivial⟩ ⟨rfl, rfl⟩
          · rcases ite_ok e with ⟨h31, e⟩ | ⟨h31, e⟩
            · rcases ite_ok e with ⟨h32, e⟩ | ⟨h32, e⟩
              · cases e
                exact xw_yr hd0 77 [1, 0, 1, 1, 0, 0, 1, 1, 1, 0] rfl ⟨rfl, nt h9, nt h10, h20, decide_eq_true h21, rfl, rfl, nt h10, h20, nt h22, h20, decide_eq_true h31, rfl, rfl, h20, rfl, decide_eq_true h32, rfl, rfl, rfl, trivial⟩ ⟨rfl, rfl⟩
              · rcases ite_ok e with ⟨h33, e⟩ | ⟨h33, e⟩
                · cases e
                  exact xw_yr hd0 81 [1, 0, 1, 1, 0, 0, 1, 1, 0, 1, 0] rfl ⟨rfl, nt h9, nt h10, h20, decide_eq_true h21, rfl, rfl, nt h10, h20, nt h22, h20, decide_eq_true h31, rfl, rfl, h20, rfl, nt h32, decide_eq_true h33, rfl, rfl, rfl, trivial⟩ ⟨rfl, rfl⟩
                · rcases ite_ok e with ⟨h34, e⟩ | ⟨h34, e⟩
                  · cases e
                    exact xw_yr hd0 85 [1, 0, 1, 1, 0, 0, 1, 1, 0, 0, 1, 0] rfl ⟨rfl, nt h9, nt h10, h20, decide_eq_true h21, rfl, rfl, nt h10, h20, nt h22, h20, decide_eq_true h31, rfl, rfl, h20, rfl, nt h32, nt h33, decide_eq_true h34, rfl, rfl, rfl, trivial⟩ ⟨rfl, rfl⟩
                  · rcases ite_ok e with ⟨h35, e⟩ | ⟨h35, e⟩
                    · cases e
                      exact xw_yr hd0 89 [1, 0, 1, 1, 0, 0, 1, 1, 0, 0, 0, 1, 0] rfl ⟨rfl, nt h9, nt h10, h20, decide_eq_true h21, rfl, rfl, nt h10, h20, nt h22, h20, decide_eq_true h31, rfl, rfl, h20, rfl, nt h32, nt h33, nt h34, decide_eq_true h35, rfl, rfl, rfl, trivial⟩ ⟨rfl, rfl⟩
                    · rcases ite_ok e with ⟨h36, e⟩ | ⟨h36, e⟩
                      · cases e
                        exact xw_yr hd0 93 [1, 0, 1, 1, 0, 0, 1, 1, 0, 0, 0, 0, 1, 0] rfl ⟨rfl, nt h9, nt h10, h20, decide_eq_true h21, rfl, rfl, nt h10, h20, nt h22, h20, decide_eq_true h31, rfl, rfl, h20, rfl, nt h32, nt h33, nt h34, nt h35, decide_eq_true h36, rfl, rfl, rfl, trivial⟩ ⟨rfl, rfl⟩
                      · rcases ite_ok e with ⟨h37, e⟩ | ⟨h37, e⟩
                        · cases e
                          exact xw_yr hd0 97 [1, 0, 1, 1, 0, 0, 1, 1, 0, 0, 0, 0, 0, 1, 0] rfl ⟨rfl, nt h9, nt h10, h20, decide_eq_true h21, rfl, rfl, nt h10, h20, nt h22, h20, decide_eq_true h31, rfl, rfl, h20, rfl, nt h32, nt h33, nt h34, nt h35, nt h36, decide_eq_true h37, rfl, rfl, rfl, trivial⟩ ⟨rfl, rfl⟩
                        · rcases ite_ok e with ⟨h38, e⟩ | ⟨h38, e⟩
                          · cases e
                            exact xw_yr hd0 101 [1, 0, 1, 1, 0, 0, 1, 1, 0, 0, 0, 0, 0, 0, 1, 0] rfl ⟨rfl, nt h9, nt h10, h20, decide_eq_true h21, rfl, rfl, nt h10, h20, nt h22, h20, decide_eq_true h31, rfl, rfl, h20, rfl, nt h32, nt h33, nt h34, nt h35, nt h36, nt h37, decide_eq_true h38, rfl, rfl, rfl, trivial⟩ ⟨rfl, rfl⟩
                          · rcases ite_ok e with ⟨h39, e⟩ | ⟨h39, e⟩
                            · cases e
                              exact xw_yr hd0 105 [1, 0, 1, 1, 0, 0, 1, 1, 0, 0, 0, 0, 0, 0, 0, 0, 0] rfl ⟨rfl, nt h9, nt h10, h20, decide_eq_true h21, rfl, rfl, nt h10, h20, nt h22, h20, decide_eq_true h31, rfl, rfl, h20, rfl, nt h32, nt h33, nt h34, nt h35, nt h36, nt h37, nt h38, nnt h39, rfl, rfl, rfl, trivial⟩ ⟨rfl, rfl⟩
                            · cases e
                              exact xw_yr hd0 103 [1, 0, 1, 1, 0, 0, 1, 1, 0, 0, 0, 0, 0, 0, 0, 1, 1] rfl ⟨rfl, nt h9, nt h10, h20, decide_eq_true h21, rfl, rfl, nt h10, h20, nt h22, h20, decide_eq_true h31, rfl, rfl, h20, rfl, nt h32, nt h33, nt h34, nt h35, nt h36, nt h37, nt h38, nt h39, rfl, rfl, rfl, trivial⟩ ⟨rfl, rfl⟩
            · refine xw_y hd0 51 [1, 0, 1, 1, 0, 0, 0, 0] rfl ⟨rfl, nt h9, nt h10, h20, decide_eq_true h21, rfl, rfl, nt h10, h20, nt h22, h20, nt h31, rfl, rfl, trivial⟩ ?_
              obtain ⟨A41, V42, c43, e44, e⟩ := bS_ok e
              refine xw_call (k := 140) (j := 1) rfl (fun F => xm_c_ok (y_c_ok rfl) F) rfl rfl rfl (sX9_readNumber (by omega) e44) ?_
              rintro _ _ ⟨rfl, rfl⟩
              cases e
              exact xw_yr hd0 3 [] rfl trivial ⟨rfl, rfl⟩
        · rcases ite_ok e with ⟨h45, e⟩ | ⟨h45, e⟩
          · rcases ite_ok e with ⟨h46, e⟩ | ⟨h46, e⟩
            · rcases ite_ok e with ⟨h47, e⟩ | ⟨h47, e⟩
              · cases e
                exact xw_yr hd0 77 [1, 0, 0, 1, 1, 0, 1, 1, 1, 0] rfl ⟨rfl, nt h9, nt h10, h20, nt h21, h20, decide_eq_true h45, rfl, rfl, nt h10, h20, decide_eq_true h46, rfl, rfl, h20, rfl, decide_eq_true h47, rfl, rfl, rfl, trivial⟩ ⟨rfl, rfl⟩
              · rcases ite_ok e with ⟨h48, e⟩ | ⟨h48, e⟩
                · cases e
                  exact xw_yr hd0 81 [1, 0, 0, 1, 1, 0, 1, 1, 0, 1, 0] rfl ⟨rfl, nt h9, nt h10, h20, nt h21, h20, decide_eq_true h45, rfl, rfl, nt h10, h20, decide_eq_true h46, rfl, rfl, h20, rfl, nt h47, decide_eq_true h48, rfl, rfl, rfl, trivial⟩ ⟨rfl, rfl⟩
                · rcases ite_ok e with ⟨h49, e⟩ | ⟨h49, e⟩
                  · cases e
                    exact xw_yr hd0 85 [1, 0, 0, 1, 1, 0, 1, 1, 0, 0, 1, 0] rfl ⟨rfl, nt h9, nt h10, h20, nt h21, h20, decide_eq_true h45, rfl, rfl, nt h10, h20, decide_eq_true h46, rfl, rfl, h20, rfl, nt h47, nt h48, decide_eq_true h49, rfl, rfl, rfl, trivial⟩ ⟨rfl, rfl⟩
                  · rcases ite_ok e with ⟨h50, e⟩ | ⟨h50, e⟩
                    · cases e
                      exact xw_yr hd0 89 [1, 0, 0, 1, 1, 0, 1, 1, 0, 0, 0, 1, 0] rfl ⟨rfl, nt h9, nt h10, h20, nt h21, h20, decide_eq_true h45, rfl, rfl, nt h10, h20, decide_eq_true h46, rfl, rfl, h20, rfl, nt h47, nt h48, nt h49, decide_eq_true h50, rfl, rfl, rfl, trivial⟩ ⟨rfl, rfl⟩
                    · rcases ite_ok e with ⟨h51, e⟩ | ⟨h51, e⟩
                      · cases e
                        exact xw_yr hd0 93 [1, 0, 0, 1, 1, 0, 1, 1, 0, 0, 0, 0, 1, 0] rfl ⟨rfl, nt h9, nt h10, h20, nt h21, h20, decide_eq_true h45, rfl, rfl, nt h10, h20, decide_eq_true h46, rfl, rfl, h20, rfl, nt h47, nt h48, nt h49, nt h50, decide_eq_true h51, rfl, rfl, rfl, trivial⟩ ⟨rfl, rfl⟩
                      · rcases ite_ok e with ⟨h52, e⟩ | ⟨h52, e⟩
                        · cases e
                          exact xw_yr hd0 97 [1, 0, 0, 1, 1, 0, 1, 1, 0, 0, 0, 0, 0, 1, 0] rfl ⟨rfl, nt h9, nt h10, h20, nt h21, h20, decide_eq_true h45, rfl, rfl, nt h10, h20, decide_eq_true h46, rfl, rfl, h20, rfl, nt h47, nt h48, nt h49, nt h50, nt h51, decide_eq_true h52, rfl, rfl, rfl, trivial⟩ ⟨rfl, rfl⟩
                        · rcases ite_ok e with ⟨h53, e⟩ | ⟨h53, e⟩
                          · cases e
                            exact xw_yr hd0 101 [1, 0, 0, 1, 1, 0, 1, 1, 0, 0, 0, 0, 0, 0, 1, 0] rfl ⟨rfl, nt h9, nt h10, h20, nt h21, h20, decide_eq_true h45, rfl, rfl, nt h10, h20, decide_eq_true h46, rfl, rfl, h20, rfl, nt h47, nt h48, nt h49, nt h50, nt h51, nt h52, decide_eq_true h53, rfl, rfl, rfl, trivial⟩ ⟨rfl, rfl⟩
                          · rcases ite_ok e with ⟨h54, e⟩ | ⟨h54, e⟩
                            · cases e
                              exact xw_yr hd0 105 [1, 0, 0, 1, 1, 0, 1, 1, 0, 0, 0, 0, 0, 0, 0, 0, 0] rfl ⟨rfl, nt h9, nt h10, h20, nt h21, h20, decide_eq_true h45, rfl, rfl, nt h10, h20, decide_eq_true h46, rfl, rfl, h20, rfl, nt h47, nt h48, nt h49, nt h50, nt h51, nt h52, nt h53, nnt h54, rfl, rfl, rfl, trivial⟩ ⟨rfl, rfl⟩
                            · cases e
                              exact xw_yr hd0 103 [1, 0, 0, 1, 1, 0, 1, 1, 0, 0, 0, 0, 0, 0, 0, 1, 1] rfl ⟨rfl, nt h9, nt h10, h20, nt h21, h20, decide_eq_true h45, rfl, rfl, nt h10, h20, decide_eq_true h46, rfl, rfl, h20, rfl, nt h47, nt h48, nt h49, nt h50, nt h51, nt h52, nt h53, nt h54, rfl, rfl, rfl, trivial⟩ ⟨rfl, rfl⟩
            · rcases ite_ok e with ⟨h55, e⟩ | ⟨h55, e⟩
              · rcases ite_ok e with ⟨h56, e⟩ | ⟨h56, e⟩
                · cases e
                  exact xw_yr hd0 83 [1, 0, 0, 1, 1, 0, 0, 1, 1, 1, 0] rfl ⟨rfl, nt h9, nt h10, h20, nt h21, h20, decide_eq_true h45, rfl, rfl, nt h10, h20, nt h46, h20, decide_eq_true h55, rfl, rfl, h20, rfl, decide_eq_true h56, rfl, rfl, rfl, trivial⟩ ⟨rfl, rfl⟩
                · rcases ite_ok e with ⟨h57, e⟩ | ⟨h57, e⟩
                  · cases e
                    exact xw_yr hd0 87 [1, 0, 0, 1, 1, 0, 0, 1, 1, 0, 1, 0] rfl ⟨rfl, nt h9, nt h10, h20, nt h21, h20, decide_eq_true h45, rfl, rfl, nt h10, h20, nt h46, h20, decide_eq_true h55, rfl, rfl, h20, rfl, nt h56, decide_eq_true h57, rfl, rfl, rfl, trivial⟩ ⟨rfl, rfl⟩
                  · rcases ite_ok e with ⟨h58, e⟩ | ⟨h58, e⟩
                    · cases e
                      exact xw_yr hd0 91 [1, 0, 0, 1, 1, 0, 0, 1, 1, 0, 0, 1, 0] rfl ⟨rfl, nt h9, nt h10, h20, nt h21, h20, decide_eq_true h45, rfl, rfl, nt h10, h20, nt h46, h20, decide_eq_true h55, rfl, rfl, h20, rfl, nt h56, nt h57, decide_eq_true h58, rfl, rfl, rfl, trivial⟩ ⟨rfl, rfl⟩
                    · rcases ite_ok e with ⟨h59, e⟩ | ⟨h59, e⟩
                      · cases e
                        exact xw_yr hd0 95 [1, 0, 0, 1, 1, 0, 0, 1, 1, 0, 0, 0, 1, 0] rfl ⟨rfl, nt h9, nt h10, h20, nt h21, h20, decide_eq_true h45, rfl, rfl, nt h10, h20, nt h46, h20, decide_eq_true h55, rfl, rfl, h20, rfl, nt h56, nt h57, nt h58, decide_eq_true h59, rfl, rfl, rfl, trivial⟩ ⟨rfl, rfl⟩
                      · rcases ite_ok e with ⟨h60, e⟩ | ⟨h60, e⟩
                        · cases e
                          exact xw_yr hd0 99 [1, 0, 0, 1, 1, 0, 0, 1, 1, 0, 0, 0, 0, 1, 0] rfl ⟨rfl, nt h9, nt h10, h20, nt h21, h20, decide_eq_true h45, rfl, rfl, nt h10, h20, nt h46, h20, decide_eq_true h55, rfl, rfl, h20, rfl, nt h56, nt h57, nt h58, nt h59, decide_eq_true h60, rfl, rfl, rfl, trivial⟩ ⟨rfl, rfl⟩
                        · rcases ite_ok e with ⟨h61, e⟩ | ⟨h61, e⟩
                          · cases e
                            exact xw_yr hd0 103 [1, 0, 0, 1, 1, 0, 0, 1, 1, 0, 0, 0, 0, 0, 1, 0] rfl ⟨rfl, nt h9, nt h10, h20, nt h21, h20, decide_eq_true h45, rfl, rfl, nt h10, h20, nt h46, h20, decide_eq_true h55, rfl, rfl, h20, rfl, nt h56, nt h57, nt h58, nt h59, nt h60, decide_eq_true h61, rfl, rfl, rfl, trivial⟩ ⟨rfl, rfl⟩
                          · rcases ite_ok e with ⟨h62, e⟩ | ⟨h62, e⟩
                            · cases e
                              exact xw_yr hd0 107 [1, 0, 0, 1, 1, 0, 0, 1, 1, 0, 0, 0, 0, 0, 0, 1, 0] rfl ⟨rfl, nt h9, nt h10, h20, nt h21, h20, decide_eq_true h45, rfl, rfl, nt h10, h20, nt h46, h20, decide_eq_true h55, rfl, rfl, h20, rfl, nt h56, nt h57, nt h58, nt h59, nt h60, nt h61, decide_eq_true h62, rfl, rfl, rfl, trivial⟩ ⟨rfl, rfl⟩
                            · rcases ite_ok e with ⟨h63, e⟩ | ⟨h63, e⟩
                              · cases e
                                exact xw_yr hd0 111 [1, 0, 0, 1, 1, 0, 0, 1, 1, 0, 0, 0, 0, 0, 0, 0, 0, 0] rfl ⟨rfl, nt h9, nt h10, h20, nt h21, h20, decide_eq_true h45, rfl, rfl, nt h10, h20, nt h46, h20, decide_eq_true h55, rfl, rfl, h20, rfl, nt h56, nt h57, nt h58, nt h59, nt h60, nt h61, nt h62, nnt h63, rfl, rfl, rfl, trivial⟩ ⟨rfl, rfl⟩
                              · cases e
                                exact xw_yr hd0 109 [1, 0, 0, 1, 1, 0, 0, 1, 1, 0, 0, 0, 0, 0, 0, 0, 1, 1] rfl ⟨rfl, nt h9, nt h10, h20, nt h21, h20, decide_eq_true h45, rfl, rfl, nt h10, h20, nt h46, h20, decide_eq_true h55, rfl, rfl, h20, rfl, nt h56, nt h57, nt h58, nt h59, nt h60, nt h61, nt h62, nt h63, rfl, rfl, rfl, trivial⟩ ⟨rfl, rfl⟩
              · refine xw_y hd0 57 [1, 0, 0, 1, 1, 0, 0, 0, 0] rfl ⟨rfl, nt h9, nt h10, h20, nt h21, h20, decide_eq_true h45, rfl, rfl, nt h10, h20, nt h46, h20, nt h55, rfl, rfl, trivial⟩ ?_
                obtain ⟨A65, V66, c67, e68, e⟩ := bS_ok e
                refine xw_call (k := 140) (j := 1) rfl (fun F => xm_c_ok (y_c_ok rfl) F) rfl rfl rfl (sX9_readNumber (by omega) e68) ?_
                rintro _ _ ⟨rfl, rfl⟩
                cases e
                exact xw_yr hd0 3 [] rfl trivial ⟨rfl, rfl⟩
          · refine xw_y hd0 34 [1, 0, 0, 0, 0] rfl ⟨rfl, nt h9, nt h10, h20, nt h21, h20, nt h45, rfl, rfl, trivial⟩ ?_
            obtain ⟨A70, V71, c72, e73, e⟩ := bS_ok e
            refine xw_call (k := 139) (j := 1) rfl (fun F => xm_c_ok (y_c_ok rfl) F) rfl rfl rfl (sX9_readWord (by omega) e73) ?_
            rintro _ _ ⟨rfl, rfl⟩
            cases e
            exact xw_yr hd0 3 [] rfl trivial ⟨rfl, rfl⟩
set_option maxRecDepth 20000 in
set_option maxHeartbeats 4000000 in
theorem sX9_emit {LL : Nat} {xs : Nat → Int32} {tx : List xh_T} {d : Nat} {A V : xM} {cu : Value} {A' V' : xM} {c' : Value} {l1 : Int32} (hd : 61 ≤ d) (e : fX9_emit l1 A V cu = some (A', V', c')) : xe (xk_ro LL xs) d 144 [.ref 132, .int l1] (xh A V tx cu) (qU (xh A' V' tx c')) := by
  obtain ⟨d, rfl⟩ : ∃ d1, d = d1 + 1 := ⟨d - 1, by omega⟩
  replace hd : 60 ≤ d := by omega
  have hd0 : 60 ≤ d := by omega
  refine xe_of (co := xk_144) (nl := 2) rfl rfl rfl ?_
  unfold fX9_emit at e
  obtain ⟨h1, e⟩ := bC_ok e
  cases e
  exact xw_yr hd0 17 [] rfl ⟨h1, rfl, trivial⟩ ⟨rfl, rfl⟩
set_option maxRecDepth 20000 in
set_option maxHeartbeats 4000000 in
theorem sX9_rank {LL : Nat} {xs : Nat → Int32} {tx : List xh_T} {d : Nat} {A V : xM} {cu : Value} {r : Int32} {l0 : Int32} (hd : 61 ≤ d) (e : fX9_rank l0 A V = some r) : xe (xk_ro LL xs) d 145 [.int l0] (xh A V tx cu) (qI r (xh A V tx cu)) := by
  obtain ⟨d, rfl⟩ : ∃ d1, d = d1 + 1 := ⟨d - 1, by omega⟩
  replace hd : 60 ≤ d := by omega
  have hd0 : 60 ≤ d := by omega
  refine xe_of (co := xk_145) (nl := 1) rfl rfl rfl ?_
  unfold fX9_rank at e
  rcases ite_ok e with ⟨h1, e⟩ | ⟨h1, e⟩
  · cases e
    exact xw_yr hd0 7 [0] rfl ⟨nnt h1, rfl, trivial⟩ ⟨rfl, rfl⟩
  · rcases ite_ok e with ⟨h2, e⟩ | ⟨h2, e⟩
    · cases e
      exact xw_yr hd0 10 [1, 0] rfl ⟨nt h1, nnt h2, rfl, trivial⟩ ⟨rfl, rfl⟩
    · rcases ite_ok e with ⟨h3, e⟩ | ⟨h3, e⟩
      · cases e
        exact xw_yr hd0 13 [1, 1, 0] rfl ⟨nt h1, nt h2, nnt h3, rfl, trivial⟩ ⟨rfl, rfl⟩
      · rcases ite_ok e with ⟨h4, e⟩ | ⟨h4, e⟩
        · cases e
          exact xw_yr hd0 16 [1, 1, 1, 1] rfl ⟨nt h1, nt h2, nt h3, decide_eq_true h4, rfl, trivial⟩ ⟨rfl, rfl⟩
        · rcases ite_ok e with ⟨h5, e⟩ | ⟨h5, e⟩
          · cases e
            exact xw_yr hd0 19 [1, 1, 1, 0, 0] rfl ⟨nt h1, nt h2, nt h3, nt h4, nnt h5, rfl, trivial⟩ ⟨rfl, rfl⟩
          · rcases ite_ok e with ⟨h6, e⟩ | ⟨h6, e⟩
            · cases e
              exact xw_yr hd0 22 [1, 1, 1, 0, 1, 1] rfl ⟨nt h1, nt h2, nt h3, nt h4, nt h5, decide_eq_true h6, rfl, trivial⟩ ⟨rfl, rfl⟩
            · rcases ite_ok e with ⟨h7, e⟩ | ⟨h7, e⟩
              · cases e
                exact xw_yr hd0 25 [1, 1, 1, 0, 1, 0, 0] rfl ⟨nt h1, nt h2, nt h3, nt h4, nt h5, nt h6, nnt h7, rfl, trivial⟩ ⟨rfl, rfl⟩
              · rcases ite_ok e with ⟨h8, e⟩ | ⟨h8, e⟩
                · cases e
                  exact xw_yr hd0 28 [1, 1, 1, 0, 1, 0, 1, 0] rfl ⟨nt h1, nt h2, nt h3, nt h4, nt h5, nt h6, nt h7, nnt h8, rfl, trivial⟩ ⟨rfl, rfl⟩
                · rcases ite_ok e with ⟨h9, e⟩ | ⟨h9, e⟩
                  · cases e
                    exact xw_yr hd0 31 [1, 1, 1, 0, 1, 0, 1, 1, 0] rfl ⟨nt h1, nt h2, nt h3, nt h4, nt h5, nt h6, nt h7, nt h8, nnt h9, rfl, trivial⟩ ⟨rfl, rfl⟩
                  · cases e
                    exact xw_yr hd0 30 [1, 1, 1, 0, 1, 0, 1, 1, 1] rfl ⟨nt h1, nt h2, nt h3, nt h4, nt h5, nt h6, nt h7, nt h8, nt h9, rfl, trivial⟩ ⟨rfl, rfl⟩
set_option maxRecDepth 20000 in
set_option maxHeartbeats 4000000 in
theorem slX9_doAll_L0 {LL : Nat} {xs : Nat → Int32} {tx : List xh_T} {d : Nat} {A' V' : xM} {c' : Value} {l1 : Int32} {ex : xM → xM → Value → Option (xS)} (hd : 61 ≤ d) (hex : ∀ (w0 w1 : Option Value) (A V : xM) (cu : Value), ex  A V cu = some (A', V', c') → xw (xk_ro LL xs) d xk_146 109 [w0, w1] [] (xh A V tx cu) (qU (xh A' V' tx c'))) : ∀ (n : Nat) (A V : xM) (cu : Value), fX9_doAll_L0 l1 ex n  A V cu = some (A', V', c') → xw (xk_ro LL xs) d xk_146 0 [some (.ref 132), some (.int l1)] [] (xh A V tx cu) (qU (xh A' V' tx c')) := by
  have hd0 : 60 ≤ d := by omega
  intro n
  induction n with
  | zero =>
    intro A V cu e
    rw [fX9_doAll_L0] at e
    cases e
  | succ n ih =>
    intro A V cu e
    rw [fX9_doAll_L0] at e
    rcases ite_ok e with ⟨h1, e⟩ | ⟨h1, e⟩
    · refine xw_y hd0 3 [1] rfl ⟨decide_eq_true h1, trivial⟩ ?_
      exact hex _ _ _ _ _ e
    · obtain ⟨h2, e⟩ := bC_ok e
      rcases ite_ok e with ⟨h3, e⟩ | ⟨h3, e⟩
      · refine xw_y hd0 12 [0, 1] rfl ⟨nt h1, h2, decide_eq_true h3, trivial⟩ ?_
        exact hex _ _ _ _ _ e
      · refine xw_y hd0 19 [0, 0] rfl ⟨nt h1, h2, nt h3, h2, trivial⟩ ?_
        obtain ⟨x4, e5, e⟩ := bI_ok e
        refine xw_call (k := 145) (j := 1) rfl (fun F => xm_c_ok (y_c_ok rfl) F) rfl rfl rfl (sX9_rank (by omega) e5) ?_
        rintro _ _ ⟨rfl, rfl⟩
        rcases ite_ok e with ⟨h6, e⟩ | ⟨h6, e⟩
        · refine xw_y hd0 2 [1] rfl ⟨decide_eq_true h6, trivial⟩ ?_
          exact hex _ _ _ _ _ e
        · obtain ⟨h7, e⟩ := bC_ok e
          rcases ite_ok e with ⟨h8, e⟩ | ⟨h8, e⟩
          · obtain ⟨h9, e⟩ := bC_ok e
            refine xw_y hd0 28 [0, 1] rfl ⟨nt h6, rfl, h7, decide_eq_true h8, rfl, h9, trivial⟩ ?_
            obtain ⟨A11, V12, c13, e14, e⟩ := bS_ok e
            refine xw_call (k := 144) (j := 2) rfl (fun F => xm_c_ok (y_c_ok rfl) F) rfl rfl rfl (sX9_emit (by omega) e14) ?_
            rintro _ _ ⟨rfl, rfl⟩
            refine xw_y hd0 1 [] rfl trivial ?_
            exact ih _ _ _ e
          · rcases ite_ok e with ⟨h15, e⟩ | ⟨h15, e⟩
            · obtain ⟨h16, e⟩ := bC_ok e
              refine xw_y hd0 35 [0, 0, 0] rfl ⟨nt h6, rfl, h7, nt h8, h7, nnt h15, rfl, h16, trivial⟩ ?_
              obtain ⟨A18, V19, c20, e21, e⟩ := bS_ok e
              refine xw_call (k := 144) (j := 2) rfl (fun F => xm_c_ok (y_c_ok rfl) F) rfl rfl rfl (sX9_emit (by omega) e21) ?_
              rintro _ _ ⟨rfl, rfl⟩
              refine xw_y hd0 1 [] rfl trivial ?_
              exact ih _ _ _ e
            · obtain ⟨h22, e⟩ := bC_ok e
              refine xw_y hd0 34 [0, 0, 1] rfl ⟨nt h6, rfl, h7, nt h8, h7, nt h15, rfl, h22, trivial⟩ ?_
              obtain ⟨A24, V25, c26, e27, e⟩ := bS_ok e
              refine xw_call (k := 144) (j := 2) rfl (fun F => xm_c_ok (y_c_ok rfl) F) rfl rfl rfl (sX9_emit (by omega) e27) ?_
              rintro _ _ ⟨rfl, rfl⟩
              refine xw_y hd0 1 [] rfl trivial ?_
              exact ih _ _ _ e
set_option maxRecDepth 20000 in
set_option maxHeartbeats 4000000 in
theorem sX9_doAll {LL : Nat} {xs : Nat → Int32} {tx : List xh_T} {d : Nat} {A V : xM} {cu : Value} {A' V' : xM} {c' : Value} {l1 : Int32} (hd : 62 ≤ d) (e : fX9_doAll l1 A V cu = some (A', V', c')) : xe (xk_ro LL xs) d 146 [.ref 132, .int l1] (xh A V tx cu) (qU (xh A' V' tx c')) := by
  obtain ⟨d, rfl⟩ : ∃ d1, d = d1 + 1 := ⟨d - 1, by omega⟩
  replace hd : 61 ≤ d := by omega
  have hd0 : 60 ≤ d := by omega
  refine xe_of (co := xk_146) (nl := 2) rfl rfl rfl ?_
  unfold fX9_doAll at e
  refine slX9_doAll_L0 hd ?_ FU _ _ _ e
  · intro z28 z29 A30 V31 c32 e
    cases e
    exact xw_yr hd0 2 [] rfl trivial ⟨rfl, rfl⟩
set_option maxRecDepth 20000 in
set_option maxHeartbeats 4000000 in
theorem sX9_await {LL : Nat} {xs : Nat → Int32} {tx : List xh_T} {d : Nat} {A V : xM} {cu : Value} {A' V' : xM} {c' : Value} {l1 : Int32} (hd : 61 ≤ d) (e : fX9_await l1 A V cu = some (A', V', c')) : xe (xk_ro LL xs) d 147 [.ref 132, .int l1] (xh A V tx cu) (qU (xh A' V' tx c')) := by
  obtain ⟨d, rfl⟩ : ∃ d1, d = d1 + 1 := ⟨d - 1, by omega⟩
  replace hd : 60 ≤ d := by omega
  have hd0 : 60 ≤ d := by omega
  refine xe_of (co := xk_147) (nl := 2) rfl rfl rfl ?_
  unfold fX9_await at e
  obtain ⟨h1, e⟩ := bC_ok e
  cases e
  exact xw_yr hd0 14 [] rfl ⟨h1, rfl, trivial⟩ ⟨rfl, rfl⟩
set_option maxRecDepth 20000 in
set_option maxHeartbeats 4000000 in
theorem sX9_between {LL : Nat} {xs : Nat → Int32} {tx : List xh_T} {d : Nat} {A V : xM} {cu : Value} {A' V' : xM} {c' : Value} {r : Int32} (hd : 63 ≤ d) (e : fX9_between A V cu = some (r, A', V', c')) : xe (xk_ro LL xs) d 148 [.ref 132] (xh A V tx cu) (qI r (xh A' V' tx c')) := by
  obtain ⟨d, rfl⟩ : ∃ d1, d = d1 + 1 := ⟨d - 1, by omega⟩
  replace hd : 62 ≤ d := by omega
  have hd0 : 60 ≤ d := by omega
  refine xe_of (co := xk_148) (nl := 2) rfl rfl rfl ?_
  unfold fX9_between at e
  rcases ite_ok e with ⟨h1, e⟩ | ⟨h1, e⟩
  · rcases ite_ok e with ⟨h2, e⟩ | ⟨h2, e⟩
    · refine xw_y hd0 22 [0, 0, 0, 0] rfl ⟨nnt h1, nnt h2, rfl, rfl, rfl, trivial⟩ ?_
      obtain ⟨x3, e4, e⟩ := bI_ok e
      refine xw_call (k := 145) (j := 1) rfl (fun F => xm_c_ok (y_c_ok rfl) F) rfl rfl rfl (sX9_rank (by omega) e4) ?_
      rintro _ _ ⟨rfl, rfl⟩
      rcases ite_ok e with ⟨h5, e⟩ | ⟨h5, e⟩
      · obtain ⟨h6, e⟩ := bC_ok e
        rcases ite_ok e with ⟨h7, e⟩ | ⟨h7, e⟩
        · refine xw_y hd0 10 [0, 1] rfl ⟨nnt h5, h6, decide_eq_true h7, trivial⟩ ?_
          obtain ⟨x8, e9, e⟩ := bI_ok e
          refine xw_call (k := 145) (j := 1) rfl (fun F => xm_c_ok (y_c_ok rfl) F) rfl rfl rfl (sX9_rank (by omega) e9) ?_
          rintro _ _ ⟨rfl, rfl⟩
          obtain ⟨A11, V12, c13, e14, e⟩ := bS_ok e
          refine xw_call (k := 146) (j := 2) rfl (fun F => xm_c_ok (y_c_ok rfl) F) rfl rfl rfl (sX9_doAll (by omega) e14) ?_
          rintro _ _ ⟨rfl, rfl⟩
          refine xw_y hd0 2 [] rfl trivial ?_
          obtain ⟨A16, V17, c18, e19, e⟩ := bS_ok e
          refine xw_call (k := 147) (j := 2) rfl (fun F => xm_c_ok (y_c_ok rfl) F) rfl rfl rfl (sX9_await (by omega) e19) ?_
          rintro _ _ ⟨rfl, rfl⟩
          refine xw_y hd0 5 [] rfl trivial ?_
          obtain ⟨x20, e21, e⟩ := bI_ok e
          refine xw_call (k := 145) (j := 1) rfl (fun F => xm_c_ok (y_c_ok rfl) F) rfl rfl rfl (sX9_rank (by omega) e21) ?_
          rintro _ _ ⟨rfl, rfl⟩
          rcases ite_ok e with ⟨h22, e⟩ | ⟨h22, e⟩
          · obtain ⟨h23, e⟩ := bC_ok e
            cases e
            exact xw_yr hd0 8 [1] rfl ⟨decide_eq_true h22, h23, rfl, trivial⟩ ⟨rfl, rfl⟩
          · refine xw_y hd0 3 [0] rfl ⟨nt h22, trivial⟩ ?_
            obtain ⟨x24, e25, e⟩ := bI_ok e
            refine xw_call (k := 145) (j := 1) rfl (fun F => xm_c_ok (y_c_ok rfl) F) rfl rfl rfl (sX9_rank (by omega) e25) ?_
            rintro _ _ ⟨rfl, rfl⟩
            rcases ite_ok e with ⟨h26, e⟩ | ⟨h26, e⟩
            · obtain ⟨h27, e⟩ := bC_ok e
              cases e
              exact xw_yr hd0 7 [1] rfl ⟨decide_eq_true h26, h27, rfl, trivial⟩ ⟨rfl, rfl⟩
            · obtain ⟨h28, e⟩ := bC_ok e
              rcases ite_ok e with ⟨h29, e⟩ | ⟨h29, e⟩
              · cases e
                exact xw_yr hd0 13 [0, 1] rfl ⟨nt h26, h28, decide_eq_true h29, h28, rfl, trivial⟩ ⟨rfl, rfl⟩
              · cases e
                exact xw_yr hd0 14 [0, 0] rfl ⟨nt h26, h28, nt h29, h28, rfl, trivial⟩ ⟨rfl, rfl⟩
        · cases e
          exact xw_yr hd0 11 [0, 0] rfl ⟨nnt h5, h6, nt h7, rfl, trivial⟩ ⟨rfl, rfl⟩
      · refine xw_y hd0 4 [1] rfl ⟨nt h5, trivial⟩ ?_
        obtain ⟨x30, e31, e⟩ := bI_ok e
        refine xw_call (k := 145) (j := 1) rfl (fun F => xm_c_ok (y_c_ok rfl) F) rfl rfl rfl (sX9_rank (by omega) e31) ?_
        rintro _ _ ⟨rfl, rfl⟩
        obtain ⟨A33, V34, c35, e36, e⟩ := bS_ok e
        refine xw_call (k := 146) (j := 2) rfl (fun F => xm_c_ok (y_c_ok rfl) F) rfl rfl rfl (sX9_doAll (by omega) e36) ?_
        rintro _ _ ⟨rfl, rfl⟩
        refine xw_y hd0 2 [] rfl trivial ?_
        obtain ⟨A38, V39, c40, e41, e⟩ := bS_ok e
        refine xw_call (k := 147) (j := 2) rfl (fun F => xm_c_ok (y_c_ok rfl) F) rfl rfl rfl (sX9_await (by omega) e41) ?_
        rintro _ _ ⟨rfl, rfl⟩
        refine xw_y hd0 5 [] rfl trivial ?_
        obtain ⟨x42, e43, e⟩ := bI_ok e
        refine xw_call (k := 145) (j := 1) rfl (fun F => xm_c_ok (y_c_ok rfl) F) rfl rfl rfl (sX9_rank (by omega) e43) ?_
        rintro _ _ ⟨rfl, rfl⟩
        rcases ite_ok e with ⟨h44, e⟩ | ⟨h44, e⟩
        · obtain ⟨h45, e⟩ := bC_ok e
          cases e
          exact xw_yr hd0 8 [1] rfl ⟨decide_eq_true h44, h45, rfl, trivial⟩ ⟨rfl, rfl⟩
        · refine xw_y hd0 3 [0] rfl ⟨nt h44, trivial⟩ ?_
          obtain ⟨x46, e47, e⟩ := bI_ok e
          refine xw_call (k := 145) (j := 1) rfl (fun F => xm_c_ok (y_c_ok rfl) F) rfl rfl rfl (sX9_rank (by omega) e47) ?_
          rintro _ _ ⟨rfl, rfl⟩
          rcases ite_ok e with ⟨h48, e⟩ | ⟨h48, e⟩
          · obtain ⟨h49, e⟩ := bC_ok e
            cases e
            exact xw_yr hd0 7 [1] rfl ⟨decide_eq_true h48, h49, rfl, trivial⟩ ⟨rfl, rfl⟩
          · obtain ⟨h50, e⟩ := bC_ok e
            rcases ite_ok e with ⟨h51, e⟩ | ⟨h51, e⟩
            · cases e
              exact xw_yr hd0 13 [0, 1] rfl ⟨nt h48, h50, decide_eq_true h51, h50, rfl, trivial⟩ ⟨rfl, rfl⟩
            · cases e
              exact xw_yr hd0 14 [0, 0] rfl ⟨nt h48, h50, nt h51, h50, rfl, trivial⟩ ⟨rfl, rfl⟩
    · rcases ite_ok e with ⟨h52, e⟩ | ⟨h52, e⟩
      · refine xw_y hd0 36 [0, 1, 1, 0, 0, 0, 0] rfl ⟨nnt h1, nt h2, rfl, rfl, nnt h1, nnt h52, rfl, rfl, rfl, trivial⟩ ?_
        obtain ⟨x53, e54, e⟩ := bI_ok e
        refine xw_call (k := 145) (j := 1) rfl (fun F => xm_c_ok (y_c_ok rfl) F) rfl rfl rfl (sX9_rank (by omega) e54) ?_
        rintro _ _ ⟨rfl, rfl⟩
        rcases ite_ok e with ⟨h55, e⟩ | ⟨h55, e⟩
        · obtain ⟨h56, e⟩ := bC_ok e
          rcases ite_ok e with ⟨h57, e⟩ | ⟨h57, e⟩
          · refine xw_y hd0 10 [0, 1] rfl ⟨nnt h55, h56, decide_eq_true h57, trivial⟩ ?_
            obtain ⟨x58, e59, e⟩ := bI_ok e
            refine xw_call (k := 145) (j := 1) rfl (fun F => xm_c_ok (y_c_ok rfl) F) rfl rfl rfl (sX9_rank (by omega) e59) ?_
            rintro _ _ ⟨rfl, rfl⟩
            obtain ⟨A61, V62, c63, e64, e⟩ := bS_ok e
            refine xw_call (k := 146) (j := 2) rfl (fun F => xm_c_ok (y_c_ok rfl) F) rfl rfl rfl (sX9_doAll (by omega) e64) ?_
            rintro _ _ ⟨rfl, rfl⟩
            refine xw_y hd0 2 [] rfl trivial ?_
            obtain ⟨A66, V67, c68, e69, e⟩ := bS_ok e
            refine xw_call (k := 147) (j := 2) rfl (fun F => xm_c_ok (y_c_ok rfl) F) rfl rfl rfl (sX9_await (by omega) e69) ?_
            rintro _ _ ⟨rfl, rfl⟩
            refine xw_y hd0 5 [] rfl trivial ?_
            obtain ⟨x70, e71, e⟩ := bI_ok e
            refine xw_call (k := 145) (j := 1) rfl (fun F => xm_c_ok (y_c_ok rfl) F) rfl rfl rfl (sX9_rank (by omega) e71) ?_
            rintro _ _ ⟨rfl, rfl⟩
            rcases ite_ok e with ⟨h72, e⟩ | ⟨h72, e⟩
            · obtain ⟨h73, e⟩ := bC_ok e
              cases e
              exact xw_yr hd0 8 [1] rfl ⟨decide_eq_true h72, h73, rfl, trivial⟩ ⟨rfl, rfl⟩
            · refine xw_y hd0 3 [0] rfl ⟨nt h72, trivial⟩ ?_
              obtain ⟨x74, e75, e⟩ := bI_ok e
              refine xw_call (k := 145) (j := 1) rfl (fun F => xm_c_ok (y_c_ok rfl) F) rfl rfl rfl (sX9_rank (by omega) e75) ?_
              rintro _ _ ⟨rfl, rfl⟩
              rcases ite_ok e with ⟨h76, e⟩ | ⟨h76, e⟩
              · obtain ⟨h77, e⟩ := bC_ok e
                cases e
                exact xw_yr hd0 7 [1] rfl ⟨decide_eq_true h76, h77, rfl, trivial⟩ ⟨rfl, rfl⟩
              · obtain ⟨h78, e⟩ := bC_ok e
                rcases ite_ok e with ⟨h79, e⟩ | ⟨h79, e⟩
                · cases e
                  exact xw_yr hd0 13 [0, 1] rfl ⟨nt h76, h78, decide_eq_true h79, h78, rfl, trivial⟩ ⟨rfl, rfl⟩
                · cases e
                  exact xw_yr hd0 14 [0, 0] rfl ⟨nt h76, h78, nt h79, h78, rfl, trivial⟩ ⟨rfl, rfl⟩
          · cases e
            exact xw_yr hd0 11 [0, 0] rfl ⟨nnt h55, h56, nt h57, rfl, trivial⟩ ⟨rfl, rfl⟩
        · refine xw_y hd0 4 [1] rfl ⟨nt h55, trivial⟩ ?_
          obtain ⟨x80, e81, e⟩ := bI_ok e
          refine xw_call (k := 145) (j := 1) rfl (fun F => xm_c_ok (y_c_ok rfl) F) rfl rfl rfl (sX9_rank (by omega) e81) ?_
          rintro _ _ ⟨rfl, rfl⟩
          obtain ⟨A83, V84, c85, e86, e⟩ := bS_ok e
          refine xw_call (k := 146) (j := 2) rfl (fun F => xm_c_ok (y_c_ok rfl) F) rfl rfl rfl (sX9_doAll (by omega) e86) ?_
          rintro _ _ ⟨rfl, rfl⟩
          refine xw_y hd0 2 [] rfl trivial ?_
          obtain ⟨A88, V89, c90, e91, e⟩ := bS_ok e
          refine xw_call (k := 147) (j := 2) rfl (fun F => xm_c_ok (y_c_ok rfl) F) rfl rfl rfl (sX9_await (by omega) e91) ?_
          rintro _ _ ⟨rfl, rfl⟩
          refine xw_y hd0 5 [] rfl trivial ?_
          obtain ⟨x92, e93, e⟩ := bI_ok e
          refine xw_call (k := 145) (j := 1) rfl (fun F => xm_c_ok (y_c_ok rfl) F) rfl rfl rfl (sX9_rank (by omega) e93) ?_
          rintro _ _ ⟨rfl, rfl⟩
          rcases ite_ok e with ⟨h94, e⟩ | ⟨h94, e⟩
          · obtain ⟨h95, e⟩ := bC_ok e
            cases e
            exact xw_yr hd0 8 [1] rfl ⟨decide_eq_true h94, h95, rfl, trivial⟩ ⟨rfl, rfl⟩
          · refine xw_y hd0 3 [0] rfl ⟨nt h94, trivial⟩ ?_
            obtain ⟨x96, e97, e⟩ := bI_ok e
            refine xw_call (k := 145) (j := 1) rfl (fun F => xm_c_ok (y_c_ok rfl) F) rfl rfl rfl (sX9_rank (by omega) e97) ?_
            rintro _ _ ⟨rfl, rfl⟩
            rcases ite_ok e with ⟨h98, e⟩ | ⟨h98, e⟩
            · obtain ⟨h99, e⟩ := bC_ok e
              cases e
              exact xw_yr hd0 7 [1] rfl ⟨decide_eq_true h98, h99, rfl, trivial⟩ ⟨rfl, rfl⟩
            · obtain ⟨h100, e⟩ := bC_ok e
              rcases ite_ok e with ⟨h101, e⟩ | ⟨h101, e⟩
              · cases e
                exact xw_yr hd0 13 [0, 1] rfl ⟨nt h98, h100, decide_eq_true h101, h100, rfl, trivial⟩ ⟨rfl, rfl⟩
              · cases e
                exact xw_yr hd0 14 [0, 0] rfl ⟨nt h98, h100, nt h101, h100, rfl, trivial⟩ ⟨rfl, rfl⟩
      · rcases ite_ok e with ⟨h102, e⟩ | ⟨h102, e⟩
        · refine xw_y hd0 50 [0, 1, 1, 0, 1, 1, 0, 0, 0, 0] rfl ⟨nnt h1, nt h2, rfl, rfl, nnt h1, nt h52, rfl, rfl, nnt h1, nnt h102, rfl, rfl, rfl, trivial⟩ ?_
          obtain ⟨x103, e104, e⟩ := bI_ok e
          refine xw_call (k := 145) (j := 1) rfl (fun F => xm_c_ok (y_c_ok rfl) F) rfl rfl rfl (sX9_rank (by omega) e104) ?_
          rintro _ _ ⟨rfl, rfl⟩
          rcases ite_ok e with ⟨h105, e⟩ | ⟨h105, e⟩
          · obtain ⟨h106, e⟩ := bC_ok e
            rcases ite_ok e with ⟨h107, e⟩ | ⟨h107, e⟩
            · refine xw_y hd0 10 [0, 1] rfl ⟨nnt h105, h106, decide_eq_true h107, trivial⟩ ?_
              obtain ⟨x108, e109, e⟩ := bI_ok e
              refine xw_call (k := 145) (j := 1) rfl (fun F => xm_c_ok (y_c_ok rfl) F) rfl rfl rfl (sX9_rank (by omega) e109) ?_
              rintro _ _ ⟨rfl, rfl⟩
              obtain ⟨A111, V112, c113, e114, e⟩ := bS_ok e
              refine xw_call (k := 146) (j := 2) rfl (fun F => xm_c_ok (y_c_ok rfl) F) rfl rfl rfl (sX9_doAll (by omega) e114) ?_
              rintro _ _ ⟨rfl, rfl⟩
              refine xw_y hd0 2 [] rfl trivial ?_
              obtain ⟨A116, V117, c118, e119, e⟩ := bS_ok e
              refine xw_call (k := 147) (j := 2) rfl (fun F => xm_c_ok (y_c_ok rfl) F) rfl rfl rfl (sX9_await (by omega) e119) ?_
              rintro _ _ ⟨rfl, rfl⟩
              refine xw_y hd0 5 [] rfl trivial ?_
              obtain ⟨x120, e121, e⟩ := bI_ok e
              refine xw_call (k := 145) (j := 1) rfl (fun F => xm_c_ok (y_c_ok rfl) F) rfl rfl rfl (sX9_rank (by omega) e121) ?_
              rintro _ _ ⟨rfl, rfl⟩
              rcases ite_ok e with ⟨h122, e⟩ | ⟨h122, e⟩
              · obtain ⟨h123, e⟩ := bC_ok e
                cases e
                exact xw_yr hd0 8 [1] rfl ⟨decide_eq_true h122, h123, rfl, trivial⟩ ⟨rfl, rfl⟩
              · refine xw_y hd0 3 [0] rfl ⟨nt h122, trivial⟩ ?_
                obtain ⟨x124, e125, e⟩ := bI_ok e
                refine xw_call (k := 145) (j := 1) rfl (fun F => xm_c_ok (y_c_ok rfl) F) rfl rfl rfl (sX9_rank (by omega) e125) ?_
                rintro _ _ ⟨rfl, rfl⟩
                rcases ite_ok e with ⟨h126, e⟩ | ⟨h126, e⟩
                · obtain ⟨h127, e⟩ := bC_ok e
                  cases e
                  exact xw_yr hd0 7 [1] rfl ⟨decide_eq_true h126, h127, rfl, trivial⟩ ⟨rfl, rfl⟩
                · obtain ⟨h128, e⟩ := bC_ok e
                  rcases ite_ok e with ⟨h129, e⟩ | ⟨h129, e⟩
                  · cases e
                    exact xw_yr hd0 13 [0, 1] rfl ⟨nt h126, h128, decide_eq_true h129, h128, rfl, trivial⟩ ⟨rfl, rfl⟩
                  · cases e
                    exact xw_yr hd0 14 [0, 0] rfl ⟨nt h126, h128, nt h129, h128, rfl, trivial⟩ ⟨rfl, rfl⟩
            · cases e
              exact xw_yr hd0 11 [0, 0] rfl ⟨nnt h105, h106, nt h107, rfl, trivial⟩ ⟨rfl, rfl⟩
          · refine xw_y hd0 4 [1] rfl ⟨nt h105, trivial⟩ ?_
            obtain ⟨x130, e131, e⟩ := bI_ok e
            refine xw_call (k := 145) (j := 1) rfl (fun F => xm_c_ok (y_c_ok rfl) F) rfl rfl rfl (sX9_rank (by omega) e131) ?_
            rintro _ _ ⟨rfl, rfl⟩
            obtain ⟨A133, V134, c135, e136, e⟩ := bS_ok e
            refine xw_call (k := 146) (j := 2) rfl (fun F => xm_c_ok (y_c_ok rfl) F) rfl rfl rfl (sX9_doAll (by omega) e136) ?_
            rintro _ _ ⟨rfl, rfl⟩
            refine xw_y hd0 2 [] rfl trivial ?_
            obtain ⟨A138, V139, c140, e141, e⟩ := bS_ok e
            refine xw_call (k := 147) (j := 2) rfl (fun F => xm_c_ok (y_c_ok rfl) F) rfl rfl rfl (sX9_await (by omega) e141) ?_
            rintro _ _ ⟨rfl, rfl⟩
            refine xw_y hd0 5 [] rfl trivial ?_
            obtain ⟨x142, e143, e⟩ := bI_ok e
            refine xw_call (k := 145) (j := 1) rfl (fun F => xm_c_ok (y_c_ok rfl) F) rfl rfl rfl (sX9_rank (by omega) e143) ?_
            rintro _ _ ⟨rfl, rfl⟩
            rcases ite_ok e with ⟨h144, e⟩ | ⟨h144, e⟩
            · obtain ⟨h145, e⟩ := bC_ok e
              cases e
              exact xw_yr hd0 8 [1] rfl ⟨decide_eq_true h144, h145, rfl, trivial⟩ ⟨rfl, rfl⟩
            · refine xw_y hd0 3 [0] rfl ⟨nt h144, trivial⟩ ?_
              obtain ⟨x146, e147, e⟩ := bI_ok e
              refine xw_call (k := 145) (j := 1) rfl (fun F => xm_c_ok (y_c_ok rfl) F) rfl rfl rfl (sX9_rank (by omega) e147) ?_
              rintro _ _ ⟨rfl, rfl⟩
              rcases ite_ok e with ⟨h148, e⟩ | ⟨h148, e⟩
              · obtain ⟨h149, e⟩ := bC_ok e
                cases e
                exact xw_yr hd0 7 [1] rfl ⟨decide_eq_true h148, h149, rfl, trivial⟩ ⟨rfl, rfl⟩
              · obtain ⟨h150, e⟩ := bC_ok e
                rcases ite_ok e with ⟨h151, e⟩ | ⟨h151, e⟩
                · cases e
                  exact xw_yr hd0 13 [0, 1] rfl ⟨nt h148, h150, decide_eq_true h151, h150, rfl, trivial⟩ ⟨rfl, rfl⟩
                · cases e
                  exact xw_yr hd0 14 [0, 0] rfl ⟨nt h148, h150, nt h151, h150, rfl, trivial⟩ ⟨rfl, rfl⟩
        · rcases ite_ok e with ⟨h152, e⟩ | ⟨h152, e⟩
          · refine xw_y hd0 64 [0, 1, 1, 0, 1, 1, 0, 1, 1, 0, 0, 0, 0] rfl ⟨nnt h1, nt h2, rfl, rfl, nnt h1, nt h52, rfl, rfl, nnt h1, nt h102, rfl, rfl, nnt h1, nnt h152, rfl, rfl, rfl, trivial⟩ ?_
            obtain ⟨x153, e154, e⟩ := bI_ok e
            refine xw_call (k := 145) (j := 1) rfl (fun F => xm_c_ok (y_c_ok rfl) F) rfl rfl rfl (sX9_rank (by omega) e154) ?_
            rintro _ _ ⟨rfl, rfl⟩
            rcases ite_ok e with ⟨h155, e⟩ | ⟨h155, e⟩
            · obtain ⟨h156, e⟩ := bC_ok e
              rcases ite_ok e with ⟨h157, e⟩ | ⟨h157, e⟩
              · refine xw_y hd0 10 [0, 1] rfl ⟨nnt h155, h156, decide_eq_true h157, trivial⟩ ?_
                obtain ⟨x158, e159, e⟩ := bI_ok e
                refine xw_call (k := 145) (j := 1) rfl (fun F => xm_c_ok (y_c_ok rfl) F) rfl rfl rfl (sX9_rank (by omega) e159) ?_
                rintro _ _ ⟨rfl, rfl⟩
                obtain ⟨A161, V162, c163, e164, e⟩ := bS_ok e
                refine xw_call (k := 146) (j := 2) rfl (fun F => xm_c_ok (y_c_ok rfl) F) rfl rfl rfl (sX9_doAll (by omega) e164) ?_
                rintro _ _ ⟨rfl, rfl⟩
                refine xw_y hd0 2 [] rfl trivial ?_
                obtain ⟨A166, V167, c168, e169, e⟩ := bS_ok e
                refine xw_call (k := 147) (j := 2) rfl (fun F => xm_c_ok (y_c_ok rfl) F) rfl rfl rfl (sX9_await (by omega) e169) ?_
                rintro _ _ ⟨rfl, rfl⟩
                refine xw_y hd0 5 [] rfl trivial ?_
                obtain ⟨x170, e171, e⟩ := bI_ok e
                refine xw_call (k := 145) (j := 1) rfl (fun F => xm_c_ok (y_c_ok rfl) F) rfl rfl rfl (sX9_rank (by omega) e171) ?_
                rintro _ _ ⟨rfl, rfl⟩
                rcases ite_ok e with ⟨h172, e⟩ | ⟨h172, e⟩
                · obtain ⟨h173, e⟩ := bC_ok e
                  cases e
                  exact xw_yr hd0 8 [1] rfl ⟨decide_eq_true h172, h173, rfl, trivial⟩ ⟨rfl, rfl⟩
                · refine xw_y hd0 3 [0] rfl ⟨nt h172, trivial⟩ ?_
                  obtain ⟨x174, e175, e⟩ := bI_ok e
                  refine xw_call (k := 145) (j := 1) rfl (fun F => xm_c_ok (y_c_ok rfl) F) rfl rfl rfl (sX9_rank (by omega) e175) ?_
                  rintro _ _ ⟨rfl, rfl⟩
                  rcases ite_ok e with ⟨h176, e⟩ | ⟨h176, e⟩
                  · obtain ⟨h177, e⟩ := bC_ok e
                    cases e
                    exact xw_yr hd0 7 [1] rfl ⟨decide_eq_true h176, h177, rfl, trivial⟩ ⟨rfl, rfl⟩
                  · obtain ⟨h178, e⟩ := bC_ok e
                    rcases ite_ok e with ⟨h179, e⟩ | ⟨h179, e⟩
                    · cases e
                      exact xw_yr hd0 13 [0, 1] rfl ⟨nt h176, h178, decide_eq_true h179, h178, rfl, trivial⟩ ⟨rfl, rfl⟩
                    · cases e
                      exact xw_yr hd0 14 [0, 0] rfl ⟨nt h176, h178, nt h179, h178, rfl, trivial⟩ ⟨rfl, rfl⟩
              · cases e
                exact xw_yr hd0 11 [0, 0] rfl ⟨nnt h155, h156, nt h157, rfl, trivial⟩ ⟨rfl, rfl⟩
            · refine xw_y hd0 4 [1] rfl ⟨nt h155, trivial⟩ ?_
              obtain ⟨x180, e181, e⟩ := bI_ok e
              refine xw_call (k := 145) (j := 1) rfl (fun F => xm_c_ok (y_c_ok rfl) F) rfl rfl rfl (sX9_rank (by omega) e181) ?_
              rintro _ _ ⟨rfl, rfl⟩
              obtain ⟨A183, V184, c185, e186, e⟩ := bS_ok e
              refine xw_call (k := 146) (j := 2) rfl (fun F => xm_c_ok (y_c_ok rfl) F) rfl rfl rfl (sX9_doAll (by omega) e186) ?_
              rintro _ _ ⟨rfl, rfl⟩
              refine xw_y hd0 2 [] rfl trivial ?_
              obtain ⟨A188, V189, c190, e191, e⟩ := bS_ok e
              refine xw_call (k := 147) (j := 2) rfl (fun F => xm_c_ok (y_c_ok rfl) F) rfl rfl rfl (sX9_await (by omega) e191) ?_
              rintro _ _ ⟨rfl, rfl⟩
              refine xw_y hd0 5 [] rfl trivial ?_
              obtain ⟨x192, e193, e⟩ := bI_ok e
              refine xw_call (k := 145) (j := 1) rfl (fun F => xm_c_ok (y_c_ok rfl) F) rfl rfl rfl (sX9_rank (by omega) e193) ?_
              rintro _ _ ⟨rfl, rfl⟩
              rcases ite_ok e with ⟨h194, e⟩ | ⟨h194, e⟩
              · obtain ⟨h195, e⟩ := bC_ok e
                cases e
                exact xw_yr hd0 8 [1] rfl ⟨decide_eq_true h194, h195, rfl, trivial⟩ ⟨rfl, rfl⟩
              · refine xw_y hd0 3 [0] rfl ⟨nt h194, trivial⟩ ?_
                obtain ⟨x196, e197, e⟩ := bI_ok e
                refine xw_call (k := 145) (j := 1) rfl (fun F => xm_c_ok (y_c_ok rfl) F) rfl rfl rfl (sX9_rank (by omega) e197) ?_
                rintro _ _ ⟨rfl, rfl⟩
                rcases ite_ok e with ⟨h198, e⟩ | ⟨h198, e⟩
                · obtain ⟨h199, e⟩ := bC_ok e
                  cases e
                  exact xw_yr hd0 7 [1] rfl ⟨decide_eq_true h198, h199, rfl, trivial⟩ ⟨rfl, rfl⟩
                · obtain ⟨h200, e⟩ := bC_ok e
                  rcases ite_ok e with ⟨h201, e⟩ | ⟨h201, e⟩
                  · cases e
                    exact xw_yr hd0 13 [0, 1] rfl ⟨nt h198, h200, decide_eq_true h201, h200, rfl, trivial⟩ ⟨rfl, rfl⟩
                  · cases e
                    exact xw_yr hd0 14 [0, 0] rfl ⟨nt h198, h200, nt h201, h200, rfl, trivial⟩ ⟨rfl, rfl⟩
          · rcases ite_ok e with ⟨h202, e⟩ | ⟨h202, e⟩
            · refine xw_y hd0 78 [0, 1, 1, 0, 1, 1, 0, 1, 1, 0, 1, 1, 0, 0, 0, 0] rfl ⟨nnt h1, nt h2, rfl, rfl, nnt h1, nt h52, rfl, rfl, nnt h1, nt h102, rfl, rfl, nnt h1, nt h152, rfl, rfl, nnt h1, nnt h202, rfl, rfl, rfl, trivial⟩ ?_
              obtain ⟨x203, e204, e⟩ := bI_ok e
              refine xw_call (k := 145) (j := 1) rfl (fun F => xm_c_ok (y_c_ok rfl) F) rfl rfl rfl (sX9_rank (by omega) e204) ?_
              rintro _ _ ⟨rfl, rfl⟩
              rcases ite_ok e with ⟨h205, e⟩ | ⟨h205, e⟩
              · obtain ⟨h206, e⟩ := bC_ok e
                rcases ite_ok e with ⟨h207, e⟩ | ⟨h207, e⟩
                · refine xw_y hd0 10 [0, 1] rfl ⟨nnt h205, h206, decide_eq_true h207, trivial⟩ ?_
                  obtain ⟨x208, e209, e⟩ := bI_ok e
                  refine xw_call (k := 145) (j := 1) rfl (fun F => xm_c_ok (y_c_ok rfl) F) rfl rfl rfl (sX9_rank (by omega) e209) ?_
                  rintro _ _ ⟨rfl, rfl⟩
                  obtain ⟨A211, V212, c213, e214, e⟩ := bS_ok e
                  refine xw_call (k := 146) (j := 2) rfl (fun F => xm_c_ok (y_c_ok rfl) F) rfl rfl rfl (sX9_doAll (by omega) e214) ?_
                  rintro _ _ ⟨rfl, rfl⟩
                  refine xw_y hd0 2 [] rfl trivial ?_
                  obtain ⟨A216, V217, c218, e219, e⟩ := bS_ok e
                  refine xw_call (k := 147) (j := 2) rfl (fun F => xm_c_ok (y_c_ok rfl) F) rfl rfl rfl (sX9_await (by omega) e219) ?_
                  rintro _ _ ⟨rfl, rfl⟩
                  refine xw_y hd0 5 [] rfl trivial ?_
                  obtain ⟨x220, e221, e⟩ := bI_ok e
                  refine xw_call (k := 145) (j := 1) rfl (fun F => xm_c_ok (y_c_ok rfl) F) rfl rfl rfl (sX9_rank (by omega) e221) ?_
                  rintro _ _ ⟨rfl, rfl⟩
                  rcases ite_ok e with ⟨h222, e⟩ | ⟨h222, e⟩
                  · obtain ⟨h223, e⟩ := bC_ok e
                    cases e
                    exact xw_yr hd0 8 [1] rfl ⟨decide_eq_true h222, h223, rfl, trivial⟩ ⟨rfl, rfl⟩
                  · refine xw_y hd0 3 [0] rfl ⟨nt h222, trivial⟩ ?_
                    obtain ⟨x224, e225, e⟩ := bI_ok e
                    refine xw_call (k := 145) (j := 1) rfl (fun F => xm_c_ok (y_c_ok rfl) F) rfl rfl rfl (sX9_rank (by omega) e225) ?_
                    rintro _ _ ⟨rfl, rfl⟩
                    rcases ite_ok e with ⟨h226, e⟩ | ⟨h226, e⟩
                    · obtain ⟨h227, e⟩ := bC_ok e
                      cases e
                      exact xw_yr hd0 7 [1] rfl ⟨decide_eq_true h226, h227, rfl, trivial⟩ ⟨rfl, rfl⟩
                    · obtain ⟨h228, e⟩ := bC_ok e
                      rcases ite_ok e with ⟨h229, e⟩ | ⟨h229, e⟩
                      · cases e
                        exact xw_yr hd0 13 [0, 1] rfl ⟨nt h226, h228, decide_eq_true h229, h228, rfl, trivial⟩ ⟨rfl, rfl⟩
                      · cases e
                        exact xw_yr hd0 14 [0, 0] rfl ⟨nt h226, h228, nt h229, h228, rfl, trivial⟩ ⟨rfl, rfl⟩
                · cases e
                  exact xw_yr hd0 11 [0, 0] rfl ⟨nnt h205, h206, nt h207, rfl, trivial⟩ ⟨rfl, rfl⟩
              · refine xw_y hd0 4 [1] rfl ⟨nt h205, trivial⟩ ?_
                obtain ⟨x230, e231, e⟩ := bI_ok e
                refine xw_call (k := 145) (j := 1) rfl (fun F => xm_c_ok (y_c_ok rfl) F) rfl rfl rfl (sX9_rank (by omega) e231) ?_
                rintro _ _ ⟨rfl, rfl⟩
                obtain ⟨A233, V234, c235, e236, e⟩ := bS_ok e
                refine xw_call (k := 146) (j := 2) rfl (fun F => xm_c_ok (y_c_ok rfl) F) rfl rfl rfl (sX9_doAll (by omega) e236) ?_
                rintro _ _ ⟨rfl, rfl⟩
                refine xw_y hd0 2 [] rfl trivial ?_
                obtain ⟨A238, V239, c240, e241, e⟩ := bS_ok e
                refine xw_call (k := 147) (j := 2) rfl (fun F => xm_c_ok (y_c_ok rfl) F) rfl rfl rfl (sX9_await (by omega) e241) ?_
                rintro _ _ ⟨rfl, rfl⟩
                refine xw_y hd0 5 [] rfl trivial ?_
                obtain ⟨x242, e243, e⟩ := bI_ok e
                refine xw_call (k := 145) (j := 1) rfl (fun F => xm_c_ok (y_c_ok rfl) F) rfl rfl rfl (sX9_rank (by omega) e243) ?_
                rintro _ _ ⟨rfl, rfl⟩
                rcases ite_ok e with ⟨h244, e⟩ | ⟨h244, e⟩
                · obtain ⟨h245, e⟩ := bC_ok e
                  cases e
                  exact xw_yr hd0 8 [1] rfl ⟨decide_eq_true h244, h245, rfl, trivial⟩ ⟨rfl, rfl⟩
                · refine xw_y hd0 3 [0] rfl ⟨nt h244, trivial⟩ ?_
                  obtain ⟨x246, e247, e⟩ := bI_ok e
                  refine xw_call (k := 145) (j := 1) rfl (fun F => xm_c_ok (y_c_ok rfl) F) rfl rfl rfl (sX9_rank (by omega) e247) ?_
                  rintro _ _ ⟨rfl, rfl⟩
                  rcases ite_ok e with ⟨h248, e⟩ | ⟨h248, e⟩
                  · obtain ⟨h249, e⟩ := bC_ok e
                    cases e
                    exact xw_yr hd0 7 [1] rfl ⟨decide_eq_true h248, h249, rfl, trivial⟩ ⟨rfl, rfl⟩
                  · obtain ⟨h250, e⟩ := bC_ok e
                    rcases ite_ok e with ⟨h251, e⟩ | ⟨h251, e⟩
                    · cases e
                      exact xw_yr hd0 13 [0, 1] rfl ⟨nt h248, h250, decide_eq_true h251, h250, rfl, trivial⟩ ⟨rfl, rfl⟩
                    · cases e
                      exact xw_yr hd0 14 [0, 0] rfl ⟨nt h248, h250, nt h251, h250, rfl, trivial⟩ ⟨rfl, rfl⟩
            · rcases ite_ok e with ⟨h252, e⟩ | ⟨h252, e⟩
              · rcases ite_ok e with ⟨h253, e⟩ | ⟨h253, e⟩
                · refine xw_y hd0 92 [0, 1, 1, 0, 1, 1, 0, 1, 1, 0, 1, 1, 0, 1, 1, 0, 0, 0, 0] rfl ⟨nnt h1, nt h2, rfl, rfl, nnt h1, nt h52, rfl, rfl, nnt h1, nt h102, rfl, rfl, nnt h1, nt h152, rfl, rfl, nnt h1, nt h202, rfl, rfl, nnt h252, nnt h253, rfl, rfl, rfl, trivial⟩ ?_
                  obtain ⟨x254, e255, e⟩ := bI_ok e
                  refine xw_call (k := 145) (j := 1) rfl (fun F => xm_c_ok (y_c_ok rfl) F) rfl rfl rfl (sX9_rank (by omega) e255) ?_
                  rintro _ _ ⟨rfl, rfl⟩
                  rcases ite_ok e with ⟨h256, e⟩ | ⟨h256, e⟩
                  · obtain ⟨h257, e⟩ := bC_ok e
                    rcases ite_ok e with ⟨h258, e⟩ | ⟨h258, e⟩
                    · refine xw_y hd0 10 [0, 1] rfl ⟨nnt h256, h257, decide_eq_true h258, trivial⟩ ?_
                      obtain ⟨x259, e260, e⟩ := bI_ok e
                      refine xw_call (k := 145) (j := 1) rfl (fun F => xm_c_ok (y_c_ok rfl) F) rfl rfl rfl (sX9_rank (by omega) e260) ?_
                      rintro _ _ ⟨rfl, rfl⟩
                      obtain ⟨A262, V263, c264, e265, e⟩ := bS_ok e
                      refine xw_call (k := 146) (j := 2) rfl (fun F => xm_c_ok (y_c_ok rfl) F) rfl rfl rfl (sX9_doAll (by omega) e265) ?_
                      rintro _ _ ⟨rfl, rfl⟩
                      refine xw_y hd0 2 [] rfl trivial ?_
                      obtain ⟨A267, V268, c269, e270, e⟩ := bS_ok e
                      refine xw_call (k := 147) (j := 2) rfl (fun F => xm_c_ok (y_c_ok rfl) F) rfl rfl rfl (sX9_await (by omega) e270) ?_
                      rintro _ _ ⟨rfl, rfl⟩
                      refine xw_y hd0 5 [] rfl trivial ?_
                      obtain ⟨x271, e272, e⟩ := bI_ok e
                      refine xw_call (k := 145) (j := 1) rfl (fun F => xm_c_ok (y_c_ok rfl) F) rfl rfl rfl (sX9_rank (by omega) e272) ?_
                      rintro _ _ ⟨rfl, rfl⟩
                      rcases ite_ok e with ⟨h273, e⟩ | ⟨h273, e⟩
                      · obtain ⟨h274, e⟩ := bC_ok e
                        cases e
                        exact xw_yr hd0 8 [1] rfl ⟨decide_eq_true h273, h274, rfl, trivial⟩ ⟨rfl, rfl⟩
                      · refine xw_y hd0 3 [0] rfl ⟨nt h273, trivial⟩ ?_
                        obtain ⟨x275, e276, e⟩ := bI_ok e
                        refine xw_call (k := 145) (j := 1) rfl (fun F => xm_c_ok (y_c_ok rfl) F) rfl rfl rfl (sX9_rank (by omega) e276) ?_
                        rintro _ _ ⟨rfl, rfl⟩
                        rcases ite_ok e with ⟨h277, e⟩ | ⟨h277, e⟩
                        · obtain ⟨h278, e⟩ := bC_ok e
                          cases e
                          exact xw_yr hd0 7 [1] rfl ⟨decide_eq_true h277, h278, rfl, trivial⟩ ⟨rfl, rfl⟩
                        · obtain ⟨h279, e⟩ := bC_ok e
                          rcases ite_ok e with ⟨h280, e⟩ | ⟨h280, e⟩
                          · cases e
                            exact xw_yr hd0 13 [0, 1] rfl ⟨nt h277, h279, decide_eq_true h280, h279, rfl, trivial⟩ ⟨rfl, rfl⟩
                          · cases e
                            exact xw_yr hd0 14 [0, 0] rfl ⟨nt h277, h279, nt h280, h279, rfl, trivial⟩ ⟨rfl, rfl⟩
                    · cases e
                      exact xw_yr hd0 11 [0, 0] rfl ⟨nnt h256, h257, nt h258, rfl, trivial⟩ ⟨rfl, rfl⟩
                  · refine xw_y hd0 4 [1] rfl ⟨nt h256, trivial⟩ ?_
                    obtain ⟨x281, e282, e⟩ := bI_ok e
                    refine xw_call (k := 145) (j := 1) rfl (fun F => xm_c_ok (y_c_ok rfl) F) rfl rfl rfl (sX9_rank (by omega) e282) ?_
                    rintro _ _ ⟨rfl, rfl⟩
                    obtain ⟨A284, V285, c286, e287, e⟩ := bS_ok e
                    refine xw_call (k := 146) (j := 2) rfl (fun F => xm_c_ok (y_c_ok rfl) F) rfl rfl rfl (sX9_doAll (by omega) e287) ?_
                    rintro _ _ ⟨rfl, rfl⟩
                    refine xw_y hd0 2 [] rfl trivial ?_
                    obtain ⟨A289, V290, c291, e292, e⟩ := bS_ok e
                    refine xw_call (k := 147) (j := 2) rfl (fun F => xm_c_ok (y_c_ok rfl) F) rfl rfl rfl (sX9_await (by omega) e292) ?_
                    rintro _ _ ⟨rfl, rfl⟩
                    refine xw_y hd0 5 [] rfl trivial ?_
                    obtain ⟨x293, e294, e⟩ := bI_ok e
                    refine xw_call (k := 145) (j := 1) rfl (fun F => xm_c_ok (y_c_ok rfl) F) rfl rfl rfl (sX9_rank (by omega) e294) ?_
                    rintro _ _ ⟨rfl, rfl⟩
                    rcases ite_ok e with ⟨h295, e⟩ | ⟨h295, e⟩
                    · obtain ⟨h296, e⟩ := bC_ok e
                      cases e
                      exact xw_yr hd0 8 [1] rfl ⟨decide_eq_true h295, h296, rfl, trivial⟩ ⟨rfl, rfl⟩
                    · refine xw_y hd0 3 [0] rfl ⟨nt h295, trivial⟩ ?_
                      obtain ⟨x297, e298, e⟩ := bI_ok e
                      refine xw_call (k := 145) (j := 1) rfl (fun F => xm_c_ok (y_c_ok rfl) F) rfl rfl rfl (sX9_rank (by omega) e298) ?_
                      rintro _ _ ⟨rfl, rfl⟩
                      rcases ite_ok e with ⟨h299, e⟩ | ⟨h299, e⟩
                      · obtain ⟨h300, e⟩ := bC_ok e
                        cases e
                        exact xw_yr hd0 7 [1] rfl ⟨decide_eq_true h299, h300, rfl, trivial⟩ ⟨rfl, rfl⟩
                      · obtain ⟨h301, e⟩ := bC_ok e
                        rcases ite_ok e with ⟨h302, e⟩ | ⟨h302, e⟩
                        · cases e
                          exact xw_yr hd0 13 [0, 1] rfl ⟨nt h299, h301, decide_eq_true h302, h301, rfl, trivial⟩ ⟨rfl, rfl⟩
                        · cases e
                          exact xw_yr hd0 14 [0, 0] rfl ⟨nt h299, h301, nt h302, h301, rfl, trivial⟩ ⟨rfl, rfl⟩
                · rcases ite_ok e with ⟨h303, e⟩ | ⟨h303, e⟩
                  · refine xw_y hd0 106 [0, 1, 1, 0, 1, 1, 0, 1, 1, 0, 1, 1, 0, 1, 1, 0, 1, 1, 0, 0, 0, 0] rfl ⟨nnt h1, nt h2, rfl, rfl, nnt h1, nt h52, rfl, rfl, nnt h1, nt h102, rfl, rfl, nnt h1, nt h152, rfl, rfl, nnt h1, nt h202, rfl, rfl, nnt h252, nt h253, rfl, rfl, nnt h252, nnt h303, rfl, rfl, rfl, trivial⟩ ?_
                    obtain ⟨x304, e305, e⟩ := bI_ok e
                    refine xw_call (k := 145) (j := 1) rfl (fun F => xm_c_ok (y_c_ok rfl) F) rfl rfl rfl (sX9_rank (by omega) e305) ?_
                    rintro _ _ ⟨rfl, rfl⟩
                    rcases ite_ok e with ⟨h306, e⟩ | ⟨h306, e⟩
                    · obtain ⟨h307, e⟩ := bC_ok e
                      rcases ite_ok e with ⟨h308, e⟩ | ⟨h308, e⟩
                      · refine xw_y hd0 10 [0, 1] rfl ⟨nnt h306, h307, decide_eq_true h308, trivial⟩ ?_
                        obtain ⟨x309, e310, e⟩ := bI_ok e
                        refine xw_call (k := 145) (j := 1) rfl (fun F => xm_c_ok (y_c_ok rfl) F) rfl rfl rfl (sX9_rank (by omega) e310) ?_
                        rintro _ _ ⟨rfl, rfl⟩
                        obtain ⟨A312, V313, c314, e315, e⟩ := bS_ok e
                        refine xw_call (k := 146) (j := 2) rfl (fun F => xm_c_ok (y_c_ok rfl) F) rfl rfl rfl (sX9_doAll (by omega) e315) ?_
                        rintro _ _ ⟨rfl, rfl⟩
                        refine xw_y hd0 2 [] rfl trivial ?_
                        obtain ⟨A317, V318, c319, e320, e⟩ := bS_ok e
                        refine xw_call (k := 147) (j := 2) rfl (fun F => xm_c_ok (y_c_ok rfl) F) rfl rfl rfl (sX9_await (by omega) e320) ?_
                        rintro _ _ ⟨rfl, rfl⟩
                        refine xw_y hd0 5 [] rfl trivial ?_
                        obtain ⟨x321, e322, e⟩ := bI_ok e
                        refine xw_call (k := 145) (j := 1) rfl (fun F => xm_c_ok (y_c_ok rfl) F) rfl rfl rfl (sX9_rank (by omega) e322) ?_
                        rintro _ _ ⟨rfl, rfl⟩
                        rcases ite_ok e with ⟨h323, e⟩ | ⟨h323, e⟩
                        · obtain ⟨h324, e⟩ := bC_ok e
                          cases e
                          exact xw_yr hd0 8 [1] rfl ⟨decide_eq_true h323, h324, rfl, trivial⟩ ⟨rfl, rfl⟩
                        · refine xw_y hd0 3 [0] rfl ⟨nt h323, trivial⟩ ?_
                          obtain ⟨x325, e326, e⟩ := bI_ok e
                          refine xw_call (k := 145) (j := 1) rfl (fun F => xm_c_ok (y_c_ok rfl) F) rfl rfl rfl (sX9_rank (by omega) e326) ?_
                          rintro _ _ ⟨rfl, rfl⟩
                          rcases ite_ok e with ⟨h327, e⟩ | ⟨h327, e⟩
                          · obtain ⟨h328, e⟩ := bC_ok e
                            cases e
                            exact xw_yr hd0 7 [1] rfl ⟨decide_eq_true h327, h328, rfl, trivial⟩ ⟨rfl, rfl⟩
                          · obtain ⟨h329, e⟩ := bC_ok e
                            rcases ite_ok e with ⟨h330, e⟩ | ⟨h330, e⟩
                            · cases e
                              exact xw_yr hd0 13 [0, 1] rfl ⟨nt h327, h329, decide_eq_true h330, h329, rfl, trivial⟩ ⟨rfl, rfl⟩
                            · cases e
                              exact xw_yr hd0 14 [0, 0] rfl ⟨nt h327, h329, nt h330, h329, rfl, trivial⟩ ⟨rfl, rfl⟩
                      · cases e
                        exact xw_yr hd0 11 [0, 0] rfl ⟨nnt h306, h307, nt h308, rfl, trivial⟩ ⟨rfl, rfl⟩
                    · refine xw_y hd0 4 [1] rfl ⟨nt h306, trivial⟩ ?_
                      obtain ⟨x331, e332, e⟩ := bI_ok e
                      refine xw_call (k := 145) (j := 1) rfl (fun F => xm_c_ok (y_c_ok rfl) F) rfl rfl rfl (sX9_rank (by omega) e332) ?_
                      rintro _ _ ⟨rfl, rfl⟩
                      obtain ⟨A334, V335, c336, e337, e⟩ := bS_ok e
                      refine xw_call (k := 146) (j := 2) rfl (fun F => xm_c_ok (y_c_ok rfl) F) rfl rfl rfl (sX9_doAll (by omega) e337) ?_
                      rintro _ _ ⟨rfl, rfl⟩
                      refine xw_y hd0 2 [] rfl trivial ?_
                      obtain ⟨A339, V340, c341, e342, e⟩ := bS_ok e
                      refine xw_call (k := 147) (j := 2) rfl (fun F => xm_c_ok (y_c_ok rfl) F) rfl rfl rfl (sX9_await (by omega) e342) ?_
                      rintro _ _ ⟨rfl, rfl⟩
                      refine xw_y hd0 5 [] rfl trivial ?_
                      obtain ⟨x343, e344, e⟩ := bI_ok e
                      refine xw_call (k := 145) (j := 1) rfl (fun F => xm_c_ok (y_c_ok rfl) F) rfl rfl rfl (sX9_rank (by omega) e344) ?_
                      rintro _ _ ⟨rfl, rfl⟩
                      rcases ite_ok e with ⟨h345, e⟩ | ⟨h345, e⟩
                      · obtain ⟨h346, e⟩ := bC_ok e
                        cases e
                        exact xw_yr hd0 8 [1] rfl ⟨decide_eq_true h345, h346, rfl, trivial⟩ ⟨rfl, rfl⟩
                      · refine xw_y hd0 3 [0] rfl ⟨nt h345, trivial⟩ ?_
                        obtain ⟨x347, e348, e⟩ := bI_ok e
                        refine xw_call (k := 145) (j := 1) rfl (fun F => xm_c_ok (y_c_ok rfl) F) rfl rfl rfl (sX9_rank (by omega) e348) ?_
                        rintro _ _ ⟨rfl, rfl⟩
                        rcases ite_ok e with ⟨h349, e⟩ | ⟨h349, e⟩
                        · obtain ⟨h350, e⟩ := bC_ok e
                          cases e
                          exact xw_yr hd0 7 [1] rfl ⟨decide_eq_true h349, h350, rfl, trivial⟩ ⟨rfl, rfl⟩
                        · obtain ⟨h351, e⟩ := bC_ok e
                          rcases ite_ok e with ⟨h352, e⟩ | ⟨h352, e⟩
                          · cases e
                            exact xw_yr hd0 13 [0, 1] rfl ⟨nt h349, h351, decide_eq_true h352, h351, rfl, trivial⟩ ⟨rfl, rfl⟩
                          · cases e
                            exact xw_yr hd0 14 [0, 0] rfl ⟨nt h349, h351, nt h352, h351, rfl, trivial⟩ ⟨rfl, rfl⟩
                  · cases e
                    exact xw_yr hd0 106 [0, 1, 1, 0, 1, 1, 0, 1, 1, 0, 1, 1, 0, 1, 1, 0, 1, 1, 0, 1, 1, 1] rfl ⟨nnt h1, nt h2, rfl, rfl, nnt h1, nt h52, rfl, rfl, nnt h1, nt h102, rfl, rfl, nnt h1, nt h152, rfl, rfl, nnt h1, nt h202, rfl, rfl, nnt h252, nt h253, rfl, rfl, nnt h252, nt h303, rfl, rfl, rfl, rfl, trivial⟩ ⟨rfl, rfl⟩
              · cases e
                exact xw_yr hd0 98 [0, 1, 1, 0, 1, 1, 0, 1, 1, 0, 1, 1, 0, 1, 1, 1, 1, 1, 1, 1] rfl ⟨nnt h1, nt h2, rfl, rfl, nnt h1, nt h52, rfl, rfl, nnt h1, nt h102, rfl, rfl, nnt h1, nt h152, rfl, rfl, nnt h1, nt h202, rfl, rfl, nt h252, rfl, rfl, nt h252, rfl, rfl, rfl, rfl, trivial⟩ ⟨rfl, rfl⟩
  · rcases ite_ok e with ⟨h353, e⟩ | ⟨h353, e⟩
    · rcases ite_ok e with ⟨h354, e⟩ | ⟨h354, e⟩
      · refine xw_y hd0 72 [1, 1, 1, 1, 1, 1, 1, 1, 1, 1, 0, 0, 0, 0] rfl ⟨nt h1, rfl, rfl, nt h1, rfl, rfl, nt h1, rfl, rfl, nt h1, rfl, rfl, nt h1, rfl, rfl, nnt h353, nnt h354, rfl, rfl, rfl, trivial⟩ ?_
        obtain ⟨x355, e356, e⟩ := bI_ok e
        refine xw_call (k := 145) (j := 1) rfl (fun F => xm_c_ok (y_c_ok rfl) F) rfl rfl rfl (sX9_rank (by omega) e356) ?_
        rintro _ _ ⟨rfl, rfl⟩
        rcases ite_ok e with ⟨h357, e⟩ | ⟨h357, e⟩
        · obtain ⟨h358, e⟩ := bC_ok e
          rcases ite_ok e with ⟨h359, e⟩ | ⟨h359, e⟩
          · refine xw_y hd0 10 [0, 1] rfl ⟨nnt h357, h358, decide_eq_true h359, trivial⟩ ?_
            obtain ⟨x360, e361, e⟩ := bI_ok e
            refine xw_call (k := 145) (j := 1) rfl (fun F => xm_c_ok (y_c_ok rfl) F) rfl rfl rfl (sX9_rank (by omega) e361) ?_
            rintro _ _ ⟨rfl, rfl⟩
            obtain ⟨A363, V364, c365, e366, e⟩ := bS_ok e
            refine xw_call (k := 146) (j := 2) rfl (fun F => xm_c_ok (y_c_ok rfl) F) rfl rfl rfl (sX9_doAll (by omega) e366) ?_
            rintro _ _ ⟨rfl, rfl⟩
            refine xw_y hd0 2 [] rfl trivial ?_
            obtain ⟨A368, V369, c370, e371, e⟩ := bS_ok e
            refine xw_call (k := 147) (j := 2) rfl (fun F => xm_c_ok (y_c_ok rfl) F) rfl rfl rfl (sX9_await (by omega) e371) ?_
            rintro _ _ ⟨rfl, rfl⟩
            refine xw_y hd0 5 [] rfl trivial ?_
            obtain ⟨x372, e373, e⟩ := bI_ok e
            refine xw_call (k := 145) (j := 1) rfl (fun F => xm_c_ok (y_c_ok rfl) F) rfl rfl rfl (sX9_rank (by omega) e373) ?_
            rintro _ _ ⟨rfl, rfl⟩
            rcases ite_ok e with ⟨h374, e⟩ | ⟨h374, e⟩
            · obtain ⟨h375, e⟩ := bC_ok e
              cases e
              exact xw_yr hd0 8 [1] rfl ⟨decide_eq_true h374, h375, rfl, trivial⟩ ⟨rfl, rfl⟩
            · refine xw_y hd0 3 [0] rfl ⟨nt h374, trivial⟩ ?_
              obtain ⟨x376, e377, e⟩ := bI_ok e
              refine xw_call (k := 145) (j := 1) rfl (fun F => xm_c_ok (y_c_ok rfl) F) rfl rfl rfl (sX9_rank (by omega) e377) ?_
              rintro _ _ ⟨rfl, rfl⟩
              rcases ite_ok e with ⟨h378, e⟩ | ⟨h378, e⟩
              · obtain ⟨h379, e⟩ := bC_ok e
                cases e
                exact xw_yr hd0 7 [1] rfl ⟨decide_eq_true h378, h379, rfl, trivial⟩ ⟨rfl, rfl⟩
              · obtain ⟨h380, e⟩ := bC_ok e
                rcases ite_ok e with ⟨h381, e⟩ | ⟨h381, e⟩
                · cases e
                  exact xw_yr hd0 13 [0, 1] rfl ⟨nt h378, h380, decide_eq_true h381, h380, rfl, trivial⟩ ⟨rfl, rfl⟩
                · cases e
                  exact xw_yr hd0 14 [0, 0] rfl ⟨nt h378, h380, nt h381, h380, rfl, trivial⟩ ⟨rfl, rfl⟩
          · cases e
            exact xw_yr hd0 11 [0, 0] rfl ⟨nnt h357, h358, nt h359, rfl, trivial⟩ ⟨rfl, rfl⟩
        · refine xw_y hd0 4 [1] rfl ⟨nt h357, trivial⟩ ?_
          obtain ⟨x382, e383, e⟩ := bI_ok e
          refine xw_call (k := 145) (j := 1) rfl (fun F => xm_c_ok (y_c_ok rfl) F) rfl rfl rfl (sX9_rank (by omega) e383) ?_
          rintro _ _ ⟨rfl, rfl⟩
          obtain ⟨A385, V386, c387, e388, e⟩ := bS_ok e
          refine xw_call (k := 146) (j := 2) rfl (fun F => xm_c_ok (y_c_ok rfl) F) rfl rfl rfl (sX9_doAll (by omega) e388) ?_
          rintro _ _ ⟨rfl, rfl⟩
          refine xw_y hd0 2 [] rfl trivial ?_
          obtain ⟨A390, V391, c392, e393, e⟩ := bS_ok e
          refine xw_call (k := 147) (j := 2) rfl (fun F => xm_c_ok (y_c_ok rfl) F) rfl rfl rfl (sX9_await (by omega) e393) ?_
          rintro _ _ ⟨rfl, rfl⟩
          refine xw_y hd0 5 [] rfl trivial ?_
          obtain ⟨x394, e395, e⟩ := bI_ok e
          refine xw_call (k := 145) (j := 1) rfl (fun F => xm_c_ok (y_c_ok rfl) F) rfl rfl rfl (sX9_rank (by omega) e395) ?_
          rintro _ _ ⟨rfl, rfl⟩
          rcases ite_ok e with ⟨h396, e⟩ | ⟨h396, e⟩
          · obtain ⟨h397, e⟩ := bC_ok e
            cases e
            exact xw_yr hd0 8 [1] rfl ⟨decide_eq_true h396, h397, rfl, trivial⟩ ⟨rfl, rfl⟩
          · refine xw_y hd0 3 [0] rfl ⟨nt h396, trivial⟩ ?_
            obtain ⟨x398, e399, e⟩ := bI_ok e
            refine xw_call (k := 145) (j := 1) rfl (fun F => xm_c_ok (y_c_ok rfl) F) rfl rfl rfl (sX9_rank (by omega) e399) ?_
            rintro _ _ ⟨rfl, rfl⟩
            rcases ite_ok e with ⟨h400, e⟩ | ⟨h400, e⟩
            · obtain ⟨h401, e⟩ := bC_ok e
              cases e
              exact xw_yr hd0 7 [1] rfl ⟨decide_eq_true h400, h401, rfl, trivial⟩ ⟨rfl, rfl⟩
            · obtain ⟨h402, e⟩ := bC_ok e
              rcases ite_ok e with ⟨h403, e⟩ | ⟨h403, e⟩
              · cases e
                exact xw_yr hd0 13 [0, 1] rfl ⟨nt h400, h402, decide_eq_true h403, h402, rfl, trivial⟩ ⟨rfl, rfl⟩
              · cases e
                exact xw_yr hd0 14 [0, 0] rfl ⟨nt h400, h402, nt h403, h402, rfl, trivial⟩ ⟨rfl, rfl⟩
      · rcases ite_ok e with ⟨h404, e⟩ | ⟨h404, e⟩
        · refine xw_y hd0 86 [1, 1, 1, 1, 1, 1, 1, 1, 1, 1, 0, 1, 1, 0, 0, 0, 0] rfl ⟨nt h1, rfl, rfl, nt h1, rfl, rfl, nt h1, rfl, rfl, nt h1, rfl, rfl, nt h1, rfl, rfl, nnt h353, nt h354, rfl, rfl, nnt h353, nnt h404, rfl, rfl, rfl, trivial⟩ ?_
          obtain ⟨x405, e406, e⟩ := bI_ok e
          refine xw_call (k := 145) (j := 1) rfl (fun F => xm_c_ok (y_c_ok rfl) F) rfl rfl rfl (sX9_rank (by omega) e406) ?_
          rintro _ _ ⟨rfl, rfl⟩
          rcases ite_ok e with ⟨h407, e⟩ | ⟨h407, e⟩
          · obtain ⟨h408, e⟩ := bC_ok e
            rcases ite_ok e with ⟨h409, e⟩ | ⟨h409, e⟩
            · refine xw_y hd0 10 [0, 1] rfl ⟨nnt h407, h408, decide_eq_true h409, trivial⟩ ?_
              obtain ⟨x410, e411, e⟩ := bI_ok e
              refine xw_call (k := 145) (j := 1) rfl (fun F => xm_c_ok (y_c_ok rfl) F) rfl rfl rfl (sX9_rank (by omega) e411) ?_
              rintro _ _ ⟨rfl, rfl⟩
              obtain ⟨A413, V414, c415, e416, e⟩ := bS_ok e
              refine xw_call (k := 146) (j := 2) rfl (fun F => xm_c_ok (y_c_ok rfl) F) rfl rfl rfl (sX9_doAll (by omega) e416) ?_
              rintro _ _ ⟨rfl, rfl⟩
              refine xw_y hd0 2 [] rfl trivial ?_
              obtain ⟨A418, V419, c420, e421, e⟩ := bS_ok e
              refine xw_call (k := 147) (j := 2) rfl (fun F => xm_c_ok (y_c_ok rfl) F) rfl rfl rfl (sX9_await (by omega) e421) ?_
              rintro _ _ ⟨rfl, rfl⟩
              refine xw_y hd0 5 [] rfl trivial ?_
              obtain ⟨x422, e423, e⟩ := bI_ok e
              refine xw_call (k := 145) (j := 1) rfl (fun F => xm_c_ok (y_c_ok rfl) F) rfl rfl rfl (sX9_rank (by omega) e423) ?_
              rintro _ _ ⟨rfl, rfl⟩
              rcases ite_ok e with ⟨h424, e⟩ | ⟨h424, e⟩
              · obtain ⟨h425, e⟩ := bC_ok e
                cases e
                exact xw_yr hd0 8 [1] rfl ⟨decide_eq_true h424, h425, rfl, trivial⟩ ⟨rfl, rfl⟩
              · refine xw_y hd0 3 [0] rfl ⟨nt h424, trivial⟩ ?_
                obtain ⟨x426, e427, e⟩ := bI_ok e
                refine xw_call (k := 145) (j := 1) rfl (fun F => xm_c_ok (y_c_ok rfl) F) rfl rfl rfl (sX9_rank (by omega) e427) ?_
                rintro _ _ ⟨rfl, rfl⟩
                rcases ite_ok e with ⟨h428, e⟩ | ⟨h428, e⟩
                · obtain ⟨h429, e⟩ := bC_ok e
                  cases e
                  exact xw_yr hd0 7 [1] rfl ⟨decide_eq_true h428, h429, rfl, trivial⟩ ⟨rfl, rfl⟩
                · obtain ⟨h430, e⟩ := bC_ok e
                  rcases ite_ok e with ⟨h431, e⟩ | ⟨h431, e⟩
                  · cases e
                    exact xw_yr hd0 13 [0, 1] rfl ⟨nt h428, h430, decide_eq_true h431, h430, rfl, trivial⟩ ⟨rfl, rfl⟩
                  · cases e
                    exact xw_yr hd0 14 [0, 0] rfl ⟨nt h428, h430, nt h431, h430, rfl, trivial⟩ ⟨rfl, rfl⟩
            · cases e
              exact xw_yr hd0 11 [0, 0] rfl ⟨nnt h407, h408, nt h409, rfl, trivial⟩ ⟨rfl, rfl⟩
          · refine xw_y hd0 4 [1] rfl ⟨nt h407, trivial⟩ ?_
            obtain ⟨x432, e433, e⟩ := bI_ok e
            refine xw_call (k := 145) (j := 1) rfl (fun F => xm_c_ok (y_c_ok rfl) F) rfl rfl rfl (sX9_rank (by omega) e433) ?_
            rintro _ _ ⟨rfl, rfl⟩
            obtain ⟨A435, V436, c437, e438, e⟩ := bS_ok e
            refine xw_call (k := 146) (j := 2) rfl (fun F => xm_c_ok (y_c_ok rfl) F) rfl rfl rfl (sX9_doAll (by omega) e438) ?_
            rintro _ _ ⟨rfl, rfl⟩
            refine xw_y hd0 2 [] rfl trivial ?_
            obtain ⟨A440, V441, c442, e443, e⟩ := bS_ok e
            refine xw_call (k := 147) (j := 2) rfl (fun F => xm_c_ok (y_c_ok rfl) F) rfl rfl rfl (sX9_await (by omega) e443) ?_
            rintro _ _ ⟨rfl, rfl⟩
            refine xw_y hd0 5 [] rfl trivial ?_
            obtain ⟨x444, e445, e⟩ := bI_ok e
            refine xw_call (k := 145) (j := 1) rfl (fun F => xm_c_ok (y_c_ok rfl) F) rfl rfl rfl (sX9_rank (by omega) e445) ?_
            rintro _ _ ⟨rfl, rfl⟩
            rcases ite_ok e with ⟨h446, e⟩ | ⟨h446, e⟩
            · obtain ⟨h447, e⟩ := bC_ok e
              cases e
              exact xw_yr hd0 8 [1] rfl ⟨decide_eq_true h446, h447, rfl, trivial⟩ ⟨rfl, rfl⟩
            · refine xw_y hd0 3 [0] rfl ⟨nt h446, trivial⟩ ?_
              obtain ⟨x448, e449, e⟩ := bI_ok e
              refine xw_call (k := 145) (j := 1) rfl (fun F => xm_c_ok (y_c_ok rfl) F) rfl rfl rfl (sX9_rank (by omega) e449) ?_
              rintro _ _ ⟨rfl, rfl⟩
              rcases ite_ok e with ⟨h450, e⟩ | ⟨h450, e⟩
              · obtain ⟨h451, e⟩ := bC_ok e
                cases e
                exact xw_yr hd0 7 [1] rfl ⟨decide_eq_true h450, h451, rfl, trivial⟩ ⟨rfl, rfl⟩
              · obtain ⟨h452, e⟩ := bC_ok e
                rcases ite_ok e with ⟨h453, e⟩ | ⟨h453, e⟩
                · cases e
                  exact xw_yr hd0 13 [0, 1] rfl ⟨nt h450, h452, decide_eq_true h453, h452, rfl, trivial⟩ ⟨rfl, rfl⟩
                · cases e
                  exact xw_yr hd0 14 [0, 0] rfl ⟨nt h450, h452, nt h453, h452, rfl, trivial⟩ ⟨rfl, rfl⟩
        · cases e
          exact xw_yr hd0 86 [1, 1, 1, 1, 1, 1, 1, 1, 1, 1, 0, 1, 1, 0, 1, 1, 1] rfl ⟨nt h1, rfl, rfl, nt h1, rfl, rfl, nt h1, rfl, rfl, nt h1, rfl, rfl, nt h1, rfl, rfl, nnt h353, nt h354, rfl, rfl, nnt h353, nt h404, rfl, rfl, rfl, rfl, trivial⟩ ⟨rfl, rfl⟩
    · cases e
      exact xw_yr hd0 78 [1, 1, 1, 1, 1, 1, 1, 1, 1, 1, 1, 1, 1, 1, 1] rfl ⟨nt h1, rfl, rfl, nt h1, rfl, rfl, nt h1, rfl, rfl, nt h1, rfl, rfl, nt h1, rfl, rfl, nt h353, rfl, rfl, nt h353, rfl, rfl, rfl, rfl, trivial⟩ ⟨rfl, rfl⟩
set_option maxRecDepth 20000 in
set_option maxHeartbeats 4000000 in
theorem sX9_closes {LL : Nat} {xs : Nat → Int32} {tx : List xh_T} {d : Nat} {A V : xM} {cu : Value} {A' V' : xM} {c' : Value} {r : Int32} (hd : 63 ≤ d) (e : fX9_closes A V cu = some (r, A', V', c')) : xe (xk_ro LL xs) d 149 [.ref 132] (xh A V tx cu) (qI r (xh A' V' tx c')) := by
  obtain ⟨d, rfl⟩ : ∃ d1, d = d1 + 1 := ⟨d - 1, by omega⟩
  replace hd : 62 ≤ d := by omega
  have hd0 : 60 ≤ d := by omega
  refine xe_of (co := xk_149) (nl := 1) rfl rfl rfl ?_
  unfold fX9_closes at e
  rcases ite_ok e with ⟨h1, e⟩ | ⟨h1, e⟩
  · rcases ite_ok e with ⟨h2, e⟩ | ⟨h2, e⟩
    · rcases ite_ok e with ⟨h3, e⟩ | ⟨h3, e⟩
      · cases e
        exact xw_yr hd0 21 [0, 0, 0, 0] rfl ⟨nnt h1, nnt h2, rfl, rfl, nnt h3, rfl, trivial⟩ ⟨rfl, rfl⟩
      · refine xw_y hd0 20 [0, 0, 0, 1] rfl ⟨nnt h1, nnt h2, rfl, rfl, nt h3, trivial⟩ ?_
        obtain ⟨A5, V6, c7, e8, e⟩ := bS_ok e
        refine xw_call (k := 146) (j := 2) rfl (fun F => xm_c_ok (y_c_ok rfl) F) rfl rfl rfl (sX9_doAll (by omega) e8) ?_
        rintro _ _ ⟨rfl, rfl⟩
        refine xw_y hd0 20 [] rfl ⟨rfl, rfl, rfl, trivial⟩ ?_
        obtain ⟨A10, V11, c12, e13, e⟩ := bS_ok e
        refine xw_call (k := 146) (j := 2) rfl (fun F => xm_c_ok (y_c_ok rfl) F) rfl rfl rfl (sX9_doAll (by omega) e13) ?_
        rintro _ _ ⟨rfl, rfl⟩
        cases e
        exact xw_yr hd0 3 [] rfl ⟨rfl, trivial⟩ ⟨rfl, rfl⟩
    · cases e
      exact xw_yr hd0 17 [0, 1, 1] rfl ⟨nnt h1, nt h2, rfl, rfl, rfl, trivial⟩ ⟨rfl, rfl⟩
  · cases e
    exact xw_yr hd0 13 [1, 1] rfl ⟨nt h1, rfl, rfl, rfl, trivial⟩ ⟨rfl, rfl⟩
set_option maxRecDepth 20000 in
set_option maxHeartbeats 4000000 in
theorem sX9_ahead {LL : Nat} {xs : Nat → Int32} {tx : List xh_T} {d : Nat} {A V : xM} {cu : Value} {A' V' : xM} {c' : Value} {r : Int32} {l1 : Int32} (hd : 62 ≤ d) (e : fX9_ahead l1 A V cu = some (r, A', V', c')) : xe (xk_ro LL xs) d 150 [.ref 132, .int l1] (xh A V tx cu) (qI r (xh A' V' tx c')) := by
  obtain ⟨d, rfl⟩ : ∃ d1, d = d1 + 1 := ⟨d - 1, by omega⟩
  replace hd : 61 ≤ d := by omega
  have hd0 : 60 ≤ d := by omega
  refine xe_of (co := xk_150) (nl := 3) rfl rfl rfl ?_
  unfold fX9_ahead at e
  rcases ite_ok e with ⟨h1, e⟩ | ⟨h1, e⟩
  · rcases ite_ok e with ⟨h2, e⟩ | ⟨h2, e⟩
    · rcases ite_ok e with ⟨h3, e⟩ | ⟨h3, e⟩
      · cases e
        exact xw_yr hd0 27 [0, 0, 1, 0, 0] rfl ⟨nnt h1, nnt h2, rfl, rfl, rfl, nnt h3, rfl, trivial⟩ ⟨rfl, rfl⟩
      · rcases ite_ok e with ⟨h4, e⟩ | ⟨h4, e⟩
        · rcases ite_ok e with ⟨h5, e⟩ | ⟨h5, e⟩
          · refine xw_y hd0 47 [0, 0, 1, 0, 1, 0, 0, 0] rfl ⟨nnt h1, nnt h2, rfl, rfl, rfl, nt h3, rfl, nnt h4, nnt h5, rfl, rfl, trivial⟩ ?_
            obtain ⟨A7, V8, c9, e10, e⟩ := bS_ok e
            refine xw_call (k := 147) (j := 2) rfl (fun F => xm_c_ok (y_c_ok rfl) F) rfl rfl rfl (sX9_await (by omega) e10) ?_
            rintro _ _ ⟨rfl, rfl⟩
            obtain ⟨h11, e⟩ := bC_ok e
            cases e
            exact xw_yr hd0 16 [] rfl ⟨rfl, h11, rfl, trivial⟩ ⟨rfl, rfl⟩
          · rcases ite_ok e with ⟨h12, e⟩ | ⟨h12, e⟩
            · refine xw_y hd0 51 [0, 0, 1, 0, 1, 0, 1, 1, 0] rfl ⟨nnt h1, nnt h2, rfl, rfl, rfl, nt h3, rfl, nnt h4, nt h5, rfl, rfl, nnt h12, trivial⟩ ?_
              obtain ⟨A14, V15, c16, e17, e⟩ := bS_ok e
              refine xw_call (k := 147) (j := 2) rfl (fun F => xm_c_ok (y_c_ok rfl) F) rfl rfl rfl (sX9_await (by omega) e17) ?_
              rintro _ _ ⟨rfl, rfl⟩
              cases e
              exact xw_yr hd0 3 [] rfl ⟨rfl, trivial⟩ ⟨rfl, rfl⟩
            · refine xw_y hd0 50 [0, 0, 1, 0, 1, 0, 1, 1, 1] rfl ⟨nnt h1, nnt h2, rfl, rfl, rfl, nt h3, rfl, nnt h4, nt h5, rfl, rfl, nt h12, trivial⟩ ?_
              obtain ⟨A19, V20, c21, e22, e⟩ := bS_ok e
              refine xw_call (k := 147) (j := 2) rfl (fun F => xm_c_ok (y_c_ok rfl) F) rfl rfl rfl (sX9_await (by omega) e22) ?_
              rintro _ _ ⟨rfl, rfl⟩
              cases e
              exact xw_yr hd0 3 [] rfl ⟨rfl, trivial⟩ ⟨rfl, rfl⟩
        · rcases ite_ok e with ⟨h23, e⟩ | ⟨h23, e⟩
          · refine xw_y hd0 47 [0, 0, 1, 0, 1, 1, 1, 0] rfl ⟨nnt h1, nnt h2, rfl, rfl, rfl, nt h3, rfl, nt h4, rfl, rfl, nnt h23, trivial⟩ ?_
            obtain ⟨A25, V26, c27, e28, e⟩ := bS_ok e
            refine xw_call (k := 147) (j := 2) rfl (fun F => xm_c_ok (y_c_ok rfl) F) rfl rfl rfl (sX9_await (by omega) e28) ?_
            rintro _ _ ⟨rfl, rfl⟩
            cases e
            exact xw_yr hd0 3 [] rfl ⟨rfl, trivial⟩ ⟨rfl, rfl⟩
          · refine xw_y hd0 46 [0, 0, 1, 0, 1, 1, 1, 1] rfl ⟨nnt h1, nnt h2, rfl, rfl, rfl, nt h3, rfl, nt h4, rfl, rfl, nt h23, trivial⟩ ?_
            obtain ⟨A30, V31, c32, e33, e⟩ := bS_ok e
            refine xw_call (k := 147) (j := 2) rfl (fun F => xm_c_ok (y_c_ok rfl) F) rfl rfl rfl (sX9_await (by omega) e33) ?_
            rintro _ _ ⟨rfl, rfl⟩
            cases e
            exact xw_yr hd0 3 [] rfl ⟨rfl, trivial⟩ ⟨rfl, rfl⟩
    · rcases ite_ok e with ⟨h34, e⟩ | ⟨h34, e⟩
      · rcases ite_ok e with ⟨h35, e⟩ | ⟨h35, e⟩
        · cases e
          exact xw_yr hd0 41 [0, 1, 0, 0, 0, 1, 0, 0] rfl ⟨nnt h1, nt h2, rfl, rfl, nnt h1, nnt h34, rfl, rfl, rfl, nnt h35, rfl, trivial⟩ ⟨rfl, rfl⟩
        · rcases ite_ok e with ⟨h36, e⟩ | ⟨h36, e⟩
          · rcases ite_ok e with ⟨h37, e⟩ | ⟨h37, e⟩
            · refine xw_y hd0 61 [0, 1, 0, 0, 0, 1, 0, 1, 0, 0, 0] rfl ⟨nnt h1, nt h2, rfl, rfl, nnt h1, nnt h34, rfl, rfl, rfl, nt h35, rfl, nnt h36, nnt h37, rfl, rfl, trivial⟩ ?_
              obtain ⟨A39, V40, c41, e42, e⟩ := bS_ok e
              refine xw_call (k := 147) (j := 2) rfl (fun F => xm_c_ok (y_c_ok rfl) F) rfl rfl rfl (sX9_await (by omega) e42) ?_
              rintro _ _ ⟨rfl, rfl⟩
              obtain ⟨h43, e⟩ := bC_ok e
              cases e
              exact xw_yr hd0 16 [] rfl ⟨rfl, h43, rfl, trivial⟩ ⟨rfl, rfl⟩
            · rcases ite_ok e with ⟨h44, e⟩ | ⟨h44, e⟩
              · refine xw_y hd0 65 [0, 1, 0, 0, 0, 1, 0, 1, 0, 1, 1, 0] rfl ⟨nnt h1, nt h2, rfl, rfl, nnt h1, nnt h34, rfl, rfl, rfl, nt h35, rfl, nnt h36, nt h37, rfl, rfl, nnt h44, trivial⟩ ?_
                obtain ⟨A46, V47, c48, e49, e⟩ := bS_ok e
                refine xw_call (k := 147) (j := 2) rfl (fun F => xm_c_ok (y_c_ok rfl) F) rfl rfl rfl (sX9_await (by omega) e49) ?_
                rintro _ _ ⟨rfl, rfl⟩
                cases e
                exact xw_yr hd0 3 [] rfl ⟨rfl, trivial⟩ ⟨rfl, rfl⟩
              · refine xw_y hd0 64 [0, 1, 0, 0, 0, 1, 0, 1, 0, 1, 1, 1] rfl ⟨nnt h1, nt h2, rfl, rfl, nnt h1, nnt h34, rfl, rfl, rfl, nt h35, rfl, nnt h36, nt h37, rfl, rfl, nt h44, trivial⟩ ?_
                obtain ⟨A51, V52, c53, e54, e⟩ := bS_ok e
                refine xw_call (k := 147) (j := 2) rfl (fun F => xm_c_ok (y_c_ok rfl) F) rfl rfl rfl (sX9_await (by omega) e54) ?_
                rintro _ _ ⟨rfl, rfl⟩
                cases e
                exact xw_yr hd0 3 [] rfl ⟨rfl, trivial⟩ ⟨rfl, rfl⟩
          · rcases ite_ok e with ⟨h55, e⟩ | ⟨h55, e⟩
            · refine xw_y hd0 61 [0, 1, 0, 0, 0, 1, 0, 1, 1, 1, 0] rfl ⟨nnt h1, nt h2, rfl, rfl, nnt h1, nnt h34, rfl, rfl, rfl, nt h35, rfl, nt h36, rfl, rfl, nnt h55, trivial⟩ ?_
              obtain ⟨A57, V58, c59, e60, e⟩ := bS_ok e
              refine xw_call (k := 147) (j := 2) rfl (fun F => xm_c_ok (y_c_ok rfl) F) rfl rfl rfl (sX9_await (by omega) e60) ?_
              rintro _ _ ⟨rfl, rfl⟩
              cases e
              exact xw_yr hd0 3 [] rfl ⟨rfl, trivial⟩ ⟨rfl, rfl⟩
            · refine xw_y hd0 60 [0, 1, 0, 0, 0, 1, 0, 1, 1, 1, 1] rfl ⟨nnt h1, nt h2, rfl, rfl, nnt h1, nnt h34, rfl, rfl, rfl, nt h35, rfl, nt h36, rfl, rfl, nt h55, trivial⟩ ?_
              obtain ⟨A62, V63, c64, e65, e⟩ := bS_ok e
              refine xw_call (k := 147) (j := 2) rfl (fun F => xm_c_ok (y_c_ok rfl) F) rfl rfl rfl (sX9_await (by omega) e65) ?_
              rintro _ _ ⟨rfl, rfl⟩
              cases e
              exact xw_yr hd0 3 [] rfl ⟨rfl, trivial⟩ ⟨rfl, rfl⟩
      · rcases ite_ok e with ⟨h66, e⟩ | ⟨h66, e⟩
        · cases e
          exact xw_yr hd0 37 [0, 1, 0, 0, 1, 0, 1, 1] rfl ⟨nnt h1, nt h2, rfl, rfl, nnt h1, nt h34, rfl, rfl, decide_eq_true h66, rfl, rfl, trivial⟩ ⟨rfl, rfl⟩
        · rcases ite_ok e with ⟨h67, e⟩ | ⟨h67, e⟩
          · rcases ite_ok e with ⟨h68, e⟩ | ⟨h68, e⟩
            · rcases ite_ok e with ⟨h69, e⟩ | ⟨h69, e⟩
              · cases e
                exact xw_yr hd0 57 [0, 1, 0, 0, 1, 0, 0, 0, 0, 0, 0, 0] rfl ⟨nnt h1, nt h2, rfl, rfl, nnt h1, nt h34, rfl, rfl, nt h66, nnt h67, nnt h68, rfl, rfl, rfl, nnt h69, rfl, trivial⟩ ⟨rfl, rfl⟩
              · rcases ite_ok e with ⟨h70, e⟩ | ⟨h70, e⟩
                · rcases ite_ok e with ⟨h71, e⟩ | ⟨h71, e⟩
                  · refine xw_y hd0 77 [0, 1, 0, 0, 1, 0, 0, 0, 0, 0, 0, 1, 0, 0, 0] rfl ⟨nnt h1, nt h2, rfl, rfl, nnt h1, nt h34, rfl, rfl, nt h66, nnt h67, nnt h68, rfl, rfl, rfl, nt h69, rfl, nnt h70, nnt h71, rfl, rfl, trivial⟩ ?_
                    obtain ⟨A73, V74, c75, e76, e⟩ := bS_ok e
                    refine xw_call (k := 147) (j := 2) rfl (fun F => xm_c_ok (y_c_ok rfl) F) rfl rfl rfl (sX9_await (by omega) e76) ?_
                    rintro _ _ ⟨rfl, rfl⟩
                    obtain ⟨h77, e⟩ := bC_ok e
                    cases e
                    exact xw_yr hd0 16 [] rfl ⟨rfl, h77, rfl, trivial⟩ ⟨rfl, rfl⟩
                  · rcases ite_ok e with ⟨h78, e⟩ | ⟨h78, e⟩
                    · refine xw_y hd0 81 [0, 1, 0, 0, 1, 0, 0, 0, 0, 0, 0, 1, 0, 1, 1, 0] rfl ⟨nnt h1, nt h2, rfl, rfl, nnt h1, nt h34, rfl, rfl, nt h66, nnt h67, nnt h68, rfl, rfl, rfl, nt h69, rfl, nnt h70, nt h71, rfl, rfl, nnt h78, trivial⟩ ?_
                      obtain ⟨A80, V81, c82, e83, e⟩ := bS_ok e
                      refine xw_call (k := 147) (j := 2) rfl (fun F => xm_c_ok (y_c_ok rfl) F) rfl rfl rfl (sX9_await (by omega) e83) ?_
                      rintro _ _ ⟨rfl, rfl⟩
                      cases e
                      exact xw_yr hd0 3 [] rfl ⟨rfl, trivial⟩ ⟨rfl, rfl⟩
                    · refine xw_y hd0 80 [0, 1, 0, 0, 1, 0, 0, 0, 0, 0, 0, 1, 0, 1, 1, 1] rfl ⟨nnt h1, nt h2, rfl, rfl, nnt h1, nt h34, rfl, rfl, nt h66, nnt h67, nnt h68, rfl, rfl, rfl, nt h69, rfl, nnt h70, nt h71, rfl, rfl, nt h78, trivial⟩ ?_
                      obtain ⟨A85, V86, c87, e88, e⟩ := bS_ok e
                      refine xw_call (k := 147) (j := 2) rfl (fun F => xm_c_ok (y_c_ok rfl) F) rfl rfl rfl (sX9_await (by omega) e88) ?_
                      rintro _ _ ⟨rfl, rfl⟩
                      cases e
                      exact xw_yr hd0 3 [] rfl ⟨rfl, trivial⟩ ⟨rfl, rfl⟩
                · rcases ite_ok e with ⟨h89, e⟩ | ⟨h89, e⟩
                  · refine xw_y hd0 77 [0, 1, 0, 0, 1, 0, 0, 0, 0, 0, 0, 1, 1, 1, 0] rfl ⟨nnt h1, nt h2, rfl, rfl, nnt h1, nt h34, rfl, rfl, nt h66, nnt h67, nnt h68, rfl, rfl, rfl, nt h69, rfl, nt h70, rfl, rfl, nnt h89, trivial⟩ ?_
                    obtain ⟨A91, V92, c93, e94, e⟩ := bS_ok e
                    refine xw_call (k := 147) (j := 2) rfl (fun F => xm_c_ok (y_c_ok rfl) F) rfl rfl rfl (sX9_await (by omega) e94) ?_
                    rintro _ _ ⟨rfl, rfl⟩
                    cases e
                    exact xw_yr hd0 3 [] rfl ⟨rfl, trivial⟩ ⟨rfl, rfl⟩
                  · refine xw_y hd0 76 [0, 1, 0, 0, 1, 0, 0, 0, 0, 0, 0, 1, 1, 1, 1] rfl ⟨nnt h1, nt h2, rfl, rfl, nnt h1, nt h34, rfl, rfl, nt h66, nnt h67, nnt h68, rfl, rfl, rfl, nt h69, rfl, nt h70, rfl, rfl, nt h89, trivial⟩ ?_
                    obtain ⟨A96, V97, c98, e99, e⟩ := bS_ok e
                    refine xw_call (k := 147) (j := 2) rfl (fun F => xm_c_ok (y_c_ok rfl) F) rfl rfl rfl (sX9_await (by omega) e99) ?_
                    rintro _ _ ⟨rfl, rfl⟩
                    cases e
                    exact xw_yr hd0 3 [] rfl ⟨rfl, trivial⟩ ⟨rfl, rfl⟩
            · cases e
              exact xw_yr hd0 51 [0, 1, 0, 0, 1, 0, 0, 0, 1, 1, 1] rfl ⟨nnt h1, nt h2, rfl, rfl, nnt h1, nt h34, rfl, rfl, nt h66, nnt h67, nt h68, rfl, rfl, rfl, rfl, trivial⟩ ⟨rfl, rfl⟩
          · cases e
            exact xw_yr hd0 47 [0, 1, 0, 0, 1, 0, 0, 1, 1, 1] rfl ⟨nnt h1, nt h2, rfl, rfl, nnt h1, nt h34, rfl, rfl, nt h66, nt h67, rfl, rfl, rfl, rfl, trivial⟩ ⟨rfl, rfl⟩
  · rcases ite_ok e with ⟨h100, e⟩ | ⟨h100, e⟩
    · cases e
      exact xw_yr hd0 29 [1, 0, 1, 0, 1, 1] rfl ⟨nt h1, rfl, rfl, nt h1, rfl, rfl, decide_eq_true h100, rfl, rfl, trivial⟩ ⟨rfl, rfl⟩
    · rcases ite_ok e with ⟨h101, e⟩ | ⟨h101, e⟩
      · rcases ite_ok e with ⟨h102, e⟩ | ⟨h102, e⟩
        · rcases ite_ok e with ⟨h103, e⟩ | ⟨h103, e⟩
          · cases e
            exact xw_yr hd0 49 [1, 0, 1, 0, 0, 0, 0, 0, 0, 0] rfl ⟨nt h1, rfl, rfl, nt h1, rfl, rfl, nt h100, nnt h101, nnt h102, rfl, rfl, rfl, nnt h103, rfl, trivial⟩ ⟨rfl, rfl⟩
          · rcases ite_ok e with ⟨h104, e⟩ | ⟨h104, e⟩
            · rcases ite_ok e with ⟨h105, e⟩ | ⟨h105, e⟩
              · refine xw_y hd0 69 [1, 0, 1, 0, 0, 0, 0, 0, 0, 1, 0, 0, 0] rfl ⟨nt h1, rfl, rfl, nt h1, rfl, rfl, nt h100, nnt h101, nnt h102, rfl, rfl, rfl, nt h103, rfl, nnt h104, nnt h105, rfl, rfl, trivial⟩ ?_
                obtain ⟨A107, V108, c109, e110, e⟩ := bS_ok e
                refine xw_call (k := 147) (j := 2) rfl (fun F => xm_c_ok (y_c_ok rfl) F) rfl rfl rfl (sX9_await (by omega) e110) ?_
                rintro _ _ ⟨rfl, rfl⟩
                obtain ⟨h111, e⟩ := bC_ok e
                cases e
                exact xw_yr hd0 16 [] rfl ⟨rfl, h111, rfl, trivial⟩ ⟨rfl, rfl⟩
              · rcases ite_ok e with ⟨h112, e⟩ | ⟨h112, e⟩
                · refine xw_y hd0 73 [1, 0, 1, 0, 0, 0, 0, 0, 0, 1, 0, 1, 1, 0] rfl ⟨nt h1, rfl, rfl, nt h1, rfl, rfl, nt h100, nnt h101, nnt h102, rfl, rfl, rfl, nt h103, rfl, nnt h104, nt h105, rfl, rfl, nnt h112, trivial⟩ ?_
                  obtain ⟨A114, V115, c116, e117, e⟩ := bS_ok e
                  refine xw_call (k := 147) (j := 2) rfl (fun F => xm_c_ok (y_c_ok rfl) F) rfl rfl rfl (sX9_await (by omega) e117) ?_
                  rintro _ _ ⟨rfl, rfl⟩
                  cases e
                  exact xw_yr hd0 3 [] rfl ⟨rfl, trivial⟩ ⟨rfl, rfl⟩
                · refine xw_y hd0 72 [1, 0, 1, 0, 0, 0, 0, 0, 0, 1, 0, 1, 1, 1] rfl ⟨nt h1, rfl, rfl, nt h1, rfl, rfl, nt h100, nnt h101, nnt h102, rfl, rfl, rfl, nt h103, rfl, nnt h104, nt h105, rfl, rfl, nt h112, trivial⟩ ?_
                  obtain ⟨A119, V120, c121, e122, e⟩ := bS_ok e
                  refine xw_call (k := 147) (j := 2) rfl (fun F => xm_c_ok (y_c_ok rfl) F) rfl rfl rfl (sX9_await (by omega) e122) ?_
                  rintro _ _ ⟨rfl, rfl⟩
                  cases e
                  exact xw_yr hd0 3 [] rfl ⟨rfl, trivial⟩ ⟨rfl, rfl⟩
            · rcases ite_ok e with ⟨h123, e⟩ | ⟨h123, e⟩
              · refine xw_y hd0 69 [1, 0, 1, 0, 0, 0, 0, 0, 0, 1, 1, 1, 0] rfl ⟨nt h1, rfl, rfl, nt h1, rfl, rfl, nt h100, nnt h101, nnt h102, rfl, rfl, rfl, nt h103, rfl, nt h104, rfl, rfl, nnt h123, trivial⟩ ?_
                obtain ⟨A125, V126, c127, e128, e⟩ := bS_ok e
                refine xw_call (k := 147) (j := 2) rfl (fun F => xm_c_ok (y_c_ok rfl) F) rfl rfl rfl (sX9_await (by omega) e128) ?_
                rintro _ _ ⟨rfl, rfl⟩
                cases e
                exact xw_yr hd0 3 [] rfl ⟨rfl, trivial⟩ ⟨rfl, rfl⟩
              · refine xw_y hd0 68 [1, 0, 1, 0, 0, 0, 0, 0, 0, 1, 1, 1, 1] rfl ⟨nt h1, rfl, rfl, nt h1, rfl, rfl, nt h100, nnt h101, nnt h102, rfl, rfl, rfl, nt h103, rfl, nt h104, rfl, rfl, nt h123, trivial⟩ ?_
                obtain ⟨A130, V131, c132, e133, e⟩ := bS_ok e
                refine xw_call (k := 147) (j := 2) rfl (fun F => xm_c_ok (y_c_ok rfl) F) rfl rfl rfl (sX9_await (by omega) e133) ?_
                rintro _ _ ⟨rfl, rfl⟩
                cases e
                exact xw_yr hd0 3 [] rfl ⟨rfl, trivial⟩ ⟨rfl, rfl⟩
        · cases e
          exact xw_yr hd0 43 [1, 0, 1, 0, 0, 0, 1, 1, 1] rfl ⟨nt h1, rfl, rfl, nt h1, rfl, rfl, nt h100, nnt h101, nt h102, rfl, rfl, rfl, rfl, trivial⟩ ⟨rfl, rfl⟩
      · cases e
        exact xw_yr hd0 39 [1, 0, 1, 0, 0, 1, 1, 1] rfl ⟨nt h1, rfl, rfl, nt h1, rfl, rfl, nt h100, nt h101, rfl, rfl, rfl, rfl, trivial⟩ ⟨rfl, rfl⟩
set_option maxRecDepth 20000 in
set_option maxHeartbeats 4000000 in
theorem slX9_readE_L40 {LL : Nat} {xs : Nat → Int32} {tx : List xh_T} {d : Nat} {A' V' : xM} {c' : Value} {r : Int32} {l1 : Int32} {ex : xM → xM → Value → Option (Int32 × xS)} (hd : 63 ≤ d) (hex : ∀ (w2 w3 w4 : Option Value) (A V : xM) (cu : Value), ex  A V cu = some (r, A', V', c') → xw (xk_ro LL xs) d xk_151 148 [some (.ref 132), some (.int l1), w2, w3, w4] [] (xh A V tx cu) (qI r (xh A' V' tx c'))) : ∀ (n : Nat) (l2 : Int32) (l3 : Int32) (z4 : Option Value) (A V : xM) (cu : Value), fX9_readE_L40 l1 ex n l2 l3 A V cu = some (r, A', V', c') → xw (xk_ro LL xs) d xk_151 40 [some (.ref 132), some (.int l1), some (.int l2), some (.int l3), z4] [] (xh A V tx cu) (qI r (xh A' V' tx c')) := by
  have hd0 : 60 ≤ d := by omega
  intro n
  induction n with
  | zero =>
    intro l2 l3 z4 A V cu e
    rw [fX9_readE_L40] at e
    cases e
  | succ n ih =>
    intro l2 l3 z4 A V cu e
    rw [fX9_readE_L40] at e
    rcases ite_ok e with ⟨h1, e⟩ | ⟨h1, e⟩
    · rcases ite_ok e with ⟨h2, e⟩ | ⟨h2, e⟩
      · rcases ite_ok e with ⟨h3, e⟩ | ⟨h3, e⟩
        · rcases ite_ok e with ⟨h4, e⟩ | ⟨h4, e⟩
          · refine xw_y hd0 22 [1, 1, 0, 0, 0, 0] rfl ⟨decide_eq_true h1, decide_eq_true h1, nnt h2, nnt h3, rfl, rfl, nnt h4, trivial⟩ ?_
            exact hex _ _ _ _ _ _ e
          · refine xw_y hd0 23 [1, 1, 0, 0, 0, 1] rfl ⟨decide_eq_true h1, decide_eq_true h1, nnt h2, nnt h3, rfl, rfl, nt h4, trivial⟩ ?_
            obtain ⟨x5, A6, V7, c8, e9, e⟩ := bX_ok e
            refine xw_call (k := 148) (j := 1) rfl (fun F => xm_c_ok (y_c_ok rfl) F) rfl rfl rfl (sX9_between (by omega) e9) ?_
            rintro _ _ ⟨rfl, rfl⟩
            rcases ite_ok e with ⟨h10, e⟩ | ⟨h10, e⟩
            · refine xw_y hd0 2 [1] rfl ⟨decide_eq_true h10, trivial⟩ ?_
              obtain ⟨x11, A12, V13, c14, e15, e⟩ := bX_ok e
              refine xw_call (k := 149) (j := 1) rfl (fun F => xm_c_ok (y_c_ok rfl) F) rfl rfl rfl (sX9_closes (by omega) e15) ?_
              rintro _ _ ⟨rfl, rfl⟩
              rcases ite_ok e with ⟨h16, e⟩ | ⟨h16, e⟩
              · cases e
                exact xw_yr hd0 4 [0] rfl ⟨nnt h16, rfl, trivial⟩ ⟨rfl, rfl⟩
              · refine xw_y hd0 2 [1] rfl ⟨nt h16, trivial⟩ ?_
                obtain ⟨A18, V19, c20, e21, e⟩ := bS_ok e
                refine xw_call (k := 141) (j := 1) rfl (fun F => xm_c_ok (y_c_ok rfl) F) rfl rfl rfl (sX9_next (by omega) e21) ?_
                rintro _ _ ⟨rfl, rfl⟩
                refine xw_y hd0 1 [] rfl trivial ?_
                exact ih _ _ _ _ _ _ e
            · rcases ite_ok e with ⟨h22, e⟩ | ⟨h22, e⟩
              · rcases ite_ok e with ⟨h23, e⟩ | ⟨h23, e⟩
                · refine xw_y hd0 23 [0, 0, 0, 1] rfl ⟨nt h10, nnt h22, nnt h23, rfl, rfl, trivial⟩ ?_
                  obtain ⟨A25, V26, c27, e28, e⟩ := bS_ok e
                  refine xw_call (k := 141) (j := 1) rfl (fun F => xm_c_ok (y_c_ok rfl) F) rfl rfl rfl (sX9_next (by omega) e28) ?_
                  rintro _ _ ⟨rfl, rfl⟩
                  refine xw_y hd0 1 [] rfl trivial ?_
                  exact ih _ _ _ _ _ _ e
                · rcases ite_ok e with ⟨h29, e⟩ | ⟨h29, e⟩
                  · refine xw_y hd0 37 [0, 0, 1, 0, 0, 0, 0] rfl ⟨nt h10, nnt h22, nt h23, rfl, rfl, nnt h22, nnt h29, rfl, rfl, trivial⟩ ?_
                    obtain ⟨A31, V32, c33, e34, e⟩ := bS_ok e
                    refine xw_call (k := 141) (j := 1) rfl (fun F => xm_c_ok (y_c_ok rfl) F) rfl rfl rfl (sX9_next (by omega) e34) ?_
                    rintro _ _ ⟨rfl, rfl⟩
                    refine xw_y hd0 1 [] rfl trivial ?_
                    exact ih _ _ _ _ _ _ e
                  · refine xw_y hd0 35 [0, 0, 1, 0, 0, 1, 1] rfl ⟨nt h10, nnt h22, nt h23, rfl, rfl, nnt h22, nt h29, rfl, rfl, trivial⟩ ?_
                    obtain ⟨A36, V37, c38, e39, e⟩ := bS_ok e
                    refine xw_call (k := 141) (j := 1) rfl (fun F => xm_c_ok (y_c_ok rfl) F) rfl rfl rfl (sX9_next (by omega) e39) ?_
                    rintro _ _ ⟨rfl, rfl⟩
                    refine xw_y hd0 1 [] rfl trivial ?_
                    exact ih _ _ _ _ _ _ e
              · refine xw_y hd0 27 [0, 1, 0, 1, 1] rfl ⟨nt h10, nt h22, rfl, rfl, nt h22, rfl, rfl, trivial⟩ ?_
                obtain ⟨A41, V42, c43, e44, e⟩ := bS_ok e
                refine xw_call (k := 141) (j := 1) rfl (fun F => xm_c_ok (y_c_ok rfl) F) rfl rfl rfl (sX9_next (by omega) e44) ?_
                rintro _ _ ⟨rfl, rfl⟩
                refine xw_y hd0 1 [] rfl trivial ?_
                exact ih _ _ _ _ _ _ e
        · refine xw_y hd0 19 [1, 1, 0, 1, 1] rfl ⟨decide_eq_true h1, decide_eq_true h1, nnt h2, nt h3, rfl, rfl, trivial⟩ ?_
          obtain ⟨x45, A46, V47, c48, e49, e⟩ := bX_ok e
          refine xw_call (k := 148) (j := 1) rfl (fun F => xm_c_ok (y_c_ok rfl) F) rfl rfl rfl (sX9_between (by omega) e49) ?_
          rintro _ _ ⟨rfl, rfl⟩
          rcases ite_ok e with ⟨h50, e⟩ | ⟨h50, e⟩
          · refine xw_y hd0 2 [1] rfl ⟨decide_eq_true h50, trivial⟩ ?_
            obtain ⟨x51, A52, V53, c54, e55, e⟩ := bX_ok e
            refine xw_call (k := 149) (j := 1) rfl (fun F => xm_c_ok (y_c_ok rfl) F) rfl rfl rfl (sX9_closes (by omega) e55) ?_
            rintro _ _ ⟨rfl, rfl⟩
            rcases ite_ok e with ⟨h56, e⟩ | ⟨h56, e⟩
            · cases e
              exact xw_yr hd0 4 [0] rfl ⟨nnt h56, rfl, trivial⟩ ⟨rfl, rfl⟩
            · refine xw_y hd0 2 [1] rfl ⟨nt h56, trivial⟩ ?_
              obtain ⟨A58, V59, c60, e61, e⟩ := bS_ok e
              refine xw_call (k := 141) (j := 1) rfl (fun F => xm_c_ok (y_c_ok rfl) F) rfl rfl rfl (sX9_next (by omega) e61) ?_
              rintro _ _ ⟨rfl, rfl⟩
              refine xw_y hd0 1 [] rfl trivial ?_
              exact ih _ _ _ _ _ _ e
          · rcases ite_ok e with ⟨h62, e⟩ | ⟨h62, e⟩
            · rcases ite_ok e with ⟨h63, e⟩ | ⟨h63, e⟩
              · refine xw_y hd0 23 [0, 0, 0, 1] rfl ⟨nt h50, nnt h62, nnt h63, rfl, rfl, trivial⟩ ?_
                obtain ⟨A65, V66, c67, e68, e⟩ := bS_ok e
                refine xw_call (k := 141) (j := 1) rfl (fun F => xm_c_ok (y_c_ok rfl) F) rfl rfl rfl (sX9_next (by omega) e68) ?_
                rintro _ _ ⟨rfl, rfl⟩
                refine xw_y hd0 1 [] rfl trivial ?_
                exact ih _ _ _ _ _ _ e
              · rcases ite_ok e with ⟨h69, e⟩ | ⟨h69, e⟩
                · refine xw_y hd0 37 [0, 0, 1, 0, 0, 0, 0] rfl ⟨nt h50, nnt h62, nt h63, rfl, rfl, nnt h62, nnt h69, rfl, rfl, trivial⟩ ?_
                  obtain ⟨A71, V72, c73, e74, e⟩ := bS_ok e
                  refine xw_call (k := 141) (j := 1) rfl (fun F => xm_c_ok (y_c_ok rfl) F) rfl rfl rfl (sX9_next (by omega) e74) ?_
                  rintro _ _ ⟨rfl, rfl⟩
                  refine xw_y hd0 1 [] rfl trivial ?_
                  exact ih _ _ _ _ _ _ e
                · refine xw_y hd0 35 [0, 0, 1, 0, 0, 1, 1] rfl ⟨nt h50, nnt h62, nt h63, rfl, rfl, nnt h62, nt h69, rfl, rfl, trivial⟩ ?_
                  obtain ⟨A76, V77, c78, e79, e⟩ := bS_ok e
                  refine xw_call (k := 141) (j := 1) rfl (fun F => xm_c_ok (y_c_ok rfl) F) rfl rfl rfl (sX9_next (by omega) e79) ?_
                  rintro _ _ ⟨rfl, rfl⟩
                  refine xw_y hd0 1 [] rfl trivial ?_
                  exact ih _ _ _ _ _ _ e
            · refine xw_y hd0 27 [0, 1, 0, 1, 1] rfl ⟨nt h50, nt h62, rfl, rfl, nt h62, rfl, rfl, trivial⟩ ?_
              obtain ⟨A81, V82, c83, e84, e⟩ := bS_ok e
              refine xw_call (k := 141) (j := 1) rfl (fun F => xm_c_ok (y_c_ok rfl) F) rfl rfl rfl (sX9_next (by omega) e84) ?_
              rintro _ _ ⟨rfl, rfl⟩
              refine xw_y hd0 1 [] rfl trivial ?_
              exact ih _ _ _ _ _ _ e
      · refine xw_y hd0 15 [1, 1, 1, 1] rfl ⟨decide_eq_true h1, decide_eq_true h1, nt h2, rfl, rfl, trivial⟩ ?_
        obtain ⟨x85, A86, V87, c88, e89, e⟩ := bX_ok e
        refine xw_call (k := 148) (j := 1) rfl (fun F => xm_c_ok (y_c_ok rfl) F) rfl rfl rfl (sX9_between (by omega) e89) ?_
        rintro _ _ ⟨rfl, rfl⟩
        rcases ite_ok e with ⟨h90, e⟩ | ⟨h90, e⟩
        · refine xw_y hd0 2 [1] rfl ⟨decide_eq_true h90, trivial⟩ ?_
          obtain ⟨x91, A92, V93, c94, e95, e⟩ := bX_ok e
          refine xw_call (k := 149) (j := 1) rfl (fun F => xm_c_ok (y_c_ok rfl) F) rfl rfl rfl (sX9_closes (by omega) e95) ?_
          rintro _ _ ⟨rfl, rfl⟩
          rcases ite_ok e with ⟨h96, e⟩ | ⟨h96, e⟩
          · cases e
            exact xw_yr hd0 4 [0] rfl ⟨nnt h96, rfl, trivial⟩ ⟨rfl, rfl⟩
          · refine xw_y hd0 2 [1] rfl ⟨nt h96, trivial⟩ ?_
            obtain ⟨A98, V99, c100, e101, e⟩ := bS_ok e
            refine xw_call (k := 141) (j := 1) rfl (fun F => xm_c_ok (y_c_ok rfl) F) rfl rfl rfl (sX9_next (by omega) e101) ?_
            rintro _ _ ⟨rfl, rfl⟩
            refine xw_y hd0 1 [] rfl trivial ?_
            exact ih _ _ _ _ _ _ e
        · rcases ite_ok e with ⟨h102, e⟩ | ⟨h102, e⟩
          · rcases ite_ok e with ⟨h103, e⟩ | ⟨h103, e⟩
            · refine xw_y hd0 23 [0, 0, 0, 1] rfl ⟨nt h90, nnt h102, nnt h103, rfl, rfl, trivial⟩ ?_
              obtain ⟨A105, V106, c107, e108, e⟩ := bS_ok e
              refine xw_call (k := 141) (j := 1) rfl (fun F => xm_c_ok (y_c_ok rfl) F) rfl rfl rfl (sX9_next (by omega) e108) ?_
              rintro _ _ ⟨rfl, rfl⟩
              refine xw_y hd0 1 [] rfl trivial ?_
              exact ih _ _ _ _ _ _ e
            · rcases ite_ok e with ⟨h109, e⟩ | ⟨h109, e⟩
              · refine xw_y hd0 37 [0, 0, 1, 0, 0, 0, 0] rfl ⟨nt h90, nnt h102, nt h103, rfl, rfl, nnt h102, nnt h109, rfl, rfl, trivial⟩ ?_
                obtain ⟨A111, V112, c113, e114, e⟩ := bS_ok e
                refine xw_call (k := 141) (j := 1) rfl (fun F => xm_c_ok (y_c_ok rfl) F) rfl rfl rfl (sX9_next (by omega) e114) ?_
                rintro _ _ ⟨rfl, rfl⟩
                refine xw_y hd0 1 [] rfl trivial ?_
                exact ih _ _ _ _ _ _ e
              · refine xw_y hd0 35 [0, 0, 1, 0, 0, 1, 1] rfl ⟨nt h90, nnt h102, nt h103, rfl, rfl, nnt h102, nt h109, rfl, rfl, trivial⟩ ?_
                obtain ⟨A116, V117, c118, e119, e⟩ := bS_ok e
                refine xw_call (k := 141) (j := 1) rfl (fun F => xm_c_ok (y_c_ok rfl) F) rfl rfl rfl (sX9_next (by omega) e119) ?_
                rintro _ _ ⟨rfl, rfl⟩
                refine xw_y hd0 1 [] rfl trivial ?_
                exact ih _ _ _ _ _ _ e
          · refine xw_y hd0 27 [0, 1, 0, 1, 1] rfl ⟨nt h90, nt h102, rfl, rfl, nt h102, rfl, rfl, trivial⟩ ?_
            obtain ⟨A121, V122, c123, e124, e⟩ := bS_ok e
            refine xw_call (k := 141) (j := 1) rfl (fun F => xm_c_ok (y_c_ok rfl) F) rfl rfl rfl (sX9_next (by omega) e124) ?_
            rintro _ _ ⟨rfl, rfl⟩
            refine xw_y hd0 1 [] rfl trivial ?_
            exact ih _ _ _ _ _ _ e
    · rcases ite_ok e with ⟨h125, e⟩ | ⟨h125, e⟩
      · refine xw_y hd0 16 [0, 1, 0] rfl ⟨nt h1, decide_eq_true h125, nnt h125, trivial⟩ ?_
        obtain ⟨A127, V128, c129, e130, e⟩ := bS_ok e
        refine xw_call (k := 144) (j := 2) rfl (fun F => xm_c_ok (y_c_ok rfl) F) rfl rfl rfl (sX9_emit (by omega) e130) ?_
        rintro _ _ ⟨rfl, rfl⟩
        refine xw_y hd0 2 [] rfl trivial ?_
        obtain ⟨A132, V133, c134, e135, e⟩ := bS_ok e
        refine xw_call (k := 146) (j := 2) rfl (fun F => xm_c_ok (y_c_ok rfl) F) rfl rfl rfl (sX9_doAll (by omega) e135) ?_
        rintro _ _ ⟨rfl, rfl⟩
        refine xw_y hd0 4 [] rfl trivial ?_
        obtain ⟨A137, V138, c139, e140, e⟩ := bS_ok e
        refine xw_call (k := 141) (j := 1) rfl (fun F => xm_c_ok (y_c_ok rfl) F) rfl rfl rfl (sX9_next (by omega) e140) ?_
        rintro _ _ ⟨rfl, rfl⟩
        refine xw_y hd0 1 [] rfl trivial ?_
        exact ih _ _ _ _ _ _ e
      · rcases ite_ok e with ⟨h141, e⟩ | ⟨h141, e⟩
        · refine xw_y hd0 17 [0, 0, 0, 1] rfl ⟨nt h1, nt h125, nnt h141, nt h125, trivial⟩ ?_
          obtain ⟨A143, V144, c145, e146, e⟩ := bS_ok e
          refine xw_call (k := 144) (j := 2) rfl (fun F => xm_c_ok (y_c_ok rfl) F) rfl rfl rfl (sX9_emit (by omega) e146) ?_
          rintro _ _ ⟨rfl, rfl⟩
          refine xw_y hd0 2 [] rfl trivial ?_
          obtain ⟨A148, V149, c150, e151, e⟩ := bS_ok e
          refine xw_call (k := 146) (j := 2) rfl (fun F => xm_c_ok (y_c_ok rfl) F) rfl rfl rfl (sX9_doAll (by omega) e151) ?_
          rintro _ _ ⟨rfl, rfl⟩
          refine xw_y hd0 4 [] rfl trivial ?_
          obtain ⟨A153, V154, c155, e156, e⟩ := bS_ok e
          refine xw_call (k := 141) (j := 1) rfl (fun F => xm_c_ok (y_c_ok rfl) F) rfl rfl rfl (sX9_next (by omega) e156) ?_
          rintro _ _ ⟨rfl, rfl⟩
          refine xw_y hd0 1 [] rfl trivial ?_
          exact ih _ _ _ _ _ _ e
        · rcases ite_ok e with ⟨h157, e⟩ | ⟨h157, e⟩
          · rcases ite_ok e with ⟨h158, e⟩ | ⟨h158, e⟩
            · refine xw_y hd0 29 [0, 0, 1, 0, 0, 0] rfl ⟨nt h1, nt h125, nt h141, nt h1, nnt h157, nnt h158, rfl, trivial⟩ ?_
              obtain ⟨x159, A160, V161, c162, e163, e⟩ := bX_ok e
              refine xw_call (k := 150) (j := 2) rfl (fun F => xm_c_ok (y_c_ok rfl) F) rfl rfl rfl (sX9_ahead (by omega) e163) ?_
              rintro _ _ ⟨rfl, rfl⟩
              rcases ite_ok e with ⟨h164, e⟩ | ⟨h164, e⟩
              · cases e
                exact xw_yr hd0 4 [0] rfl ⟨nnt h164, rfl, trivial⟩ ⟨rfl, rfl⟩
              · refine xw_y hd0 7 [1, 1] rfl ⟨nt h164, rfl, trivial⟩ ?_
                obtain ⟨A166, V167, c168, e169, e⟩ := bS_ok e
                refine xw_call (k := 141) (j := 1) rfl (fun F => xm_c_ok (y_c_ok rfl) F) rfl rfl rfl (sX9_next (by omega) e169) ?_
                rintro _ _ ⟨rfl, rfl⟩
                refine xw_y hd0 1 [] rfl trivial ?_
                exact ih _ _ _ _ _ _ e
            · refine xw_y hd0 28 [0, 0, 1, 0, 0, 1] rfl ⟨nt h1, nt h125, nt h141, nt h1, nnt h157, nt h158, rfl, trivial⟩ ?_
              obtain ⟨x170, A171, V172, c173, e174, e⟩ := bX_ok e
              refine xw_call (k := 150) (j := 2) rfl (fun F => xm_c_ok (y_c_ok rfl) F) rfl rfl rfl (sX9_ahead (by omega) e174) ?_
              rintro _ _ ⟨rfl, rfl⟩
              rcases ite_ok e with ⟨h175, e⟩ | ⟨h175, e⟩
              · cases e
                exact xw_yr hd0 4 [0] rfl ⟨nnt h175, rfl, trivial⟩ ⟨rfl, rfl⟩
              · refine xw_y hd0 8 [1, 0] rfl ⟨nt h175, rfl, trivial⟩ ?_
                obtain ⟨A177, V178, c179, e180, e⟩ := bS_ok e
                refine xw_call (k := 141) (j := 1) rfl (fun F => xm_c_ok (y_c_ok rfl) F) rfl rfl rfl (sX9_next (by omega) e180) ?_
                rintro _ _ ⟨rfl, rfl⟩
                refine xw_y hd0 1 [] rfl trivial ?_
                exact ih _ _ _ _ _ _ e
          · refine xw_y hd0 24 [0, 0, 1, 0, 1] rfl ⟨nt h1, nt h125, nt h141, nt h1, nt h157, rfl, trivial⟩ ?_
            obtain ⟨x181, A182, V183, c184, e185, e⟩ := bX_ok e
            refine xw_call (k := 150) (j := 2) rfl (fun F => xm_c_ok (y_c_ok rfl) F) rfl rfl rfl (sX9_ahead (by omega) e185) ?_
            rintro _ _ ⟨rfl, rfl⟩
            rcases ite_ok e with ⟨h186, e⟩ | ⟨h186, e⟩
            · cases e
              exact xw_yr hd0 4 [0] rfl ⟨nnt h186, rfl, trivial⟩ ⟨rfl, rfl⟩
            · refine xw_y hd0 8 [1, 0] rfl ⟨nt h186, rfl, trivial⟩ ?_
              obtain ⟨A188, V189, c190, e191, e⟩ := bS_ok e
              refine xw_call (k := 141) (j := 1) rfl (fun F => xm_c_ok (y_c_ok rfl) F) rfl rfl rfl (sX9_next (by omega) e191) ?_
              rintro _ _ ⟨rfl, rfl⟩
              refine xw_y hd0 1 [] rfl trivial ?_
              exact ih _ _ _ _ _ _ e
set_option maxRecDepth 20000 in
set_option maxHeartbeats 4000000 in
theorem sX9_readE {LL : Nat} {xs : Nat → Int32} {tx : List xh_T} {d : Nat} {A V : xM} {cu : Value} {A' V' : xM} {c' : Value} {r : Int32} {l1 : Int32} (hd : 64 ≤ d) (e : fX9_readE l1 A V cu = some (r, A', V', c')) : xe (xk_ro LL xs) d 151 [.ref 132, .int l1] (xh A V tx cu) (qI r (xh A' V' tx c')) := by
  obtain ⟨d, rfl⟩ : ∃ d1, d = d1 + 1 := ⟨d - 1, by omega⟩
  replace hd : 63 ≤ d := by omega
  have hd0 : 60 ≤ d := by omega
  refine xe_of (co := xk_151) (nl := 5) rfl rfl rfl ?_
  unfold fX9_readE at e
  refine xw_y hd0 26 [] rfl ⟨rfl, rfl, rfl, rfl, rfl, rfl, trivial⟩ ?_
  refine slX9_readE_L40 hd ?_ FU _ _ _ _ _ _ e
  · intro z192 z193 z194 A195 V196 c197 e
    refine xw_y hd0 2 [] rfl trivial ?_
    obtain ⟨A199, V200, c201, e202, e⟩ := bS_ok e
    refine xw_call (k := 146) (j := 2) rfl (fun F => xm_c_ok (y_c_ok rfl) F) rfl rfl rfl (sX9_doAll (by omega) e202) ?_
    rintro _ _ ⟨rfl, rfl⟩
    obtain ⟨h203, e⟩ := bC_ok e
    cases e
    exact xw_yr hd0 9 [] rfl ⟨h203, rfl, trivial⟩ ⟨rfl, rfl⟩
set_option maxRecDepth 20000 in
set_option maxHeartbeats 4000000 in
theorem slX9_readAll_L7 {LL : Nat} {xs : Nat → Int32} {tx : List xh_T} {d : Nat} {A' V' : xM} {c' : Value} {r : Int32} {l1 : Int32} {ex : xM → xM → Value → Option (Int32 × xS)} {ex1 : xM → xM → Value → Option (Int32 × xS)} {ex2 : xM → xM → Value → Option (Int32 × xS)} (hd : 64 ≤ d) (hex : ∀ (w1 w2 : Option Value) (A V : xM) (cu : Value), ex  A V cu = some (r, A', V', c') → xw (xk_ro LL xs) d xk_152 56 [some (.ref 132), w1, w2] [] (xh A V tx cu) (qI r (xh A' V' tx c'))) (hex1 : ∀ (w1 w2 : Option Value) (A V : xM) (cu : Value), ex1  A V cu = some (r, A', V', c') → xw (xk_ro LL xs) d xk_152 24 [some (.ref 132), w1, w2] [] (xh A V tx cu) (qI r (xh A' V' tx c'))) (hex2 : ∀ (w1 w2 : Option Value) (A V : xM) (cu : Value), ex2  A V cu = some (r, A', V', c') → xw (xk_ro LL xs) d xk_152 45 [some (.ref 132), w1, w2] [] (xh A V tx cu) (qI r (xh A' V' tx c'))) : ∀ (n : Nat) (l2 : Int32) (A V : xM) (cu : Value), fX9_readAll_L7 l1 ex ex1 ex2 n l2 A V cu = some (r, A', V', c') → xw (xk_ro LL xs) d xk_152 7 [some (.ref 132), some (.int l1), some (.int l2)] [] (xh A V tx cu) (qI r (xh A' V' tx c')) := by
  have hd0 : 60 ≤ d := by omega
  intro n
  induction n with
  | zero =>
    intro l2 A V cu e
    rw [fX9_readAll_L7] at e
    cases e
  | succ n ih =>
    intro l2 A V cu e
    rw [fX9_readAll_L7] at e
    rcases ite_ok e with ⟨h1, e⟩ | ⟨h1, e⟩
    · refine xw_y hd0 3 [1] rfl ⟨decide_eq_true h1, trivial⟩ ?_
      exact hex _ _ _ _ _ e
    · refine xw_y hd0 4 [0] rfl ⟨nt h1, trivial⟩ ?_
      obtain ⟨A3, V4, c5, e6, e⟩ := bS_ok e
      refine xw_call (k := 141) (j := 1) rfl (fun F => xm_c_ok (y_c_ok rfl) F) rfl rfl rfl (sX9_next (by omega) e6) ?_
      rintro _ _ ⟨rfl, rfl⟩
      rcases ite_ok e with ⟨h7, e⟩ | ⟨h7, e⟩
      · rcases ite_ok e with ⟨h8, e⟩ | ⟨h8, e⟩
        · refine xw_y hd0 16 [0, 0, 1] rfl ⟨nnt h7, nnt h8, rfl, rfl, trivial⟩ ?_
          obtain ⟨A10, V11, c12, e13, e⟩ := bS_ok e
          refine xw_call (k := 141) (j := 1) rfl (fun F => xm_c_ok (y_c_ok rfl) F) rfl rfl rfl (sX9_next (by omega) e13) ?_
          rintro _ _ ⟨rfl, rfl⟩
          refine xw_y hd0 6 [] rfl trivial ?_
          obtain ⟨x14, A15, V16, c17, e18, e⟩ := bX_ok e
          refine xw_call (k := 151) (j := 2) rfl (fun F => xm_c_ok (y_c_ok rfl) F) rfl rfl rfl (sX9_readE (by omega) e18) ?_
          rintro _ _ ⟨rfl, rfl⟩
          rcases ite_ok e with ⟨h19, e⟩ | ⟨h19, e⟩
          · refine xw_y hd0 1 [0] rfl ⟨nnt h19, trivial⟩ ?_
            exact hex2 _ _ _ _ _ e
          · refine xw_y hd0 3 [1] rfl ⟨nt h19, trivial⟩ ?_
            exact ih _ _ _ _ e
        · refine xw_y hd0 14 [0, 1, 0] rfl ⟨nnt h7, nt h8, rfl, rfl, trivial⟩ ?_
          exact hex1 _ _ _ _ _ e
      · refine xw_y hd0 10 [1, 0] rfl ⟨nt h7, rfl, rfl, trivial⟩ ?_
        exact hex1 _ _ _ _ _ e
set_option maxRecDepth 20000 in
set_option maxHeartbeats 4000000 in
theorem sX9_readAll {LL : Nat} {xs : Nat → Int32} {tx : List xh_T} {d : Nat} {A V : xM} {cu : Value} {A' V' : xM} {c' : Value} {r : Int32} {l1 : Int32} (hd : 65 ≤ d) (e : fX9_readAll l1 A V cu = some (r, A', V', c')) : xe (xk_ro LL xs) d 152 [.ref 132, .int l1] (xh A V tx cu) (qI r (xh A' V' tx c')) := by
  obtain ⟨d, rfl⟩ : ∃ d1, d = d1 + 1 := ⟨d - 1, by omega⟩
  replace hd : 64 ≤ d := by omega
  have hd0 : 60 ≤ d := by omega
  refine xe_of (co := xk_152) (nl := 3) rfl rfl rfl ?_
  unfold fX9_readAll at e
  refine xw_y hd0 5 [] rfl ⟨rfl, trivial⟩ ?_
  refine slX9_readAll_L7 hd ?_ ?_ ?_ FU _ _ _ _ e
  · intro z20 z21 A22 V23 c24 e
    refine xw_y hd0 1 [] rfl trivial ?_
    obtain ⟨A26, V27, c28, e29, e⟩ := bS_ok e
    refine xw_call (k := 141) (j := 1) rfl (fun F => xm_c_ok (y_c_ok rfl) F) rfl rfl rfl (sX9_next (by omega) e29) ?_
    rintro _ _ ⟨rfl, rfl⟩
    rcases ite_ok e with ⟨h30, e⟩ | ⟨h30, e⟩
    · cases e
      exact xw_yr hd0 8 [0] rfl ⟨nnt h30, rfl, trivial⟩ ⟨rfl, rfl⟩
    · cases e
      exact xw_yr hd0 8 [1] rfl ⟨nt h30, rfl, trivial⟩ ⟨rfl, rfl⟩
  · intro z31 z32 A33 V34 c35 e
    cases e
    exact xw_yr hd0 4 [] rfl ⟨rfl, trivial⟩ ⟨rfl, rfl⟩
  · intro z36 z37 A38 V39 c40 e
    cases e
    exact xw_yr hd0 4 [] rfl ⟨rfl, trivial⟩ ⟨rfl, rfl⟩
set_option maxRecDepth 20000 in
set_option maxHeartbeats 4000000 in
theorem sX9_text {LL : Nat} {xs : Nat → Int32} {tx : List xh_T} {d : Nat} {A V : xM} {cu : Value} {A' V' : xM} {c' : Value} {r : Int32} (hd : 66 ≤ d) (e : fX9_text A V cu = some (r, A', V', c')) : xe (xk_ro LL xs) d 153 [.ref 132] (xh A V tx cu) (qI r (xh A' V' tx c')) := by
  obtain ⟨d, rfl⟩ : ∃ d1, d = d1 + 1 := ⟨d - 1, by omega⟩
  replace hd : 65 ≤ d := by omega
  have hd0 : 60 ≤ d := by omega
  refine xe_of (co := xk_153) (nl := 2) rfl rfl rfl ?_
  unfold fX9_text at e
  rcases ite_ok e with ⟨h1, e⟩ | ⟨h1, e⟩
  · obtain ⟨rfl, rfl, rfl, rfl⟩ := ok4 e
    exact xw_yr hd0 7 [0] rfl ⟨nnt h1, rfl, trivial⟩ ⟨rfl, rfl⟩
  · refine xw_y hd0 7 [1] rfl ⟨nt h1, trivial⟩ ?_
    obtain ⟨x2, A3, V4, c5, e6, e⟩ := bX_ok e
    refine xw_call (k := 152) (j := 2) rfl (fun F => xm_c_ok (y_c_ok rfl) F) rfl rfl rfl (sX9_readAll (by omega) e6) ?_
    rintro _ _ ⟨rfl, rfl⟩
    rcases ite_ok e with ⟨h7, e⟩ | ⟨h7, e⟩
    · obtain ⟨rfl, rfl, rfl, rfl⟩ := ok4 e
      exact xw_yr hd0 19 [1] rfl ⟨rfl, decide_eq_true h7, rfl, rfl, trivial⟩ ⟨rfl, rfl⟩
    · obtain ⟨rfl, rfl, rfl, rfl⟩ := ok4 e
      exact xw_yr hd0 12 [0] rfl ⟨rfl, nt h7, rfl, trivial⟩ ⟨rfl, rfl⟩
