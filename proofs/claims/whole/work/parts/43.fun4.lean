def fX8_feed (l1 : Int32) (l2 : Int32) (l3 : Int32) (l4 : Int32) (l5 : Int32) (l6 : Int32) (A V : xM) (cu : Value) : Option (Int32 × xS) := if l1 < (1 : Int32) then (some ((-2 : Int32), A, V, cu)) else (if (5 : Int32) < l1 then (some ((-2 : Int32), A, V, cu)) else (if (((((l2 ||| l3) ||| l4) ||| l5) ||| l6) &&& (-256 : Int32)) = 0 then (if ((V 95 1) + l1) ≤ (160 : Int32) then (bS (fX4_add l2 A V cu) (fun A6 V7 c8 => if l1 ≤ (1 : Int32) then (if l1 ≤ (2 : Int32) then (if l1 ≤ (3 : Int32) then (if l1 ≤ (4 : Int32) then (some ((V7 95 1), A6, V7, c8)) else (bS (fX4_add l6 A6 V7 c8) (fun A15 V16 c17 => some ((V16 95 1), A15, V16, c17)))) else (bS (fX4_add l5 A6 V7 c8) (fun A20 V21 c22 => if l1 ≤ (4 : Int32) then (some ((V21 95 1), A20, V21, c22)) else (bS (fX4_add l6 A20 V21 c22) (fun A26 V27 c28 => some ((V27 95 1), A26, V27, c28)))))) else (bS (fX4_add l4 A6 V7 c8) (fun A31 V32 c33 => if l1 ≤ (3 : Int32) then (if l1 ≤ (4 : Int32) then (some ((V32 95 1), A31, V32, c33)) else (bS (fX4_add l6 A31 V32 c33) (fun A38 V39 c40 => some ((V39 95 1), A38, V39, c40)))) else (bS (fX4_add l5 A31 V32 c33) (fun A43 V44 c45 => if l1 ≤ (4 : Int32) then (some ((V44 95 1), A43, V44, c45)) else (bS (fX4_add l6 A43 V44 c45) (fun A49 V50 c51 => some ((V50 95 1), A49, V50, c51)))))))) else (bS (fX4_add l3 A6 V7 c8) (fun A54 V55 c56 => if l1 ≤ (2 : Int32) then (if l1 ≤ (3 : Int32) then (if l1 ≤ (4 : Int32) then (some ((V55 95 1), A54, V55, c56)) else (bS (fX4_add l6 A54 V55 c56) (fun A62 V63 c64 => some ((V63 95 1), A62, V63, c64)))) else (bS (fX4_add l5 A54 V55 c56) (fun A67 V68 c69 => if l1 ≤ (4 : Int32) then (some ((V68 95 1), A67, V68, c69)) else (bS (fX4_add l6 A67 V68 c69) (fun A73 V74 c75 => some ((V74 95 1), A73, V74, c75)))))) else (bS (fX4_add l4 A54 V55 c56) (fun A78 V79 c80 => if l1 ≤ (3 : Int32) then (if l1 ≤ (4 : Int32) then (some ((V79 95 1), A78, V79, c80)) else (bS (fX4_add l6 A78 V79 c80) (fun A85 V86 c87 => some ((V86 95 1), A85, V86, c87)))) else (bS (fX4_add l5 A78 V79 c80) (fun A90 V91 c92 => if l1 ≤ (4 : Int32) then (some ((V91 95 1), A90, V91, c92)) else (bS (fX4_add l6 A90 V91 c92) (fun A96 V97 c98 => some ((V97 95 1), A96, V97, c98))))))))))) else (some ((-4 : Int32), A, V, cu))) else (some ((-2 : Int32), A, V, cu))))
def fX8_asks (tx : List xh_T) (l1 : Int32) (l2 : Int32) (l3 : Int32) (l4 : Int32) (A V : xM) (cu : Value) : Option (Int32 × xS) := if l1 < 0 then (some ((-2 : Int32), A, V, cu)) else (if (3 : Int32) ≤ l1 then (some ((-2 : Int32), A, V, cu)) else (if l2 < 0 then (some ((-2 : Int32), A, V, cu)) else (if l2 ≤ (999 : Int32) then (if l3 < 0 then (some ((-2 : Int32), A, V, cu)) else (if (6 : Int32) ≤ (l3 / (10 : Int32)) then (some ((-2 : Int32), A, V, cu)) else (if (l3 - l3 / (10 : Int32) * (10 : Int32)) < 0 then (some ((-2 : Int32), A, V, cu)) else (if (4 : Int32) ≤ (l3 - l3 / (10 : Int32) * (10 : Int32)) then (some ((-2 : Int32), A, V, cu)) else (if l4 < 0 then (some ((-2 : Int32), A, V, cu)) else (if l4 ≤ (99 : Int32) then (bC (xq_in (V 64 16) 6 && Nat.ble (V 64 16).toNatClampNeg tx.length) (bS (fX6_begin (tref (V 64 16).toNatClampNeg) (l3 / (10 : Int32)) (l3 - l3 / (10 : Int32) * (10 : Int32)) l4 A V cu) (fun A14 V15 c16 => bS (fX6_before (l2 / (100 : Int32)) ((l2 / (10 : Int32)) - (l2 / (10 : Int32)) / (10 : Int32) * (10 : Int32)) (l2 - l2 / (10 : Int32) * (10 : Int32)) A14 V15 c16) (fun A19 V20 c21 => bX (fX6_says tx l1 A19 V20 c21) (fun x23 A24 V25 c26 => if x23 = 0 then (some ((0 : Int32), A24, V25, c26)) else (some ((1 : Int32), A24, V25, c26))))))) else (some ((-2 : Int32), A, V, cu)))))))) else (some ((-2 : Int32), A, V, cu)))))
def fX8_person (l1 : Int32) (l2 : Int32) (l3 : Int32) (A V : xM) (cu : Value) : Option (Int32 × xS) := bX (fX2_come l1 l2 l3 A V cu) (fun x1 A2 V3 c4 => some (x1, A2, V3, c4))
def fX8_tellsRooms_L2 (l0 : Nat) (A V : xM) (ex : Option (Int32)) : Nat → Int32 → Option (Int32)
  | 0, _ => none
  | n + 1, l1 => if (V l0 2) ≤ l1 then (ex) else (bI (fX5_at l0 l1 A V) (fun x2 => if x2 = (-1 : Int32) then (fX8_tellsRooms_L2 l0 A V ex n (l1 + Int32.ofInt 1)) else (bI (fX5_at l0 l1 A V) (fun x5 => if x5 < 0 then (some (0 : Int32)) else (if (4 : Int32) ≤ x5 then (some (0 : Int32)) else (fX8_tellsRooms_L2 l0 A V ex n (l1 + Int32.ofInt 1)))))))
def fX8_tellsRooms (l0 : Nat) (A V : xM) : Option (Int32) := fX8_tellsRooms_L2 l0 A V (some (1 : Int32)) FU (0 : Int32)
def fX8_isSeated_L12 (l1 : Nat) (l2 : Int32) (A V : xM) (ex : Int32 → Option (Int32)) : Nat → Int32 → Int32 → Option (Int32)
  | 0, _, _ => none
  | n + 1, l3, l4 => if (V l1 2) ≤ l4 then (ex l3) else (bI (fX5_at l1 l4 A V) (fun x2 => if x2 = l2 then (fX8_isSeated_L12 l1 l2 A V ex n (l3 + (1 : Int32)) (l4 + Int32.ofInt 1)) else (fX8_isSeated_L12 l1 l2 A V ex n (l3 + (0 : Int32)) (l4 + Int32.ofInt 1))))
def fX8_isSeated_L2 (l1 : Nat) (A V : xM) (ex : Option (Int32)) : Nat → Int32 → Option (Int32)
  | 0, _ => none
  | n + 1, l2 => if (4 : Int32) ≤ l2 then (ex) else (fX8_isSeated_L12 l1 l2 A V (fun (l3_6 : Int32) => bC (xq_in l2 4) (if l3_6 ≤ (A 100 l2.toNatClampNeg) then (fX8_isSeated_L2 l1 A V ex n (l2 + Int32.ofInt 1)) else (some (0 : Int32)))) FU (0 : Int32) (0 : Int32))
def fX8_isSeated (l1 : Nat) (A V : xM) : Option (Int32) := fX8_isSeated_L2 l1 A V (some (1 : Int32)) FU (0 : Int32)
def fX8_evening_L114 (l4 : Nat) (l5 : Nat) (ex : xM → xM → Value → Option (Int32 × xS)) : Nat → Int32 → xM → xM → Value → Option (Int32 × xS)
  | 0, _, _, _, _ => none
  | n + 1, l6, A, V, cu => if (5 : Int32) ≤ l6 then (ex  A V cu) else (if (V l4 2) ≤ l6 then (bC (xq_in ((2 : Int32) + l6) 7) (fX8_evening_L114 l4 l5 ex n (l6 + Int32.ofInt 1) (aw A l5 ((2 : Int32) + l6) (-1 : Int32)) V cu)) else (bI (fX5_at l4 l6 A V) (fun x4 => bC (xq_in ((2 : Int32) + l6) 7) (fX8_evening_L114 l4 l5 ex n (l6 + Int32.ofInt 1) (aw A l5 ((2 : Int32) + l6) x4) V cu))))
def fX8_evening (l1 : Int32) (l2 : Int32) (l3 : Int32) (A V : xM) (cu : Value) : Option (Int32 × xS) := if l1 < 0 then (some ((-2 : Int32), A, V, cu)) else (if (V 64 13) ≤ l1 then (some ((-2 : Int32), A, V, cu)) else (if (6 : Int32) ≤ l1 then (some ((-2 : Int32), A, V, cu)) else (if l2 < 0 then (some ((-2 : Int32), A, V, cu)) else (if (4 : Int32) ≤ l2 then (some ((-2 : Int32), A, V, cu)) else (if l3 < 0 then (some ((-2 : Int32), A, V, cu)) else (if (4 : Int32) ≤ l3 then (some ((-2 : Int32), A, V, cu)) else (bC (xq_in l3 4) (if V (122 + 2 * l3.toNatClampNeg) 1 = -1 then (some ((-11 : Int32), A, V, cu)) else (if (V (122 + 2 * l3.toNatClampNeg) 2) = (V 65 3) then (bI (fX8_tellsRooms (122 + 2 * l3.toNatClampNeg) A V) (fun x18 => if x18 = 0 then (some ((-2 : Int32), A, V, cu)) else (bI (fX8_isSeated (122 + 2 * l3.toNatClampNeg) A V) (fun x21 => if x21 = 0 then (some ((-3 : Int32), A, V, cu)) else (if (V 64 14) < (12 : Int32) then (bC (xq_in (V 64 14) 12) (bC (xq_in (0 : Int32) 7) (bC (xq_in (1 : Int32) 7) (fX8_evening_L114 (122 + 2 * l3.toNatClampNeg) (102 + (V 64 14).toNatClampNeg) (fun (A34 V35 : xM) (c36 : Value) => some ((((up2 V35 64 14 ((V35 64 14) + (1 : Int32))) 64 14) - (1 : Int32)), A34, (up2 V35 64 14 ((V35 64 14) + (1 : Int32))), c36)) FU (0 : Int32) (aw (aw A (102 + (V 64 14).toNatClampNeg) (0 : Int32) l1) (102 + (V 64 14).toNatClampNeg) (1 : Int32) l2) V cu)))) else (some ((-4 : Int32), A, V, cu))))))) else (some ((-2 : Int32), A, V, cu)))))))))))
def fX8_peopleIn_L4 (l0 : Nat) (l1 : Int32) (A V : xM) (ex : Int32 → Option (Int32)) : Nat → Int32 → Int32 → Option (Int32)
  | 0, _, _ => none
  | n + 1, l2, l3 => if (5 : Int32) ≤ l3 then (ex l2) else (bC (xq_in ((2 : Int32) + l3) 7) (if (A l0 ((2 : Int32) + l3).toNatClampNeg) = (-1 : Int32) then (fX8_peopleIn_L4 l0 l1 A V ex n l2 (l3 + Int32.ofInt 1)) else (if ((l1 >>> ((A l0 ((2 : Int32) + l3).toNatClampNeg) &&& 31)) &&& (1 : Int32)) = 0 then (fX8_peopleIn_L4 l0 l1 A V ex n l2 (l3 + Int32.ofInt 1)) else (fX8_peopleIn_L4 l0 l1 A V ex n (l2 ||| ((1 : Int32) <<< (l3 &&& 31))) (l3 + Int32.ofInt 1)))))
def fX8_peopleIn (l0 : Nat) (l1 : Int32) (A V : xM) : Option (Int32) := fX8_peopleIn_L4 l0 l1 A V (fun (l2_5 : Int32) => some l2_5) FU (0 : Int32) (0 : Int32)
def fX8_live_L16 (tx : List xh_T) (l2 : Nat) (l1 : Int32) (ex : Int32 → xM → xM → Value → Option (Int32 × xS)) : Nat → Int32 → Int32 → xM → xM → Value → Option (Int32 × xS)
  | 0, _, _, _, _, _ => none
  | n + 1, l3, l4, A, V, cu => if l1 ≤ l4 then (ex l3 A V cu) else (if (12 : Int32) ≤ l4 then (ex l3 A V cu) else (bC (xq_in l4 12) (bC (xq_in (1 : Int32) 7) (bC (xq_in (0 : Int32) 7) (if (A (102 + l4.toNatClampNeg) (0 : Int32).toNatClampNeg) < 0 then (fX8_live_L16 tx l2 l1 ex n l3 (l4 + Int32.ofInt 1) A V cu) else (if (V 64 13) ≤ (A (102 + l4.toNatClampNeg) (0 : Int32).toNatClampNeg) then (fX8_live_L16 tx l2 l1 ex n l3 (l4 + Int32.ofInt 1) A V cu) else (if (6 : Int32) ≤ (A (102 + l4.toNatClampNeg) (0 : Int32).toNatClampNeg) then (fX8_live_L16 tx l2 l1 ex n l3 (l4 + Int32.ofInt 1) A V cu) else (if (A (102 + l4.toNatClampNeg) (1 : Int32).toNatClampNeg) < 0 then (fX8_live_L16 tx l2 l1 ex n l3 (l4 + Int32.ofInt 1) A V cu) else (if (4 : Int32) ≤ (A (102 + l4.toNatClampNeg) (1 : Int32).toNatClampNeg) then (fX8_live_L16 tx l2 l1 ex n l3 (l4 + Int32.ofInt 1) A V cu) else (bS (fX6_begin l2 (A (102 + l4.toNatClampNeg) (0 : Int32).toNatClampNeg) (A (102 + l4.toNatClampNeg) (1 : Int32).toNatClampNeg) l4 A V cu) (fun A13 V14 c15 => bI (fX8_peopleIn (102 + l4.toNatClampNeg) ((1 : Int32) <<< ((A (102 + l4.toNatClampNeg) (1 : Int32).toNatClampNeg) &&& 31)) A13 V14) (fun x17 => bX (fX6_may tx 77 x17 A13 V14 c15) (fun x19 A20 V21 c22 => if x19 = 0 then (if l3 = (-1 : Int32) then (fX8_live_L16 tx l2 l1 ex n l4 (l4 + Int32.ofInt 1) A20 V21 c22) else (fX8_live_L16 tx l2 l1 ex n l3 (l4 + Int32.ofInt 1) A20 V21 c22)) else (bC (xq_in (A (102 + l4.toNatClampNeg) (1 : Int32).toNatClampNeg) 4) (bI (fX8_peopleIn (102 + l4.toNatClampNeg) (A20 99 (A (102 + l4.toNatClampNeg) (1 : Int32).toNatClampNeg).toNatClampNeg) A20 V21) (fun x27 => bS (fX6_spread tx 77 x17 x27 A20 V21 c22) (fun A30 V31 c32 => fX8_live_L16 tx l2 l1 ex n l3 (l4 + Int32.ofInt 1) A30 V31 c32)))))))))))))))))
def fX8_live (tx : List xh_T) (l2 : Nat) (l1 : Int32) (A V : xM) (cu : Value) : Option (Int32 × xS) := bS (fX1_take 77 73 A V cu) (fun A35 V36 c37 => fX8_live_L16 tx l2 l1 (fun (l3_39 : Int32) (A47 V48 : xM) (c49 : Value) => some (l3_39, A47, V48, c49)) FU (-1 : Int32) (0 : Int32) A35 V36 c37)
def fX8_knows (tx : List xh_T) (l1 : Int32) (l2 : Int32) (l3 : Int32) (A V : xM) (cu : Value) : Option (Int32 × xS) := if l1 < 0 then (some ((-5 : Int32), A, V, cu)) else (if (V 64 14) < l1 then (some ((-5 : Int32), A, V, cu)) else (if l2 < 0 then (some ((-5 : Int32), A, V, cu)) else (if (V 65 3) ≤ l2 then (some ((-5 : Int32), A, V, cu)) else (if (5 : Int32) ≤ l2 then (some ((-5 : Int32), A, V, cu)) else (if l3 < 0 then (some ((-5 : Int32), A, V, cu)) else (if (V 64 13) ≤ l3 then (some ((-5 : Int32), A, V, cu)) else (if (6 : Int32) ≤ l3 then (some ((-5 : Int32), A, V, cu)) else (bC (xq_in (V 64 16) 6 && Nat.ble (V 64 16).toNatClampNeg tx.length) (bX (fX8_live tx (tref (V 64 16).toNatClampNeg) l1 A V cu) (fun x11 A12 V13 c14 => bI (fX1_amount 77 l2 l3 A12 V13) (fun x16 => some (x16, A12, V13, c14))))))))))))
def fX8_all (tx : List xh_T) (l1 : Int32) (l2 : Int32) (l3 : Int32) (A V : xM) (cu : Value) : Option (Int32 × xS) := if l1 < 0 then (some ((-5 : Int32), A, V, cu)) else (if (V 64 14) < l1 then (some ((-5 : Int32), A, V, cu)) else (if l2 < 0 then (some ((-5 : Int32), A, V, cu)) else (if (V 64 13) ≤ l2 then (some ((-5 : Int32), A, V, cu)) else (if (6 : Int32) ≤ l2 then (some ((-5 : Int32), A, V, cu)) else (if l3 < 0 then (some ((-7 : Int32), A, V, cu)) else (if l3 ≤ (2 : Int32) then (bC (xq_in (V 64 16) 6 && Nat.ble (V 64 16).toNatClampNeg tx.length) (bX (fX8_live tx (tref (V 64 16).toNatClampNeg) l1 A V cu) (fun x10 A11 V12 c13 => bI (fX1_who 77 l2 l3 A11 V12) (fun x15 => some (x15, A11, V12, c13))))) else (some ((-7 : Int32), A, V, cu))))))))
def fX8_judge (tx : List xh_T) (A V : xM) (cu : Value) : Option (Int32 × xS) := bC (xq_in (V 64 16) 6 && Nat.ble (V 64 16).toNatClampNeg tx.length) (bX (fX8_live tx (tref (V 64 16).toNatClampNeg) (V 64 14) A V cu) (fun x3 A4 V5 c6 => some (x3, A4, V5, c6)))
def fX8_laws_L4 (tx : List xh_T) (ex : Int32 → xM → xM → Value → Option (Int32 × xS)) : Nat → Int32 → Int32 → xM → xM → Value → Option (Int32 × xS)
  | 0, _, _, _, _, _ => none
  | n + 1, l1, l2, A, V, cu => if (V 64 15) ≤ l2 then (ex l1 A V cu) else (if (6 : Int32) ≤ l2 then (ex l1 A V cu) else (bC (xq_in l2 6 && Nat.ble l2.toNatClampNeg tx.length) (bX (fX8_live tx (tref l2.toNatClampNeg) (V 64 14) A V cu) (fun x4 A5 V6 c7 => if x4 = (-1 : Int32) then (fX8_laws_L4 tx ex n (l1 ||| ((1 : Int32) <<< (l2 &&& 31))) (l2 + Int32.ofInt 1) A5 V6 c7) else (fX8_laws_L4 tx ex n l1 (l2 + Int32.ofInt 1) A5 V6 c7)))))
def fX8_laws (tx : List xh_T) (A V : xM) (cu : Value) : Option (Int32 × xS) := fX8_laws_L4 tx (fun (l1_10 : Int32) (A13 V14 : xM) (c15 : Value) => some (l1_10, A13, V14, c15)) FU (0 : Int32) (0 : Int32) A V cu
def fX8_mayAtFirst (tx : List xh_T) (l1 : Int32) (l2 : Int32) (l3 : Int32) (A V : xM) (cu : Value) : Option (Int32 × xS) := bC (xq_in (V 64 16) 6 && Nat.ble (V 64 16).toNatClampNeg tx.length) (bS (fX6_begin (tref (V 64 16).toNatClampNeg) l1 l2 (0 : Int32) A V cu) (fun A4 V5 c6 => bX (fX6_may tx 73 l3 A4 V5 c6) (fun x8 A9 V10 c11 => bC (decide (x8 = 0) || decide (x8 = 1)) (some (x8, A9, V10, c11)))))
def fX8_feast_L23 (tx : List xh_T) (l1 : Int32) (l2 : Int32) (ex : Int32 → xM → xM → Value → Option (Int32 × xS)) : Nat → Int32 → Int32 → xM → xM → Value → Option (Int32 × xS)
  | 0, _, _, _, _, _ => none
  | n + 1, l3, l4, A, V, cu => if (V 64 13) ≤ l4 then (ex l3 A V cu) else (if (6 : Int32) ≤ l4 then (ex l3 A V cu) else (bX (fX8_mayAtFirst tx l4 l1 l2 A V cu) (fun x3 A4 V5 c6 => if x3 = 0 then (fX8_feast_L23 tx l1 l2 ex n l3 (l4 + Int32.ofInt 1) A4 V5 c6) else (fX8_feast_L23 tx l1 l2 ex n (l3 ||| ((1 : Int32) <<< (l4 &&& 31))) (l4 + Int32.ofInt 1) A4 V5 c6))))
def fX8_feast (tx : List xh_T) (l1 : Int32) (l2 : Int32) (A V : xM) (cu : Value) : Option (Int32 × xS) := if l1 < 0 then (some ((-2 : Int32), A, V, cu)) else (if (4 : Int32) ≤ l1 then (some ((-2 : Int32), A, V, cu)) else (if (l2 &&& ((((1 : Int32) <<< ((V 65 3) &&& 31)) - (1 : Int32)) ^^^ (-1 : Int32))) = 0 then (fX8_feast_L23 tx l1 l2 (fun (l3_12 : Int32) (A17 V18 : xM) (c19 : Value) => some (l3_12, A17, V18, c19)) FU (0 : Int32) (0 : Int32) A V cu) else (some ((-2 : Int32), A, V, cu))))
def fX8_leave_L35 (tx : List xh_T) (l1 : Int32) (l2 : Int32) (l3 : Int32) (ex : Int32 → xM → xM → Value → Option (Int32 × xS)) : Nat → Int32 → Int32 → xM → xM → Value → Option (Int32 × xS)
  | 0, _, _, _, _, _ => none
  | n + 1, l4, l5, A, V, cu => if l3 < l5 then (ex l4 A V cu) else (if l4 = (-1 : Int32) then (if (l5 &&& (l3 ^^^ (-1 : Int32))) = 0 then (bX (fX8_mayAtFirst tx l1 l2 (l3 &&& (l5 ^^^ (-1 : Int32))) A V cu) (fun x4 A5 V6 c7 => if x4 = 0 then (fX8_leave_L35 tx l1 l2 l3 ex n l4 (l5 + Int32.ofInt 1) A5 V6 c7) else (fX8_leave_L35 tx l1 l2 l3 ex n l5 (l5 + Int32.ofInt 1) A5 V6 c7))) else (fX8_leave_L35 tx l1 l2 l3 ex n l4 (l5 + Int32.ofInt 1) A V cu)) else (bI (fJ6_bitCount_0f7a4 l5 A V) (fun x10 => bI (fJ6_bitCount_0f7a4 l4 A V) (fun x12 => if x12 ≤ x10 then (if (l5 &&& (l3 ^^^ (-1 : Int32))) = 0 then (fX8_leave_L35 tx l1 l2 l3 ex n l4 (l5 + Int32.ofInt 1) A V cu) else (fX8_leave_L35 tx l1 l2 l3 ex n l4 (l5 + Int32.ofInt 1) A V cu)) else (if (l5 &&& (l3 ^^^ (-1 : Int32))) = 0 then (bX (fX8_mayAtFirst tx l1 l2 (l3 &&& (l5 ^^^ (-1 : Int32))) A V cu) (fun x17 A18 V19 c20 => if x17 = 0 then (fX8_leave_L35 tx l1 l2 l3 ex n l4 (l5 + Int32.ofInt 1) A18 V19 c20) else (fX8_leave_L35 tx l1 l2 l3 ex n l5 (l5 + Int32.ofInt 1) A18 V19 c20))) else (fX8_leave_L35 tx l1 l2 l3 ex n l4 (l5 + Int32.ofInt 1) A V cu))))))
def fX8_leave (tx : List xh_T) (l1 : Int32) (l2 : Int32) (l3 : Int32) (A V : xM) (cu : Value) : Option (Int32 × xS) := if l1 < 0 then (some ((-5 : Int32), A, V, cu)) else (if (V 64 13) ≤ l1 then (some ((-5 : Int32), A, V, cu)) else (if (6 : Int32) ≤ l1 then (some ((-5 : Int32), A, V, cu)) else (if l2 < 0 then (some ((-7 : Int32), A, V, cu)) else (if (4 : Int32) ≤ l2 then (some ((-7 : Int32), A, V, cu)) else (if (l3 &&& ((((1 : Int32) <<< ((V 65 3) &&& 31)) - (1 : Int32)) ^^^ (-1 : Int32))) = 0 then (fX8_leave_L35 tx l1 l2 l3 (fun (l4_29 : Int32) (A36 V37 : xM) (c38 : Value) => some (l4_29, A36, V37, c38)) FU (-1 : Int32) (0 : Int32) A V cu) else (some ((-7 : Int32), A, V, cu)))))))
def fX8_bars_L47 (tx : List xh_T) (l1 : Int32) (l2 : Int32) (l3 : Int32) (ex : Int32 → xM → xM → Value → Option (Int32 × xS)) : Nat → Int32 → Int32 → xM → xM → Value → Option (Int32 × xS)
  | 0, _, _, _, _, _ => none
  | n + 1, l4, l5, A, V, cu => if (V 65 3) ≤ l5 then (ex l4 A V cu) else (if (l3 &&& ((1 : Int32) <<< (l5 &&& 31))) = 0 then (fX8_bars_L47 tx l1 l2 l3 ex n l4 (l5 + Int32.ofInt 1) A V cu) else (bX (fX8_mayAtFirst tx l1 l2 (l3 &&& ((l3 &&& ((1 : Int32) <<< (l5 &&& 31))) ^^^ (-1 : Int32))) A V cu) (fun x3 A4 V5 c6 => if x3 = 0 then (fX8_bars_L47 tx l1 l2 l3 ex n l4 (l5 + Int32.ofInt 1) A4 V5 c6) else (fX8_bars_L47 tx l1 l2 l3 ex n (l4 ||| (l3 &&& ((1 : Int32) <<< (l5 &&& 31)))) (l5 + Int32.ofInt 1) A4 V5 c6))))
def fX8_bars (tx : List xh_T) (l1 : Int32) (l2 : Int32) (l3 : Int32) (A V : xM) (cu : Value) : Option (Int32 × xS) := if l1 < 0 then (some ((-5 : Int32), A, V, cu)) else (if (V 64 13) ≤ l1 then (some ((-5 : Int32), A, V, cu)) else (if (6 : Int32) ≤ l1 then (some ((-5 : Int32), A, V, cu)) else (if l2 < 0 then (some ((-7 : Int32), A, V, cu)) else (if (4 : Int32) ≤ l2 then (some ((-7 : Int32), A, V, cu)) else (if (l3 &&& ((((1 : Int32) <<< ((V 65 3) &&& 31)) - (1 : Int32)) ^^^ (-1 : Int32))) = 0 then (bX (fX8_mayAtFirst tx l1 l2 l3 A V cu) (fun x15 A16 V17 c18 => if x15 = 0 then (fX8_bars_L47 tx l1 l2 l3 (fun (l4_21 : Int32) (A28 V29 : xM) (c30 : Value) => some (l4_21, A28, V29, c30)) FU (0 : Int32) (0 : Int32) A16 V17 c18) else (some ((0 : Int32), A16, V17, c18)))) else (some ((-7 : Int32), A, V, cu)))))))
def fX8_isOverFor_L3 (tx : List xh_T) (l1 : Int32) (l2 : Int32) (l3 : Int32) (ex : xM → xM → Value → Option (Int32 × xS)) : Nat → Int32 → xM → xM → Value → Option (Int32 × xS)
  | 0, _, _, _, _ => none
  | n + 1, l4, A, V, cu => if (((1 : Int32) <<< ((V 65 3) &&& 31)) - (1 : Int32)) < l4 then (ex  A V cu) else (if ((l4 >>> (l1 &&& 31)) &&& (1 : Int32)) = 0 then (fX8_isOverFor_L3 tx l1 l2 l3 ex n (l4 + Int32.ofInt 1) A V cu) else (bI (fJ6_bitCount_0f7a4 l4 A V) (fun x3 => bC (xq_in l3 4) (if (A 100 l3.toNatClampNeg) < x3 then (fX8_isOverFor_L3 tx l1 l2 l3 ex n (l4 + Int32.ofInt 1) A V cu) else (bX (fX8_mayAtFirst tx l2 l3 l4 A V cu) (fun x7 A8 V9 c10 => if x7 = 0 then (fX8_isOverFor_L3 tx l1 l2 l3 ex n (l4 + Int32.ofInt 1) A8 V9 c10) else (some ((0 : Int32), A8, V9, c10))))))))
def fX8_isOverFor (tx : List xh_T) (l1 : Int32) (l2 : Int32) (l3 : Int32) (A V : xM) (cu : Value) : Option (Int32 × xS) := fX8_isOverFor_L3 tx l1 l2 l3 (fun (A19 V20 : xM) (c21 : Value) => some ((1 : Int32), A19, V20, c21)) FU (0 : Int32) A V cu
def fX8_ends_L26 (tx : List xh_T) (l1 : Int32) (l2 : Int32) (ex : Int32 → xM → xM → Value → Option (Int32 × xS)) : Nat → Int32 → Int32 → xM → xM → Value → Option (Int32 × xS)
  | 0, _, _, _, _, _ => none
  | n + 1, l3, l4, A, V, cu => if (V 64 13) ≤ l4 then (ex l3 A V cu) else (if (6 : Int32) ≤ l4 then (ex l3 A V cu) else (bX (fX8_isOverFor tx l1 l4 l2 A V cu) (fun x3 A4 V5 c6 => if x3 = 0 then (fX8_ends_L26 tx l1 l2 ex n l3 (l4 + Int32.ofInt 1) A4 V5 c6) else (fX8_ends_L26 tx l1 l2 ex n (l3 ||| ((1 : Int32) <<< (l4 &&& 31))) (l4 + Int32.ofInt 1) A4 V5 c6))))
def fX8_ends (tx : List xh_T) (l1 : Int32) (l2 : Int32) (A V : xM) (cu : Value) : Option (Int32 × xS) := if l1 < 0 then (some ((-5 : Int32), A, V, cu)) else (if (V 65 3) ≤ l1 then (some ((-5 : Int32), A, V, cu)) else (if (5 : Int32) ≤ l1 then (some ((-5 : Int32), A, V, cu)) else (if l2 < 0 then (some ((-7 : Int32), A, V, cu)) else (if (4 : Int32) ≤ l2 then (some ((-7 : Int32), A, V, cu)) else (fX8_ends_L26 tx l1 l2 (fun (l3_14 : Int32) (A19 V20 : xM) (c21 : Value) => some (l3_14, A19, V20, c21)) FU (0 : Int32) (0 : Int32) A V cu)))))
def fX8_least (tx : List xh_T) (l1 : Int32) (l2 : Int32) (l3 : Int32) (l4 : Int32) (l5 : Int32) (A V : xM) (cu : Value) : Option (Int32 × xS) := if l1 < 0 then (some ((-5 : Int32), A, V, cu)) else (if (V 64 13) ≤ l1 then (some ((-5 : Int32), A, V, cu)) else (if (6 : Int32) ≤ l1 then (some ((-5 : Int32), A, V, cu)) else (if l2 < 0 then (some ((-5 : Int32), A, V, cu)) else (if (4 : Int32) ≤ l2 then (some ((-5 : Int32), A, V, cu)) else (if (l3 &&& ((((1 : Int32) <<< ((V 65 3) &&& 31)) - (1 : Int32)) ^^^ (-1 : Int32))) = 0 then (if (l4 &&& ((((1 : Int32) <<< ((V 65 3) &&& 31)) - (1 : Int32)) ^^^ (-1 : Int32))) = 0 then (if l5 = 0 then (bC (xq_in (V 64 16) 6 && Nat.ble (V 64 16).toNatClampNeg tx.length) (bC (xq_in l2 4) (bS (fX3_prepare (tref (V 64 16).toNatClampNeg) l1 l2 (A 100 l2.toNatClampNeg) A V cu) (fun A13 V14 c15 => bX (fX3_seek tx l3 l4 (0 : Int32) A13 V14 c15) (fun x17 A18 V19 c20 => some ((V19 84 0), A18, V19, c20)))))) else (if l5 = (1 : Int32) then (bC (xq_in (V 64 16) 6 && Nat.ble (V 64 16).toNatClampNeg tx.length) (bC (xq_in l2 4) (bS (fX3_prepare (tref (V 64 16).toNatClampNeg) l1 l2 (A 100 l2.toNatClampNeg) A V cu) (fun A27 V28 c29 => bX (fX3_seek tx l3 l4 (0 : Int32) A27 V28 c29) (fun x31 A32 V33 c34 => some ((V33 84 1), A32, V33, c34)))))) else (some ((-7 : Int32), A, V, cu)))) else (some ((-5 : Int32), A, V, cu))) else (some ((-5 : Int32), A, V, cu)))))))
def fX8_why_L77 (tx : List xh_T) (l3 : Int32) (l4 : Int32) (ex : Int32 → xM → xM → Value → Option (Int32 × xS)) : Nat → Int32 → Int32 → xM → xM → Value → Option (Int32 × xS)
  | 0, _, _, _, _, _ => none
  | n + 1, l5, l6, A, V, cu => if (V 65 3) ≤ l6 then (ex l5 A V cu) else (bX (fX3_seek tx (l3 &&& (((1 : Int32) <<< (l6 &&& 31)) ^^^ (-1 : Int32))) l4 ((1 : Int32) <<< (l6 &&& 31)) A V cu) (fun x2 A3 V4 c5 => if x2 = (-1 : Int32) then (fX8_why_L77 tx l3 l4 ex n l5 (l6 + Int32.ofInt 1) A3 V4 c5) else (fX8_why_L77 tx l3 l4 ex n (l5 ||| ((1 : Int32) <<< (l6 &&& 31))) (l6 + Int32.ofInt 1) A3 V4 c5)))
def fX8_why (tx : List xh_T) (l1 : Int32) (l2 : Int32) (l3 : Int32) (l4 : Int32) (A V : xM) (cu : Value) : Option (Int32 × xS) := if l1 < 0 then (some ((-5 : Int32), A, V, cu)) else (if (V 64 13) ≤ l1 then (some ((-5 : Int32), A, V, cu)) else (if (6 : Int32) ≤ l1 then (some ((-5 : Int32), A, V, cu)) else (if l2 < 0 then (some ((-5 : Int32), A, V, cu)) else (if (4 : Int32) ≤ l2 then (some ((-5 : Int32), A, V, cu)) else (if (l3 &&& ((((1 : Int32) <<< ((V 65 3) &&& 31)) - (1 : Int32)) ^^^ (-1 : Int32))) = 0 then (if (l4 &&& ((((1 : Int32) <<< ((V 65 3) &&& 31)) - (1 : Int32)) ^^^ (-1 : Int32))) = 0 then (bC (xq_in (V 64 16) 6 && Nat.ble (V 64 16).toNatClampNeg tx.length) (bC (xq_in l2 4) (bS (fX3_prepare (tref (V 64 16).toNatClampNeg) l1 l2 (A 100 l2.toNatClampNeg) A V cu) (fun A19 V20 c21 => bX (fX3_seek tx l3 l4 (0 : Int32) A19 V20 c21) (fun x23 A24 V25 c26 => if x23 = (-1 : Int32) then (fX8_why_L77 tx l3 l4 (fun (l5_29 : Int32) (A37 V38 : xM) (c39 : Value) => some (l5_29, A37, V38, c39)) FU (0 : Int32) (0 : Int32) A24 V25 c26) else (some ((0 : Int32), A24, V25, c26))))))) else (some ((-5 : Int32), A, V, cu))) else (some ((-5 : Int32), A, V, cu)))))))
def fX8_place_L36 (tx : List xh_T) (l1 : Int32) (l2 : Int32) (l3 : Int32) (ex : Int32 → xM → xM → Value → Option (Int32 × xS)) : Nat → Int32 → Int32 → Int32 → xM → xM → Value → Option (Int32 × xS)
  | 0, _, _, _, _, _, _ => none
  | n + 1, l4, l5, l6, A, V, cu => if (4 : Int32) ≤ l6 then (ex l4 A V cu) else (bC (xq_in (V 64 16) 6 && Nat.ble (V 64 16).toNatClampNeg tx.length) (bC (xq_in l6 4) (bS (fX3_prepare (tref (V 64 16).toNatClampNeg) l1 l6 (A 100 l6.toNatClampNeg) A V cu) (fun A6 V7 c8 => bX (fX3_seek tx l2 l3 (0 : Int32) A6 V7 c8) (fun x10 A11 V12 c13 => if x10 = (-1 : Int32) then (fX8_place_L36 tx l1 l2 l3 ex n l4 l5 (l6 + Int32.ofInt 1) A11 V12 c13) else (if l4 = (-1 : Int32) then (fX8_place_L36 tx l1 l2 l3 ex n l6 x10 (l6 + Int32.ofInt 1) A11 V12 c13) else (if l5 ≤ x10 then (fX8_place_L36 tx l1 l2 l3 ex n l4 l5 (l6 + Int32.ofInt 1) A11 V12 c13) else (fX8_place_L36 tx l1 l2 l3 ex n l6 x10 (l6 + Int32.ofInt 1) A11 V12 c13))))))))
def fX8_place (tx : List xh_T) (l1 : Int32) (l2 : Int32) (l3 : Int32) (A V : xM) (cu : Value) : Option (Int32 × xS) := if l1 < 0 then (some ((-5 : Int32), A, V, cu)) else (if (V 64 13) ≤ l1 then (some ((-5 : Int32), A, V, cu)) else (if (6 : Int32) ≤ l1 then (some ((-5 : Int32), A, V, cu)) else (if (l2 &&& ((((1 : Int32) <<< ((V 65 3) &&& 31)) - (1 : Int32)) ^^^ (-1 : Int32))) = 0 then (if (l3 &&& ((((1 : Int32) <<< ((V 65 3) &&& 31)) - (1 : Int32)) ^^^ (-1 : Int32))) = 0 then (fX8_place_L36 tx l1 l2 l3 (fun (l4_23 : Int32) (A31 V32 : xM) (c33 : Value) => some (l4_23, A31, V32, c33)) FU (-1 : Int32) (-1 : Int32) (0 : Int32) A V cu) else (some ((-5 : Int32), A, V, cu))) else (some ((-5 : Int32), A, V, cu)))))
def fX8_whole_L23 (tx : List xh_T) (l1 : Int32) (l2 : Int32) (ex : Int32 → xM → xM → Value → Option (Int32 × xS)) : Nat → Int32 → Int32 → xM → xM → Value → Option (Int32 × xS)
  | 0, _, _, _, _, _ => none
  | n + 1, l3, l4, A, V, cu => if (V 64 13) ≤ l4 then (ex l3 A V cu) else (if (6 : Int32) ≤ l4 then (ex l3 A V cu) else (bC (xq_in (V 64 16) 6 && Nat.ble (V 64 16).toNatClampNeg tx.length) (bC (xq_in l1 4) (bS (fX3_prepare (tref (V 64 16).toNatClampNeg) l4 l1 (A 100 l1.toNatClampNeg) A V cu) (fun A7 V8 c9 => bX (fX3_seek tx l2 (0 : Int32) (0 : Int32) A7 V8 c9) (fun x11 A12 V13 c14 => if x11 = (-1 : Int32) then (some ((-1 : Int32), A12, V13, c14)) else (fX8_whole_L23 tx l1 l2 ex n (l3 + x11) (l4 + Int32.ofInt 1) A12 V13 c14)))))))
def fX8_whole (tx : List xh_T) (l1 : Int32) (l2 : Int32) (A V : xM) (cu : Value) : Option (Int32 × xS) := if l1 < 0 then (some ((-5 : Int32), A, V, cu)) else (if (4 : Int32) ≤ l1 then (some ((-5 : Int32), A, V, cu)) else (if (l2 &&& ((((1 : Int32) <<< ((V 65 3) &&& 31)) - (1 : Int32)) ^^^ (-1 : Int32))) = 0 then (fX8_whole_L23 tx l1 l2 (fun (l3_20 : Int32) (A26 V27 : xM) (c28 : Value) => some (l3_20, A26, V27, c28)) FU (0 : Int32) (0 : Int32) A V cu) else (some ((-5 : Int32), A, V, cu))))
def fX8_comesOf_L52 (tx : List xh_T) (l4 : Nat) (l1 : Int32) (A V : xM) (cu : Value) (ex : Option (Int32 × xS)) : Nat → Int32 → Option (Int32 × xS)
  | 0, _ => none
  | n + 1, l5 => if (V l4 2) ≤ l5 then (ex) else (bI (fX1_amount 77 l5 l1 A V) (fun x2 => bI (fX5_at l4 l5 A V) (fun x4 => if (bif decide ((2 : Int32) < x2) then (2 : Int32) else x2) = x4 then (fX8_comesOf_L52 tx l4 l1 A V cu ex n (l5 + Int32.ofInt 1)) else (some ((0 : Int32), A, V, cu)))))
def fX8_comesOf (tx : List xh_T) (l4 : Nat) (l1 : Int32) (l2 : Int32) (l3 : Int32) (A V : xM) (cu : Value) : Option (Int32 × xS) := bI (fJ6_bitCount_0f7a4 l3 A V) (fun x7 => bC (xq_in l2 4) (if (A 100 l2.toNatClampNeg) < x7 then (some ((0 : Int32), A, V, cu)) else (bX (fX8_mayAtFirst tx l1 l2 l3 A V cu) (fun x11 A12 V13 c14 => if x11 = 0 then (some ((0 : Int32), A12, V13, c14)) else (bS (fX1_take 77 73 A12 V13 c14) (fun A18 V19 c20 => bS (fX6_spread tx 77 l3 (0 : Int32) A18 V19 c20) (fun A23 V24 c25 => fX8_comesOf_L52 tx l4 l1 A23 V24 c25 (some ((1 : Int32), A23, V24, c25)) FU (0 : Int32))))))))
def fX8_was_L93 (tx : List xh_T) (l5 : Nat) (l1 : Int32) (l2 : Int32) (l4 : Int32) (ex : Int32 → Int32 → Int32 → xM → xM → Value → Option (Int32 × xS)) : Nat → Int32 → Int32 → Int32 → Int32 → xM → xM → Value → Option (Int32 × xS)
  | 0, _, _, _, _, _, _, _ => none
  | n + 1, l6, l7, l8, l9, A, V, cu => if (((1 : Int32) <<< ((V 65 3) &&& 31)) - (1 : Int32)) < l9 then (ex l6 l7 l8 A V cu) else (bX (fX8_comesOf tx l5 l1 l2 l9 A V cu) (fun x2 A3 V4 c5 => if x2 = 0 then (fX8_was_L93 tx l5 l1 l2 l4 ex n l6 l7 l8 (l9 + Int32.ofInt 1) A3 V4 c5) else (fX8_was_L93 tx l5 l1 l2 l4 ex n (l6 + Int32.ofInt 1) (l7 &&& l9) (l8 ||| l9) (l9 + Int32.ofInt 1) A3 V4 c5)))
def fX8_was (tx : List xh_T) (l1 : Int32) (l2 : Int32) (l3 : Int32) (l4 : Int32) (A V : xM) (cu : Value) : Option (Int32 × xS) := if l1 < 0 then (some ((-5 : Int32), A, V, cu)) else (if (V 64 13) ≤ l1 then (some ((-5 : Int32), A, V, cu)) else (if (6 : Int32) ≤ l1 then (some ((-5 : Int32), A, V, cu)) else (if l2 < 0 then (some ((-7 : Int32), A, V, cu)) else (if (4 : Int32) ≤ l2 then (some ((-7 : Int32), A, V, cu)) else (if l4 < 0 then (some ((-7 : Int32), A, V, cu)) else (if l4 ≤ (2 : Int32) then (if l3 < 0 then (some ((-2 : Int32), A, V, cu)) else (if (4 : Int32) ≤ l3 then (some ((-2 : Int32), A, V, cu)) else (bC (xq_in l3 4) (if V (122 + 2 * l3.toNatClampNeg) 1 = -1 then (some ((-11 : Int32), A, V, cu)) else (if (V (122 + 2 * l3.toNatClampNeg) 2) = (V 65 3) then (fX8_was_L93 tx (122 + 2 * l3.toNatClampNeg) l1 l2 l4 (fun (l6_21 : Int32) (l7_22 : Int32) (l8_23 : Int32) (A30 V31 : xM) (c32 : Value) => if l4 = 0 then (some (l6_21, A30, V31, c32)) else (if l4 = (2 : Int32) then (some (l8_23, A30, V31, c32)) else (if l6_21 = 0 then (some ((0 : Int32), A30, V31, c32)) else (some (l7_22, A30, V31, c32))))) FU (0 : Int32) (((1 : Int32) <<< ((V 65 3) &&& 31)) - (1 : Int32)) (0 : Int32) (0 : Int32) A V cu) else (some ((-2 : Int32), A, V, cu))))))) else (some ((-7 : Int32), A, V, cu))))))))
def fX8_partsLost_L20 (l3 : Int32) (A V : xM) (ex : Int64 → Option (Int64)) : Nat → Int64 → Int32 → Option (Int64)
  | 0, _, _ => none
  | n + 1, l4, l6 => if (V 65 3) ≤ l6 then (ex l4) else (if (5 : Int32) ≤ l6 then (ex l4) else (if ((l3 >>> (l6 &&& 31)) &&& (1 : Int32)) = 0 then (fX8_partsLost_L20 l3 A V ex n l4 (l6 + Int32.ofInt 1)) else (bC (xq_in l6 5) (fX8_partsLost_L20 l3 A V ex n ((l4 * (A 67 l6.toNatClampNeg).toInt64) / (100 : Int64)) (l6 + Int32.ofInt 1)))))
def fX8_partsLost (l1 : Int32) (l2 : Int32) (A V : xM) : Option (Int64) := bC (xq_in l1 6) (fX8_partsLost_L20 ((A 74 l1.toNatClampNeg) ||| l2) A V (fun (l4_6 : Int64) => some l4_6) FU (1000000000 : Int64) (0 : Int32))
def fX8_lost (l1 : Int32) (l2 : Int32) (A V : xM) : Option (Int64) := if l1 < 0 then (some (-4611686018427387904 : Int64)) else (if (V 64 13) ≤ l1 then (some (-4611686018427387904 : Int64)) else (if (6 : Int32) ≤ l1 then (some (-4611686018427387904 : Int64)) else (if (l2 &&& ((((1 : Int32) <<< ((V 65 3) &&& 31)) - (1 : Int32)) ^^^ (-1 : Int32))) = 0 then (bI (fX8_partsLost l1 l2 A V) (fun x5 => some x5)) else (some (-4611686018427387904 : Int64)))))
def fX8_keep_L30 (l1 : Int32) (l2 : Int32) (A V : xM) (ex : Int32 → Option (Int32)) : Nat → Int32 → Int32 → Option (Int32)
  | 0, _, _ => none
  | n + 1, l3, l4 => if (((1 : Int32) <<< ((V 65 3) &&& 31)) - (1 : Int32)) < l4 then (ex l3) else (if l3 = (-1 : Int32) then (bI (fX8_partsLost l1 l4 A V) (fun x3 => if 0 < (lg_cmp x3 (l2.toInt64 * (1000000 : Int64))) then (fX8_keep_L30 l1 l2 A V ex n l3 (l4 + Int32.ofInt 1)) else (fX8_keep_L30 l1 l2 A V ex n l4 (l4 + Int32.ofInt 1)))) else (bI (fJ6_bitCount_0f7a4 l4 A V) (fun x6 => bI (fJ6_bitCount_0f7a4 l3 A V) (fun x8 => if x8 ≤ x6 then (fX8_keep_L30 l1 l2 A V ex n l3 (l4 + Int32.ofInt 1)) else (bI (fX8_partsLost l1 l4 A V) (fun x11 => if 0 < (lg_cmp x11 (l2.toInt64 * (1000000 : Int64))) then (fX8_keep_L30 l1 l2 A V ex n l3 (l4 + Int32.ofInt 1)) else (fX8_keep_L30 l1 l2 A V ex n l4 (l4 + Int32.ofInt 1))))))))
def fX8_keep (l1 : Int32) (l2 : Int32) (A V : xM) : Option (Int32) := if l1 < 0 then (some (-5 : Int32)) else (if (V 64 13) ≤ l1 then (some (-5 : Int32)) else (if (6 : Int32) ≤ l1 then (some (-5 : Int32)) else (if l2 < 0 then (some (-7 : Int32)) else (if l2 ≤ (1000 : Int32) then (fX8_keep_L30 l1 l2 A V (fun (l3_19 : Int32) => some l3_19) FU (-1 : Int32) (0 : Int32)) else (some (-7 : Int32))))))
def fX8_rarest_L9 (A V : xM) (ex : Int32 → Option (Int32)) : Nat → Int32 → Int64 → Int32 → Option (Int32)
  | 0, _, _, _ => none
  | n + 1, l1, l2, l4 => if (V 64 13) ≤ l4 then (ex l1) else (if (6 : Int32) ≤ l4 then (ex l1) else (bI (fX8_partsLost l4 (0 : Int32) A V) (fun x3 => if (lg_cmp x3 l2) ≤ 0 then (fX8_rarest_L9 A V ex n l1 l2 (l4 + Int32.ofInt 1)) else (fX8_rarest_L9 A V ex n l4 x3 (l4 + Int32.ofInt 1)))))
def fX8_rarest (A V : xM) : Option (Int32) := fX8_rarest_L9 A V (fun (l1_6 : Int32) => some l1_6) FU (-1 : Int32) (-1 : Int64) (0 : Int32)
def fX8_draw_L54 (tx : List xh_T) (l2 : Int32) (l4 : Int32) (l5 : Int32) (l8 : Int32) (A V : xM) (cu : Value) (ex : Int64 → Int32 → Option (xS)) : Nat → Int64 → Int32 → Int32 → Int32 → Option (xS)
  | 0, _, _, _, _ => none
  | n + 1, l6, l9, l10, l11 => if (V 65 3) ≤ l11 then (ex l6 l9) else (if (lg_cmp (((l6 * (48271 : Int64)) - (l6 * (48271 : Int64)) / (2147483647 : Int64) * (2147483647 : Int64)) &&& (1 : Int64)) (0 : Int64)) = 0 then (fX8_draw_L54 tx l2 l4 l5 l8 A V cu ex n ((l6 * (48271 : Int64)) - (l6 * (48271 : Int64)) / (2147483647 : Int64) * (2147483647 : Int64)) l9 l10 (l11 + Int32.ofInt 1)) else (if l10 ≤ 0 then (fX8_draw_L54 tx l2 l4 l5 l8 A V cu ex n ((l6 * (48271 : Int64)) - (l6 * (48271 : Int64)) / (2147483647 : Int64) * (2147483647 : Int64)) l9 l10 (l11 + Int32.ofInt 1)) else (fX8_draw_L54 tx l2 l4 l5 l8 A V cu ex n ((l6 * (48271 : Int64)) - (l6 * (48271 : Int64)) / (2147483647 : Int64) * (2147483647 : Int64)) (l9 ||| ((1 : Int32) <<< (l11 &&& 31))) (l10 + Int32.ofInt (-1)) (l11 + Int32.ofInt 1))))
def fX8_draw_L32 (tx : List xh_T) (l2 : Int32) (l4 : Int32) (l5 : Int32) (ex : xM → xM → Value → Option (xS)) : Nat → Int64 → Int32 → xM → xM → Value → Option (xS)
  | 0, _, _, _, _, _ => none
  | n + 1, l6, l8, A, V, cu => if l5 ≤ l8 then (ex  A V cu) else (bC (xq_in l4 4) (fX8_draw_L54 tx l2 l4 l5 l8 A V cu (fun (l6_6 : Int64) (l9_7 : Int32) => bC (xq_in (V 64 16) 6 && Nat.ble (V 64 16).toNatClampNeg tx.length) (bS (fX6_begin (tref (V 64 16).toNatClampNeg) l2 l4 l8 A V cu) (fun A15 V16 c17 => bI (fX6_couldTeach 77 l9_7 A15 V16) (fun x19 => if x19 = 0 then (fX8_draw_L32 tx l2 l4 l5 ex n l6_6 (l8 + Int32.ofInt 1) A15 V16 c17) else (bX (fX6_may tx 77 l9_7 A15 V16 c17) (fun x22 A23 V24 c25 => if x22 = 0 then (fX8_draw_L32 tx l2 l4 l5 ex n l6_6 (l8 + Int32.ofInt 1) A23 V24 c25) else (bS (fX6_spread tx 77 l9_7 (0 : Int32) A23 V24 c25) (fun A29 V30 c31 => fX8_draw_L32 tx l2 l4 l5 ex n l6_6 (l8 + Int32.ofInt 1) A29 V30 c31)))))))) FU l6 (0 : Int32) (A 100 l4.toNatClampNeg) (0 : Int32)))
def fX8_draw (tx : List xh_T) (l1 : Int32) (l2 : Int32) (l3 : Int32) (A V : xM) (cu : Value) : Option (xS) := bS (fX1_take 77 73 A V cu) (fun A34 V35 c36 => fX8_draw_L32 tx l2 (l3 / (100 : Int32)) (l3 - l3 / (100 : Int32) * (100 : Int32)) (fun (A50 V51 : xM) (c52 : Value) => some (A50, V51, c52)) FU (l1 + (1 : Int32)).toInt64 (0 : Int32) A34 V35 c36)
def fX8_drawn (tx : List xh_T) (l1 : Int32) (l2 : Int32) (l3 : Int32) (l4 : Int32) (A V : xM) (cu : Value) : Option (Int32 × xS) := if l2 < 0 then (some ((-5 : Int32), A, V, cu)) else (if (V 64 13) ≤ l2 then (some ((-5 : Int32), A, V, cu)) else (if (6 : Int32) ≤ l2 then (some ((-5 : Int32), A, V, cu)) else (if l1 < 0 then (some ((-7 : Int32), A, V, cu)) else (if (99999 : Int32) < l1 then (some ((-7 : Int32), A, V, cu)) else (if l3 < 0 then (some ((-7 : Int32), A, V, cu)) else (if (l3 / (100 : Int32)) < 0 then (some ((-7 : Int32), A, V, cu)) else (if (4 : Int32) ≤ (l3 / (100 : Int32)) then (some ((-7 : Int32), A, V, cu)) else (if (30 : Int32) < (l3 - l3 / (100 : Int32) * (100 : Int32)) then (some ((-7 : Int32), A, V, cu)) else (if l4 < 0 then (some ((-7 : Int32), A, V, cu)) else (if l4 ≤ (2 : Int32) then (bS (fX8_draw tx l1 l2 l3 A V cu) (fun A13 V14 c15 => bI (fX1_who 77 l2 l4 A13 V14) (fun x17 => some (x17, A13, V14, c15)))) else (some ((-7 : Int32), A, V, cu))))))))))))
def fX8_commonDivisor_L2 (l0 : Int32) (l1 : Int32) (A V : xM) (ex : Option (Int32)) : Nat → Int32 → Option (Int32)
  | 0, _ => none
  | n + 1, l2 => if l2 ≤ (1 : Int32) then (ex) else (bC (!decide (l2 = 0)) (if (l0 - l0 / l2 * l2) = 0 then (if (l1 - l1 / l2 * l2) = 0 then (some l2) else (fX8_commonDivisor_L2 l0 l1 A V ex n (l2 + Int32.ofInt (-1)))) else (fX8_commonDivisor_L2 l0 l1 A V ex n (l2 + Int32.ofInt (-1)))))
def fX8_commonDivisor (l0 : Int32) (l1 : Int32) (A V : xM) : Option (Int32) := fX8_commonDivisor_L2 l0 l1 A V (some (1 : Int32)) FU l1
def fX8_odds_L94 (tx : List xh_T) (l2 : Int32) (l3 : Int32) (l4 : Int32) (l5 : Int32) (l6 : Int32) (l7 : Int32) (ex : Int32 → xM → xM → Value → Option (Int64 × xS)) : Nat → Int32 → Int32 → xM → xM → Value → Option (Int64 × xS)
  | 0, _, _, _, _, _ => none
  | n + 1, l8, l9, A, V, cu => if l7 ≤ l9 then (ex l8 A V cu) else (bS (fX8_draw tx (l2 + l9) l3 l4 A V cu) (fun A3 V4 c5 => bC (xq_in l3 6) (if ((A3 78 l3.toNatClampNeg) &&& l6) = 0 then (fX8_odds_L94 tx l2 l3 l4 l5 l6 l7 ex n l8 (l9 + Int32.ofInt 1) A3 V4 c5) else (fX8_odds_L94 tx l2 l3 l4 l5 l6 l7 ex n (l8 + Int32.ofInt 1) (l9 + Int32.ofInt 1) A3 V4 c5))))
def fX8_odds (tx : List xh_T) (l1 : Int32) (l2 : Int32) (l3 : Int32) (l4 : Int32) (l5 : Int32) (A V : xM) (cu : Value) : Option (Int64 × xS) := if l1 < 0 then (some ((-4611686018427387904 : Int64), A, V, cu)) else (if (l1 / (100 : Int32)) < 0 then (some ((-4611686018427387904 : Int64), A, V, cu)) else (if (V 65 3) ≤ (l1 / (100 : Int32)) then (some ((-4611686018427387904 : Int64), A, V, cu)) else (if (5 : Int32) ≤ (l1 / (100 : Int32)) then (some ((-4611686018427387904 : Int64), A, V, cu)) else (if (l1 - l1 / (100 : Int32) * (100 : Int32)) < (1 : Int32) then (some ((-4611686018427387904 : Int64), A, V, cu)) else (if (l1 - l1 / (100 : Int32) * (100 : Int32)) ≤ (50 : Int32) then (if l2 < 0 then (some ((-4611686018427387904 : Int64), A, V, cu)) else (if (99999 : Int32) < l2 then (some ((-4611686018427387904 : Int64), A, V, cu)) else (if l3 < 0 then (some ((-4611686018427387904 : Int64), A, V, cu)) else (if (V 64 13) ≤ l3 then (some ((-4611686018427387904 : Int64), A, V, cu)) else (if (6 : Int32) ≤ l3 then (some ((-4611686018427387904 : Int64), A, V, cu)) else (if l4 < 0 then (some ((-4611686018427387904 : Int64), A, V, cu)) else (if (l4 / (100 : Int32)) < 0 then (some ((-4611686018427387904 : Int64), A, V, cu)) else (if (4 : Int32) ≤ (l4 / (100 : Int32)) then (some ((-4611686018427387904 : Int64), A, V, cu)) else (if (30 : Int32) < (l4 - l4 / (100 : Int32) * (100 : Int32)) then (some ((-4611686018427387904 : Int64), A, V, cu)) else (if l5 = 0 then (fX8_odds_L94 tx l2 l3 l4 l5 ((1 : Int32) <<< ((l1 / (100 : Int32)) &&& 31)) (l1 - l1 / (100 : Int32) * (100 : Int32)) (fun (l8_25 : Int32) (A33 V34 : xM) (c35 : Value) => bI (fX8_commonDivisor l8_25 (l1 - l1 / (100 : Int32) * (100 : Int32)) A33 V34) (fun x36 => if l5 = 0 then (bC (!decide ((bif decide ((1 : Int32) < x36) then x36 else (1 : Int32)) = 0)) (some ((l8_25 / (bif decide ((1 : Int32) < x36) then x36 else (1 : Int32))).toInt64, A33, V34, c35))) else (bC (!decide ((bif decide ((1 : Int32) < x36) then x36 else (1 : Int32)) = 0)) (some (((l1 - l1 / (100 : Int32) * (100 : Int32)) / (bif decide ((1 : Int32) < x36) then x36 else (1 : Int32))).toInt64, A33, V34, c35))))) FU (0 : Int32) (0 : Int32) A V cu) else (if l5 = (1 : Int32) then (fX8_odds_L94 tx l2 l3 l4 l5 ((1 : Int32) <<< ((l1 / (100 : Int32)) &&& 31)) (l1 - l1 / (100 : Int32) * (100 : Int32)) (fun (l8_42 : Int32) (A50 V51 : xM) (c52 : Value) => bI (fX8_commonDivisor l8_42 (l1 - l1 / (100 : Int32) * (100 : Int32)) A50 V51) (fun x53 => if l5 = 0 then (bC (!decide ((bif decide ((1 : Int32) < x53) then x53 else (1 : Int32)) = 0)) (some ((l8_42 / (bif decide ((1 : Int32) < x53) then x53 else (1 : Int32))).toInt64, A50, V51, c52))) else (bC (!decide ((bif decide ((1 : Int32) < x53) then x53 else (1 : Int32)) = 0)) (some (((l1 - l1 / (100 : Int32) * (100 : Int32)) / (bif decide ((1 : Int32) < x53) then x53 else (1 : Int32))).toInt64, A50, V51, c52))))) FU (0 : Int32) (0 : Int32) A V cu) else (some ((-4611686018427387904 : Int64), A, V, cu))))))))))))) else (some ((-4611686018427387904 : Int64), A, V, cu)))))))
def fX8_image (A V : xM) (cu : Value) : Option (Int32 × xS) := bS (fX1_take 116 73 A (up2 V 115 3 (1 : Int32)) cu) (fun A2 V3 c4 => some (((up2 (up2 (up2 V3 115 4 (((1 : Int32) <<< ((V3 65 3) &&& 31)) - (1 : Int32))) 115 5 ((up2 V3 115 4 (((1 : Int32) <<< ((V3 65 3) &&& 31)) - (1 : Int32))) 64 14)) 115 6 ((up2 (up2 V3 115 4 (((1 : Int32) <<< ((V3 65 3) &&& 31)) - (1 : Int32))) 115 5 ((up2 V3 115 4 (((1 : Int32) <<< ((V3 65 3) &&& 31)) - (1 : Int32))) 64 14)) 64 16)) 64 14), (va_up (va_up A2 120 (va_cpy (A2 99) (A2 120) (0 : Int32).toNatClampNeg (0 : Int32).toNatClampNeg (4 : Int32).toNatClampNeg)) 121 (va_cpy ((va_up A2 120 (va_cpy (A2 99) (A2 120) (0 : Int32).toNatClampNeg (0 : Int32).toNatClampNeg (4 : Int32).toNatClampNeg)) 100) ((va_up A2 120 (va_cpy (A2 99) (A2 120) (0 : Int32).toNatClampNeg (0 : Int32).toNatClampNeg (4 : Int32).toNatClampNeg)) 121) (0 : Int32).toNatClampNeg (0 : Int32).toNatClampNeg (4 : Int32).toNatClampNeg)), (up2 (up2 (up2 V3 115 4 (((1 : Int32) <<< ((V3 65 3) &&& 31)) - (1 : Int32))) 115 5 ((up2 V3 115 4 (((1 : Int32) <<< ((V3 65 3) &&& 31)) - (1 : Int32))) 64 14)) 115 6 ((up2 (up2 V3 115 4 (((1 : Int32) <<< ((V3 65 3) &&& 31)) - (1 : Int32))) 115 5 ((up2 V3 115 4 (((1 : Int32) <<< ((V3 65 3) &&& 31)) - (1 : Int32))) 64 14)) 64 16)), c4))
def fX8_back (A V : xM) (cu : Value) : Option (Int32 × xS) := if (V 115 3) = 0 then (some ((-3 : Int32), A, V, cu)) else (bS (fX1_takeOf 73 116 (V 115 4) A V cu) (fun A3 V4 c5 => some (((up2 (up2 V4 64 14 (bif decide ((V4 115 5) < (V4 64 14)) then (V4 115 5) else (V4 64 14))) 64 16 ((up2 V4 64 14 (bif decide ((V4 115 5) < (V4 64 14)) then (V4 115 5) else (V4 64 14))) 115 6)) 64 14), (va_up (va_up A3 99 (va_cpy (A3 120) (A3 99) (0 : Int32).toNatClampNeg (0 : Int32).toNatClampNeg (4 : Int32).toNatClampNeg)) 100 (va_cpy ((va_up A3 99 (va_cpy (A3 120) (A3 99) (0 : Int32).toNatClampNeg (0 : Int32).toNatClampNeg (4 : Int32).toNatClampNeg)) 121) ((va_up A3 99 (va_cpy (A3 120) (A3 99) (0 : Int32).toNatClampNeg (0 : Int32).toNatClampNeg (4 : Int32).toNatClampNeg)) 100) (0 : Int32).toNatClampNeg (0 : Int32).toNatClampNeg (4 : Int32).toNatClampNeg)), (up2 (up2 V4 64 14 (bif decide ((V4 115 5) < (V4 64 14)) then (V4 115 5) else (V4 64 14))) 64 16 ((up2 V4 64 14 (bif decide ((V4 115 5) < (V4 64 14)) then (V4 115 5) else (V4 64 14))) 115 6)), c5)))
def fX8_sheet (l1 : Int32) (l2 : Int32) (l3 : Int32) (A V : xM) (cu : Value) : Option (Int32 × xS) := if l1 < 0 then (some ((-2 : Int32), A, V, cu)) else (if (4 : Int32) ≤ l1 then (some ((-2 : Int32), A, V, cu)) else (if l2 < (-1 : Int32) then (some ((-2 : Int32), A, V, cu)) else (if l2 ≤ (2 : Int32) then (if l2 = (-1 : Int32) then (bC (xq_in l1 4) (bS (fX5_become (122 + 2 * l1.toNatClampNeg) l2 (0 : Int32) A V cu) (fun A8 V9 c10 => some ((1 : Int32), A8, V9, c10)))) else (if l3 ≤ (40 : Int32) then (if 0 ≤ l3 then (bC (xq_in l1 4) (bS (fX5_become (122 + 2 * l1.toNatClampNeg) l2 l3 A V cu) (fun A16 V17 c18 => some ((1 : Int32), A16, V17, c18)))) else (some ((-14 : Int32), A, V, cu))) else (some ((-2 : Int32), A, V, cu)))) else (some ((-2 : Int32), A, V, cu)))))
def fX8_copy (l1 : Int32) (l2 : Int32) (l3 : Int32) (l4 : Int32) (l5 : Int32) (A V : xM) (cu : Value) : Option (Int32 × xS) := if l1 < 0 then (some ((-2 : Int32), A, V, cu)) else (if (4 : Int32) ≤ l1 then (some ((-2 : Int32), A, V, cu)) else (if l3 < 0 then (some ((-2 : Int32), A, V, cu)) else (if (4 : Int32) ≤ l3 then (some ((-2 : Int32), A, V, cu)) else (bC (xq_in l1 4) (if V (122 + 2 * l1.toNatClampNeg) 1 = -1 then (bC (xq_in l3 4) (if V (122 + 2 * l3.toNatClampNeg) 1 = -1 then (some ((-11 : Int32), A, V, cu)) else (some ((-11 : Int32), A, V, cu)))) else (bC (xq_in l3 4) (if V (122 + 2 * l3.toNatClampNeg) 1 = -1 then (some ((-11 : Int32), A, V, cu)) else (if (V (122 + 2 * l1.toNatClampNeg) 1) = (V (122 + 2 * l3.toNatClampNeg) 1) then (bI (fX5_hasRange (122 + 2 * l1.toNatClampNeg) l2 l5 A V) (fun x15 => if x15 = 0 then (some ((-12 : Int32), A, V, cu)) else (bI (fX5_hasRange (122 + 2 * l3.toNatClampNeg) l4 l5 A V) (fun x18 => if x18 = 0 then (some ((-12 : Int32), A, V, cu)) else (bC (!decide (l2 < 0) && !decide (l4 < 0) && !decide (l5 < 0) && Nat.ble (l2.toNatClampNeg + l5.toNatClampNeg) 40 && Nat.ble (l4.toNatClampNeg + l5.toNatClampNeg) 40) (some (l5, (va_up A ((122 + 2 * l3.toNatClampNeg) + 1) (va_cpy (A ((122 + 2 * l1.toNatClampNeg) + 1)) (A ((122 + 2 * l3.toNatClampNeg) + 1)) l2.toNatClampNeg l4.toNatClampNeg l5.toNatClampNeg)), V, cu))))))) else (some ((-13 : Int32), A, V, cu))))))))))
def fX8_peopleBy_L63 (l5 : Nat) (l3 : Int32) (l4 : Int32) (ex : Int32 → xM → xM → Value → Option (Int32 × xS)) : Nat → Int32 → Int32 → xM → xM → Value → Option (Int32 × xS)
  | 0, _, _, _, _, _ => none
  | n + 1, l6, l7, A, V, cu => if l4 ≤ l7 then (ex l6 A V cu) else (bI (fX5_hasRange l5 (l3 + ((3 : Int32) * l7)) (3 : Int32) A V) (fun x2 => if x2 = 0 then (some ((-12 : Int32), A, V, cu)) else (bI (fX5_at l5 (l3 + ((3 : Int32) * l7)) A V) (fun x5 => bI (fX5_at l5 ((l3 + ((3 : Int32) * l7)) + (1 : Int32)) A V) (fun x7 => bI (fX5_at l5 ((l3 + ((3 : Int32) * l7)) + (2 : Int32)) A V) (fun x9 => bX (fX2_come x5 x7 x9 A V cu) (fun x11 A12 V13 c14 => if x11 < 0 then (fX8_peopleBy_L63 l5 l3 l4 ex n l6 (l7 + Int32.ofInt 1) A12 V13 c14) else (fX8_peopleBy_L63 l5 l3 l4 ex n (l6 + Int32.ofInt 1) (l7 + Int32.ofInt 1) A12 V13 c14))))))))
def fX8_peopleBy (l1 : Int32) (l2 : Int32) (l3 : Int32) (l4 : Int32) (A V : xM) (cu : Value) : Option (Int32 × xS) := if l1 < 0 then (some ((-2 : Int32), A, V, cu)) else (if (4 : Int32) ≤ l1 then (some ((-2 : Int32), A, V, cu)) else (if l2 < 0 then (some ((-2 : Int32), A, V, cu)) else (if (2 : Int32) < l2 then (some ((-2 : Int32), A, V, cu)) else (if l4 < 0 then (some ((-2 : Int32), A, V, cu)) else (if l4 ≤ (5 : Int32) then (bC (xq_in l1 4) (if V (122 + 2 * l1.toNatClampNeg) 1 = -1 then (some ((-11 : Int32), A, V, cu)) else (if (V (122 + 2 * l1.toNatClampNeg) 1) = l2 then (fX8_peopleBy_L63 (122 + 2 * l1.toNatClampNeg) l3 l4 (fun (l6_27 : Int32) (A36 V37 : xM) (c38 : Value) => some (l6_27, A36, V37, c38)) FU (0 : Int32) (0 : Int32) A V cu) else (some ((-13 : Int32), A, V, cu))))) else (some ((-2 : Int32), A, V, cu)))))))
def fX8_taken (l1 : Int32) (l2 : Int32) (A V : xM) : Option (Int32) := if l2 < 0 then (some (-2 : Int32)) else (if l2 ≤ (6 : Int32) then (if l1 < 0 then (some (-12 : Int32)) else (if l1 < (11 : Int32) then (if (6 : Int32) ≤ l1 then (if (l1 - (6 : Int32)) < 0 then (some (-11 : Int32)) else (if (V 65 3) ≤ (l1 - (6 : Int32)) then (some (-11 : Int32)) else (if (5 : Int32) ≤ (l1 - (6 : Int32)) then (some (-11 : Int32)) else (bI (fX2_isOf (l1 - (6 : Int32)) l2 A V) (fun x9 => if x9 = 0 then (some (-13 : Int32)) else (some (l1 - (6 : Int32)))))))) else (if (V 64 13) ≤ l1 then (some (-11 : Int32)) else (if l2 = (6 : Int32) then (bC (xq_in l1 6) (some (A 72 l1.toNatClampNeg))) else (some (-13 : Int32))))) else (some (-12 : Int32)))) else (some (-2 : Int32)))
set_option maxRecDepth 20000 in
set_option maxHeartbeats 4000000 in
theorem sX8_feed {LL : Nat} {xs : Nat → Int32} {tx : List xh_T} {d : Nat} {A V : xM} {cu : Value} {A' V' : xM} {c' : Value} {r : Int32} {l1 l2 l3 l4 l5 l6 : Int32} (hd : 62 ≤ d) (e : fX8_feed l1 l2 l3 l4 l5 l6 A V cu = some (r, A', V', c')) : xe (xk_ro LL xs) d 74 [.ref 64, .int l1, .int l2, .int l3, .int l4, .int l5, .int l6] (xh A V tx cu) (qI r (xh A' V' tx c')) := by
  obtain ⟨d, rfl⟩ : ∃ d1, d = d1 + 1 := ⟨d - 1, by omega⟩
  replace hd : 61 ≤ d := by omega
  have hd0 : 60 ≤ d := by omega
  refine xe_of (co := xk_74) (nl := 7) rfl rfl rfl ?_
  unfold fX8_feed at e
  rcases ite_ok e with ⟨h1, e⟩ | ⟨h1, e⟩
  · cases e
    exact xw_yr hd0 6 [1] rfl ⟨decide_eq_true h1, rfl, trivial⟩ ⟨rfl, rfl⟩
  · rcases ite_ok e with ⟨h2, e⟩ | ⟨h2, e⟩
    · cases e
      exact xw_yr hd0 9 [0, 1] rfl ⟨nt h1, decide_eq_true h2, rfl, trivial⟩ ⟨rfl, rfl⟩
    · rcases ite_ok e with ⟨h3, e⟩ | ⟨h3, e⟩
      · rcases ite_ok e with ⟨h4, e⟩ | ⟨h4, e⟩
        · refine xw_y hd0 28 [0, 0, 1, 1] rfl ⟨nt h1, nt h2, decide_eq_true h3, decide_eq_true h4, trivial⟩ ?_
          obtain ⟨A6, V7, c8, e9, e⟩ := bS_ok e
          refine xw_call (k := 27) (j := 2) rfl (fun F => xm_c_ok (y_c_ok rfl) F) rfl rfl rfl (sX4_add (by omega) e9) ?_
          rintro _ _ ⟨rfl, rfl⟩
          rcases ite_ok e with ⟨h10, e⟩ | ⟨h10, e⟩
          · rcases ite_ok e with ⟨h11, e⟩ | ⟨h11, e⟩
            · rcases ite_ok e with ⟨h12, e⟩ | ⟨h12, e⟩
              · rcases ite_ok e with ⟨h13, e⟩ | ⟨h13, e⟩
                · cases e
                  exact xw_yr hd0 17 [1, 1, 1, 1] rfl ⟨decide_eq_true h10, decide_eq_true h11, decide_eq_true h12, decide_eq_true h13, rfl, trivial⟩ ⟨rfl, rfl⟩
                · refine xw_y hd0 15 [1, 1, 1, 0] rfl ⟨decide_eq_true h10, decide_eq_true h11, decide_eq_true h12, nt h13, trivial⟩ ?_
                  obtain ⟨A15, V16, c17, e18, e⟩ := bS_ok e
                  refine xw_call (k := 27) (j := 2) rfl (fun F => xm_c_ok (y_c_ok rfl) F) rfl rfl rfl (sX4_add (by omega) e18) ?_
                  rintro _ _ ⟨rfl, rfl⟩
                  cases e
                  exact xw_yr hd0 5 [] rfl ⟨rfl, trivial⟩ ⟨rfl, rfl⟩
              · refine xw_y hd0 12 [1, 1, 0] rfl ⟨decide_eq_true h10, decide_eq_true h11, nt h12, trivial⟩ ?_
                obtain ⟨A20, V21, c22, e23, e⟩ := bS_ok e
                refine xw_call (k := 27) (j := 2) rfl (fun F => xm_c_ok (y_c_ok rfl) F) rfl rfl rfl (sX4_add (by omega) e23) ?_
                rintro _ _ ⟨rfl, rfl⟩
                rcases ite_ok e with ⟨h24, e⟩ | ⟨h24, e⟩
                · cases e
                  exact xw_yr hd0 8 [1] rfl ⟨decide_eq_true h24, rfl, trivial⟩ ⟨rfl, rfl⟩
                · refine xw_y hd0 6 [0] rfl ⟨nt h24, trivial⟩ ?_
                  obtain ⟨A26, V27, c28, e29, e⟩ := bS_ok e
                  refine xw_call (k := 27) (j := 2) rfl (fun F => xm_c_ok (y_c_ok rfl) F) rfl rfl rfl (sX4_add (by omega) e29) ?_
                  rintro _ _ ⟨rfl, rfl⟩
                  cases e
                  exact xw_yr hd0 5 [] rfl ⟨rfl, trivial⟩ ⟨rfl, rfl⟩
            · refine xw_y hd0 9 [1, 0] rfl ⟨decide_eq_true h10, nt h11, trivial⟩ ?_
              obtain ⟨A31, V32, c33, e34, e⟩ := bS_ok e
              refine xw_call (k := 27) (j := 2) rfl (fun F => xm_c_ok (y_c_ok rfl) F) rfl rfl rfl (sX4_add (by omega) e34) ?_
              rintro _ _ ⟨rfl, rfl⟩
              rcases ite_ok e with ⟨h35, e⟩ | ⟨h35, e⟩
              · rcases ite_ok e with ⟨h36, e⟩ | ⟨h36, e⟩
                · cases e
                  exact xw_yr hd0 11 [1, 1] rfl ⟨decide_eq_true h35, decide_eq_true h36, rfl, trivial⟩ ⟨rfl, rfl⟩
                · refine xw_y hd0 9 [1, 0] rfl ⟨decide_eq_true h35, nt h36, trivial⟩ ?_
                  obtain ⟨A38, V39, c40, e41, e⟩ := bS_ok e
                  refine xw_call (k := 27) (j := 2) rfl (fun F => xm_c_ok (y_c_ok rfl) F) rfl rfl rfl (sX4_add (by omega) e41) ?_
                  rintro _ _ ⟨rfl, rfl⟩
                  cases e
                  exact xw_yr hd0 5 [] rfl ⟨rfl, trivial⟩ ⟨rfl, rfl⟩
              · refine xw_y hd0 6 [0] rfl ⟨nt h35, trivial⟩ ?_
                obtain ⟨A43, V44, c45, e46, e⟩ := bS_ok e
                refine xw_call (k := 27) (j := 2) rfl (fun F => xm_c_ok (y_c_ok rfl) F) rfl rfl rfl (sX4_add (by omega) e46) ?_
                rintro _ _ ⟨rfl, rfl⟩
                rcases ite_ok e with ⟨h47, e⟩ | ⟨h47, e⟩
                · cases e
                  exact xw_yr hd0 8 [1] rfl ⟨decide_eq_true h47, rfl, trivial⟩ ⟨rfl, rfl⟩
                · refine xw_y hd0 6 [0] rfl ⟨nt h47, trivial⟩ ?_
                  obtain ⟨A49, V50, c51, e52, e⟩ := bS_ok e
                  refine xw_call (k := 27) (j := 2) rfl (fun F => xm_c_ok (y_c_ok rfl) F) rfl rfl rfl (sX4_add (by omega) e52) ?_
                  rintro _ _ ⟨rfl, rfl⟩
                  cases e
                  exact xw_yr hd0 5 [] rfl ⟨rfl, trivial⟩ ⟨rfl, rfl⟩
          · refine xw_y hd0 6 [0] rfl ⟨nt h10, trivial⟩ ?_
            obtain ⟨A54, V55, c56, e57, e⟩ := bS_ok e
            refine xw_call (k := 27) (j := 2) rfl (fun F => xm_c_ok (y_c_ok rfl) F) rfl rfl rfl (sX4_add (by omega) e57) ?_
            rintro _ _ ⟨rfl, rfl⟩
            rcases ite_ok e with ⟨h58, e⟩ | ⟨h58, e⟩
            · rcases ite_ok e with ⟨h59, e⟩ | ⟨h59, e⟩
              · rcases ite_ok e with ⟨h60, e⟩ | ⟨h60, e⟩
                · cases e
                  exact xw_yr hd0 14 [1, 1, 1] rfl ⟨decide_eq_true h58, decide_eq_true h59, decide_eq_true h60, rfl, trivial⟩ ⟨rfl, rfl⟩
                · refine xw_y hd0 12 [1, 1, 0] rfl ⟨decide_eq_true h58, decide_eq_true h59, nt h60, trivial⟩ ?_
                  obtain ⟨A62, V63, c64, e65, e⟩ := bS_ok e
                  refine xw_call (k := 27) (j := 2) rfl (fun F => xm_c_ok (y_c_ok rfl) F) rfl rfl rfl (sX4_add (by omega) e65) ?_
                  rintro _ _ ⟨rfl, rfl⟩
                  cases e
                  exact xw_yr hd0 5 [] rfl ⟨rfl, trivial⟩ ⟨rfl, rfl⟩
              · refine xw_y hd0 9 [1, 0] rfl ⟨decide_eq_true h58, nt h59, trivial⟩ ?_
                obtain ⟨A67, V68, c69, e70, e⟩ := bS_ok e
                refine xw_call (k := 27) (j := 2) rfl (fun F => xm_c_ok (y_c_ok rfl) F) rfl rfl rfl (sX4_add (by omega) e70) ?_
                rintro _ _ ⟨rfl, rfl⟩
                rcases ite_ok e with ⟨h71, e⟩ | ⟨h71, e⟩
                · cases e
                  exact xw_yr hd0 8 [1] rfl ⟨decide_eq_true h71, rfl, trivial⟩ ⟨rfl, rfl⟩
                · refine xw_y hd0 6 [0] rfl ⟨nt h71, trivial⟩ ?_
                  obtain ⟨A73, V74, c75, e76, e⟩ := bS_ok e
                  refine xw_call (k := 27) (j := 2) rfl (fun F => xm_c_ok (y_c_ok rfl) F) rfl rfl rfl (sX4_add (by omega) e76) ?_
                  rintro _ _ ⟨rfl, rfl⟩
                  cases e
                  exact xw_yr hd0 5 [] rfl ⟨rfl, trivial⟩ ⟨rfl, rfl⟩
            · refine xw_y hd0 6 [0] rfl ⟨nt h58, trivial⟩ ?_
              obtain ⟨A78, V79, c80, e81, e⟩ := bS_ok e
              refine xw_call (k := 27) (j := 2) rfl (fun F => xm_c_ok (y_c_ok rfl) F) rfl rfl rfl (sX4_add (by omega) e81) ?_
              rintro _ _ ⟨rfl, rfl⟩
              rcases ite_ok e with ⟨h82, e⟩ | ⟨h82, e⟩
              · rcases ite_ok e with ⟨h83, e⟩ | ⟨h83, e⟩
                · cases e
                  exact xw_yr hd0 11 [1, 1] rfl ⟨decide_eq_true h82, decide_eq_true h83, rfl, trivial⟩ ⟨rfl, rfl⟩
                · refine xw_y hd0 9 [1, 0] rfl ⟨decide_eq_true h82, nt h83, trivial⟩ ?_
                  obtain ⟨A85, V86, c87, e88, e⟩ := bS_ok e
                  refine xw_call (k := 27) (j := 2) rfl (fun F => xm_c_ok (y_c_ok rfl) F) rfl rfl rfl (sX4_add (by omega) e88) ?_
                  rintro _ _ ⟨rfl, rfl⟩
                  cases e
                  exact xw_yr hd0 5 [] rfl ⟨rfl, trivial⟩ ⟨rfl, rfl⟩
              · refine xw_y hd0 6 [0] rfl ⟨nt h82, trivial⟩ ?_
                obtain ⟨A90, V91, c92, e93, e⟩ := bS_ok e
                refine xw_call (k := 27) (j := 2) rfl (fun F => xm_c_ok (y_c_ok rfl) F) rfl rfl rfl (sX4_add (by omega) e93) ?_
                rintro _ _ ⟨rfl, rfl⟩
                rcases ite_ok e with ⟨h94, e⟩ | ⟨h94, e⟩
                · cases e
                  exact xw_yr hd0 8 [1] rfl ⟨decide_eq_true h94, rfl, trivial⟩ ⟨rfl, rfl⟩
                · refine xw_y hd0 6 [0] rfl ⟨nt h94, trivial⟩ ?_
                  obtain ⟨A96, V97, c98, e99, e⟩ := bS_ok e
                  refine xw_call (k := 27) (j := 2) rfl (fun F => xm_c_ok (y_c_ok rfl) F) rfl rfl rfl (sX4_add (by omega) e99) ?_
                  rintro _ _ ⟨rfl, rfl⟩
                  cases e
                  exact xw_yr hd0 5 [] rfl ⟨rfl, trivial⟩ ⟨rfl, rfl⟩
        · cases e
          exact xw_yr hd0 28 [0, 0, 1, 0] rfl ⟨nt h1, nt h2, decide_eq_true h3, nt h4, rfl, trivial⟩ ⟨rfl, rfl⟩
      · cases e
        exact xw_yr hd0 21 [0, 0, 0] rfl ⟨nt h1, nt h2, nt h3, rfl, trivial⟩ ⟨rfl, rfl⟩
set_option maxRecDepth 20000 in
set_option maxHeartbeats 4000000 in
theorem sX8_asks {LL : Nat} {xs : Nat → Int32} {tx : List xh_T} {d : Nat} {A V : xM} {cu : Value} {A' V' : xM} {c' : Value} {r : Int32} {l1 l2 l3 l4 : Int32} (hd : 65 ≤ d) (e : fX8_asks tx l1 l2 l3 l4 A V cu = some (r, A', V', c')) : xe (xk_ro LL xs) d 77 [.ref 64, .int l1, .int l2, .int l3, .int l4] (xh A V tx cu) (qI r (xh A' V' tx c')) := by
  obtain ⟨d, rfl⟩ : ∃ d1, d = d1 + 1 := ⟨d - 1, by omega⟩
  replace hd : 64 ≤ d := by omega
  have hd0 : 60 ≤ d := by omega
  refine xe_of (co := xk_77) (nl := 5) rfl rfl rfl ?_
  unfold fX8_asks at e
  rcases ite_ok e with ⟨h1, e⟩ | ⟨h1, e⟩
  · cases e
    exact xw_yr hd0 5 [1] rfl ⟨decide_eq_true h1, rfl, trivial⟩ ⟨rfl, rfl⟩
  · rcases ite_ok e with ⟨h2, e⟩ | ⟨h2, e⟩
    · cases e
      exact xw_yr hd0 8 [0, 1] rfl ⟨nt h1, decide_eq_true h2, rfl, trivial⟩ ⟨rfl, rfl⟩
    · rcases ite_ok e with ⟨h3, e⟩ | ⟨h3, e⟩
      · cases e
        exact xw_yr hd0 10 [0, 0, 1] rfl ⟨nt h1, nt h2, decide_eq_true h3, rfl, trivial⟩ ⟨rfl, rfl⟩
      · rcases ite_ok e with ⟨h4, e⟩ | ⟨h4, e⟩
        · rcases ite_ok e with ⟨h5, e⟩ | ⟨h5, e⟩
          · cases e
            exact xw_yr hd0 15 [0, 0, 0, 1, 1] rfl ⟨nt h1, nt h2, nt h3, decide_eq_true h4, decide_eq_true h5, rfl, trivial⟩ ⟨rfl, rfl⟩
          · rcases ite_ok e with ⟨h6, e⟩ | ⟨h6, e⟩
            · cases e
              exact xw_yr hd0 20 [0, 0, 0, 1, 0, 1] rfl ⟨nt h1, nt h2, nt h3, decide_eq_true h4, nt h5, rfl, decide_eq_true h6, rfl, trivial⟩ ⟨rfl, rfl⟩
            · rcases ite_ok e with ⟨h7, e⟩ | ⟨h7, e⟩
              · cases e
                exact xw_yr hd0 29 [0, 0, 0, 1, 0, 0, 1, 0] rfl ⟨nt h1, nt h2, nt h3, decide_eq_true h4, nt h5, rfl, nt h6, rfl, decide_eq_true h7, rfl, rfl, rfl, trivial⟩ ⟨rfl, rfl⟩
              · rcases ite_ok e with ⟨h8, e⟩ | ⟨h8, e⟩
                · cases e
                  exact xw_yr hd0 32 [0, 0, 0, 1, 0, 0, 0, 1, 0] rfl ⟨nt h1, nt h2, nt h3, decide_eq_true h4, nt h5, rfl, nt h6, rfl, nt h7, decide_eq_true h8, rfl, rfl, rfl, trivial⟩ ⟨rfl, rfl⟩
                · rcases ite_ok e with ⟨h9, e⟩ | ⟨h9, e⟩
                  · cases e
                    exact xw_yr hd0 35 [0, 0, 0, 1, 0, 0, 0, 0, 1, 1] rfl ⟨nt h1, nt h2, nt h3, decide_eq_true h4, nt h5, rfl, nt h6, rfl, nt h7, nt h8, rfl, rfl, decide_eq_true h9, rfl, trivial⟩ ⟨rfl, rfl⟩
                  · rcases ite_ok e with ⟨h10, e⟩ | ⟨h10, e⟩
                    · refine xw_y hd0 38 [0, 0, 0, 1, 0, 0, 0, 0, 1, 0, 1] rfl ⟨nt h1, nt h2, nt h3, decide_eq_true h4, nt h5, rfl, nt h6, rfl, nt h7, nt h8, rfl, rfl, nt h9, decide_eq_true h10, trivial⟩ ?_
                      obtain ⟨h12, e⟩ := bC_ok e
                      refine xw_call (k := 119) (j := 1) rfl (fun F => xm_c_ok (y_c_ok rfl) F) rfl rfl rfl (sX8_lawText (by omega) h12) ?_
                      rintro _ _ ⟨rfl, rfl⟩
                      refine xw_y hd0 7 [] rfl ⟨rfl, rfl, trivial⟩ ?_
                      obtain ⟨A14, V15, c16, e17, e⟩ := bS_ok e
                      refine xw_call (k := 55) (j := 5) rfl (fun F => xm_c_ok (y_c_ok rfl) F) rfl rfl rfl (sX6_begin (by omega) e17) ?_
                      rintro _ _ ⟨rfl, rfl⟩
                      refine xw_y hd0 13 [] rfl ⟨rfl, rfl, rfl, rfl, trivial⟩ ?_
                      obtain ⟨A19, V20, c21, e22, e⟩ := bS_ok e
                      refine xw_call (k := 56) (j := 4) rfl (fun F => xm_c_ok (y_c_ok rfl) F) rfl rfl rfl (sX6_before (by omega) e22) ?_
                      rintro _ _ ⟨rfl, rfl⟩
                      refine xw_y hd0 3 [] rfl trivial ?_
                      obtain ⟨x23, A24, V25, c26, e27, e⟩ := bX_ok e
                      refine xw_call (k := 63) (j := 2) rfl (fun F => xm_c_ok (y_c_ok rfl) F) rfl rfl rfl (sX6_says (by omega) e27) ?_
                      rintro _ _ ⟨rfl, rfl⟩
                      rcases ite_ok e with ⟨h28, e⟩ | ⟨h28, e⟩
                      · cases e
                        exact xw_yr hd0 4 [1] rfl ⟨decide_eq_true h28, rfl, trivial⟩ ⟨rfl, rfl⟩
                      · cases e
                        exact xw_yr hd0 5 [0] rfl ⟨nt h28, rfl, trivial⟩ ⟨rfl, rfl⟩
                    · cases e
                      exact xw_yr hd0 38 [0, 0, 0, 1, 0, 0, 0, 0, 1, 0, 0] rfl ⟨nt h1, nt h2, nt h3, decide_eq_true h4, nt h5, rfl, nt h6, rfl, nt h7, nt h8, rfl, rfl, nt h9, nt h10, rfl, trivial⟩ ⟨rfl, rfl⟩
        · cases e
          exact xw_yr hd0 13 [0, 0, 0, 0] rfl ⟨nt h1, nt h2, nt h3, nt h4, rfl, trivial⟩ ⟨rfl, rfl⟩
set_option maxRecDepth 20000 in
set_option maxHeartbeats 4000000 in
theorem sX8_person {LL : Nat} {xs : Nat → Int32} {tx : List xh_T} {d : Nat} {A V : xM} {cu : Value} {A' V' : xM} {c' : Value} {r : Int32} {l1 l2 l3 : Int32} (hd : 64 ≤ d) (e : fX8_person l1 l2 l3 A V cu = some (r, A', V', c')) : xe (xk_ro LL xs) d 80 [.ref 64, .int l1, .int l2, .int l3] (xh A V tx cu) (qI r (xh A' V' tx c')) := by
  obtain ⟨d, rfl⟩ : ∃ d1, d = d1 + 1 := ⟨d - 1, by omega⟩
  replace hd : 63 ≤ d := by omega
  have hd0 : 60 ≤ d := by omega
  refine xe_of (co := xk_80) (nl := 4) rfl rfl rfl ?_
  unfold fX8_person at e
  refine xw_y hd0 5 [] rfl trivial ?_
  obtain ⟨x1, A2, V3, c4, e5, e⟩ := bX_ok e
  refine xw_call (k := 9) (j := 4) rfl (fun F => xm_c_ok (y_c_ok rfl) F) rfl rfl rfl (sX2_come (by omega) e5) ?_
  rintro _ _ ⟨rfl, rfl⟩
  cases e
  exact xw_yr hd0 2 [] rfl ⟨rfl, trivial⟩ ⟨rfl, rfl⟩
set_option maxRecDepth 20000 in
set_option maxHeartbeats 4000000 in
theorem slX8_tellsRooms_L2 {LL : Nat} {xs : Nat → Int32} {tx : List xh_T} {d : Nat}{A V : xM} {cu : Value} {r : Int32} {l0 : Nat} {ex : Option (Int32)} (hl0 : isSh l0) (hd : 62 ≤ d) (hex : ∀ (w0 w1 : Option Value), ex  = some r → xw (xk_ro LL xs) d xk_121 38 [w0, w1] [] (xh A V tx cu) (qI r (xh A V tx cu))) : ∀ (n : Nat) (l1 : Int32), fX8_tellsRooms_L2 l0 A V ex n l1 = some r → xw (xk_ro LL xs) d xk_121 2 [some (.ref l0), some (.int l1)] [] (xh A V tx cu) (qI r (xh A V tx cu)) := by
  have hd0 : 60 ≤ d := by omega
  intro n
  induction n with
  | zero =>
    intro l1 e
    rw [fX8_tellsRooms_L2] at e
    cases e
  | succ n ih =>
    intro l1 e
    rw [fX8_tellsRooms_L2] at e
    refine xw_y hd0 2 [] rfl trivial ?_
    refine st_get_sheet_2 hl0 rfl ?_
    rcases ite_ok e with ⟨h1, e⟩ | ⟨h1, e⟩
    · refine xw_y hd0 1 [1] rfl ⟨decide_eq_true h1, trivial⟩ ?_
      exact hex _ _ e
    · refine xw_y hd0 3 [0] rfl ⟨nt h1, trivial⟩ ?_
      obtain ⟨x2, e3, e⟩ := bI_ok e
      refine xw_call (k := 52) (j := 2) rfl (fun F => st_recv_sheet hl0 rfl F) rfl rfl rfl (sX5_at hl0 (by omega) e3) ?_
      rintro _ _ ⟨rfl, rfl⟩
      rcases ite_ok e with ⟨h4, e⟩ | ⟨h4, e⟩
      · refine xw_y hd0 4 [1] rfl ⟨decide_eq_true h4, trivial⟩ ?_
        exact ih _ e
      · refine xw_y hd0 4 [0] rfl ⟨nt h4, trivial⟩ ?_
        obtain ⟨x5, e6, e⟩ := bI_ok e
        refine xw_call (k := 52) (j := 2) rfl (fun F => st_recv_sheet hl0 rfl F) rfl rfl rfl (sX5_at hl0 (by omega) e6) ?_
        rintro _ _ ⟨rfl, rfl⟩
        rcases ite_ok e with ⟨h7, e⟩ | ⟨h7, e⟩
        · cases e
          exact xw_yr hd0 9 [1, 0] rfl ⟨decide_eq_true h7, rfl, rfl, rfl, trivial⟩ ⟨rfl, rfl⟩
        · rcases ite_ok e with ⟨h8, e⟩ | ⟨h8, e⟩
          · cases e
            exact xw_yr hd0 12 [0, 1, 0] rfl ⟨nt h7, decide_eq_true h8, rfl, rfl, rfl, trivial⟩ ⟨rfl, rfl⟩
          · refine xw_y hd0 12 [0, 0, 1] rfl ⟨nt h7, nt h8, rfl, rfl, trivial⟩ ?_
            exact ih _ e
set_option maxRecDepth 20000 in
set_option maxHeartbeats 4000000 in
theorem sX8_tellsRooms {LL : Nat} {xs : Nat → Int32} {tx : List xh_T} {d : Nat} {A V : xM} {cu : Value} {r : Int32} {l0 : Nat} (hl0 : isSh l0) (hd : 63 ≤ d) (e : fX8_tellsRooms l0 A V = some r) : xe (xk_ro LL xs) d 121 [.ref l0] (xh A V tx cu) (qI r (xh A V tx cu)) := by
  obtain ⟨d, rfl⟩ : ∃ d1, d = d1 + 1 := ⟨d - 1, by omega⟩
  replace hd : 62 ≤ d := by omega
  have hd0 : 60 ≤ d := by omega
  refine xe_of (co := xk_121) (nl := 2) rfl rfl rfl ?_
  unfold fX8_tellsRooms at e
  refine xw_y hd0 2 [] rfl trivial ?_
  refine slX8_tellsRooms_L2 hl0 hd ?_ FU _ e
  · intro z9 z10 e
    cases e
    exact xw_yr hd0 3 [] rfl ⟨rfl, trivial⟩ ⟨rfl, rfl⟩
set_option maxRecDepth 20000 in
set_option maxHeartbeats 4000000 in
theorem slX8_isSeated_L12 {LL : Nat} {xs : Nat → Int32} {tx : List xh_T} {d : Nat}{A V : xM} {cu : Value} {r : Int32} {l1 : Nat} {l2 : Int32} {ex : Int32 → Option (Int32)} (hl1 : isSh l1) (hd : 62 ≤ d) (hex : ∀ (y3 : Int32) (w4 : Option Value), ex y3 = some r → xw (xk_ro LL xs) d xk_122 45 [some (.ref 64), some (.ref l1), some (.int l2), some (.int y3), w4] [] (xh A V tx cu) (qI r (xh A V tx cu))) : ∀ (n : Nat) (l3 : Int32) (l4 : Int32), fX8_isSeated_L12 l1 l2 A V ex n l3 l4 = some r → xw (xk_ro LL xs) d xk_122 12 [some (.ref 64), some (.ref l1), some (.int l2), some (.int l3), some (.int l4)] [] (xh A V tx cu) (qI r (xh A V tx cu)) := by
  have hd0 : 60 ≤ d := by omega
  intro n
  induction n with
  | zero =>
    intro l3 l4 e
    rw [fX8_isSeated_L12] at e
    cases e
  | succ n ih =>
    intro l3 l4 e
    rw [fX8_isSeated_L12] at e
    refine xw_y hd0 2 [] rfl trivial ?_
    refine st_get_sheet_2 hl1 rfl ?_
    rcases ite_ok e with ⟨h1, e⟩ | ⟨h1, e⟩
    · refine xw_y hd0 1 [1] rfl ⟨decide_eq_true h1, trivial⟩ ?_
      exact hex _ _ e
    · refine xw_y hd0 4 [0] rfl ⟨nt h1, trivial⟩ ?_
      obtain ⟨x2, e3, e⟩ := bI_ok e
      refine xw_call (k := 52) (j := 2) rfl (fun F => st_recv_sheet hl1 rfl F) rfl rfl rfl (sX5_at hl1 (by omega) e3) ?_
      rintro _ _ ⟨rfl, rfl⟩
      rcases ite_ok e with ⟨h4, e⟩ | ⟨h4, e⟩
      · refine xw_y hd0 8 [0] rfl ⟨nnt h4, trivial⟩ ?_
        exact ih _ _ e
      · refine xw_y hd0 7 [1] rfl ⟨nt h4, trivial⟩ ?_
        exact ih _ _ e
set_option maxRecDepth 20000 in
set_option maxHeartbeats 4000000 in
theorem slX8_isSeated_L2 {LL : Nat} {xs : Nat → Int32} {tx : List xh_T} {d : Nat}{A V : xM} {cu : Value} {r : Int32} {l1 : Nat} {ex : Option (Int32)} (hl1 : isSh l1) (hd : 62 ≤ d) (hex : ∀ (w0 w1 w2 w3 w4 : Option Value), ex  = some r → xw (xk_ro LL xs) d xk_122 63 [w0, w1, w2, w3, w4] [] (xh A V tx cu) (qI r (xh A V tx cu))) : ∀ (n : Nat) (l2 : Int32) (z3 z4 : Option Value), fX8_isSeated_L2 l1 A V ex n l2 = some r → xw (xk_ro LL xs) d xk_122 2 [some (.ref 64), some (.ref l1), some (.int l2), z3, z4] [] (xh A V tx cu) (qI r (xh A V tx cu)) := by
  have hd0 : 60 ≤ d := by omega
  intro n
  induction n with
  | zero =>
    intro l2 z3 z4 e
    rw [fX8_isSeated_L2] at e
    cases e
  | succ n ih =>
    intro l2 z3 z4 e
    rw [fX8_isSeated_L2] at e
    rcases ite_ok e with ⟨h5, e⟩ | ⟨h5, e⟩
    · refine xw_y hd0 3 [1] rfl ⟨decide_eq_true h5, trivial⟩ ?_
      exact hex _ _ _ _ _ e
    · refine xw_y hd0 7 [0] rfl ⟨nt h5, trivial⟩ ?_
      refine slX8_isSeated_L12 hl1 hd ?_ FU _ _ e
      · intro l3_6 z7 e
        obtain ⟨h8, e⟩ := bC_ok e
        rcases ite_ok e with ⟨h9, e⟩ | ⟨h9, e⟩
        · refine xw_y hd0 8 [1] rfl ⟨h8, decide_eq_true h9, trivial⟩ ?_
          exact ih _ _ _ e
        · cases e
          exact xw_yr hd0 9 [0] rfl ⟨h8, nt h9, rfl, trivial⟩ ⟨rfl, rfl⟩
set_option maxRecDepth 20000 in
set_option maxHeartbeats 4000000 in
theorem sX8_isSeated {LL : Nat} {xs : Nat → Int32} {tx : List xh_T} {d : Nat} {A V : xM} {cu : Value} {r : Int32} {l1 : Nat} (hl1 : isSh l1) (hd : 63 ≤ d) (e : fX8_isSeated l1 A V = some r) : xe (xk_ro LL xs) d 122 [.ref 64, .ref l1] (xh A V tx cu) (qI r (xh A V tx cu)) := by
  obtain ⟨d, rfl⟩ : ∃ d1, d = d1 + 1 := ⟨d - 1, by omega⟩
  replace hd : 62 ≤ d := by omega
  have hd0 : 60 ≤ d := by omega
  refine xe_of (co := xk_122) (nl := 5) rfl rfl rfl ?_
  unfold fX8_isSeated at e
  refine xw_y hd0 2 [] rfl trivial ?_
  refine slX8_isSeated_L2 hl1 hd ?_ FU _ _ _ e
  · intro z10 z11 z12 z13 z14 e
    cases e
    exact xw_yr hd0 3 [] rfl ⟨rfl, trivial⟩ ⟨rfl, rfl⟩
set_option maxRecDepth 20000 in
set_option maxHeartbeats 4000000 in
theorem slX8_evening_L114 {LL : Nat} {xs : Nat → Int32} {tx : List xh_T} {d : Nat} {A' V' : xM} {c' : Value} {r : Int32} {l4 : Nat} {l5 : Nat} {ex : xM → xM → Value → Option (Int32 × xS)} (hl4 : isSh l4) (hl5 : isTd l5) (hd : 63 ≤ d) (hex : ∀ (w1 w2 w3 w4 w5 w6 : Option Value) (A V : xM) (cu : Value), ex  A V cu = some (r, A', V', c') → xw (xk_ro LL xs) d xk_83 154 [some (.ref 64), w1, w2, w3, w4, w5, w6] [] (xh A V tx cu) (qI r (xh A' V' tx c'))) : ∀ (n : Nat) (l6 : Int32) (z1 z2 z3 : Option Value) (A V : xM) (cu : Value), fX8_evening_L114 l4 l5 ex n l6 A V cu = some (r, A', V', c') → xw (xk_ro LL xs) d xk_83 114 [some (.ref 64), z1, z2, z3, some (.ref l4), some (.ref l5), some (.int l6)] [] (xh A V tx cu) (qI r (xh A' V' tx c')) := by
  have hd0 : 60 ≤ d := by omega
  intro n
  induction n with
  | zero =>
    intro l6 z1 z2 z3 A V cu e
    rw [fX8_evening_L114] at e
    cases e
  | succ n ih =>
    intro l6 z1 z2 z3 A V cu e
    rw [fX8_evening_L114] at e
    rcases ite_ok e with ⟨h1, e⟩ | ⟨h1, e⟩
    · refine xw_y hd0 3 [1] rfl ⟨decide_eq_true h1, trivial⟩ ?_
      exact hex _ _ _ _ _ _ _ _ _ e
    · refine xw_y hd0 9 [0] rfl ⟨nt h1, trivial⟩ ?_
      refine st_get_sheet_2 hl4 rfl ?_
      rcases ite_ok e with ⟨h2, e⟩ | ⟨h2, e⟩
      · refine xw_y hd0 2 [1] rfl ⟨decide_eq_true h2, trivial⟩ ?_
        obtain ⟨h3, e⟩ := bC_ok e
        refine st_st_told hl5 h3 rfl ?_
        refine xw_y hd0 2 [] rfl trivial ?_
        exact ih _ _ _ _ _ _ _ e
      · refine xw_y hd0 3 [0] rfl ⟨nt h2, trivial⟩ ?_
        obtain ⟨x4, e5, e⟩ := bI_ok e
        refine xw_call (k := 52) (j := 2) rfl (fun F => st_recv_sheet hl4 rfl F) rfl rfl rfl (sX5_at hl4 (by omega) e5) ?_
        rintro _ _ ⟨rfl, rfl⟩
        refine xw_y hd0 1 [] rfl trivial ?_
        obtain ⟨h6, e⟩ := bC_ok e
        refine st_st_told hl5 h6 rfl ?_
        refine xw_y hd0 2 [] rfl trivial ?_
        exact ih _ _ _ _ _ _ _ e
set_option maxRecDepth 20000 in
set_option maxHeartbeats 4000000 in
theorem sX8_evening {LL : Nat} {xs : Nat → Int32} {tx : List xh_T} {d : Nat} {A V : xM} {cu : Value} {A' V' : xM} {c' : Value} {r : Int32} {l1 l2 l3 : Int32} (hd : 64 ≤ d) (e : fX8_evening l1 l2 l3 A V cu = some (r, A', V', c')) : xe (xk_ro LL xs) d 83 [.ref 64, .int l1, .int l2, .int l3] (xh A V tx cu) (qI r (xh A' V' tx c')) := by
  obtain ⟨d, rfl⟩ : ∃ d1, d = d1 + 1 := ⟨d - 1, by omega⟩
  replace hd : 63 ≤ d := by omega
  have hd0 : 60 ≤ d := by omega
  refine xe_of (co := xk_83) (nl := 7) rfl rfl rfl ?_
  unfold fX8_evening at e
  rcases ite_ok e with ⟨h7, e⟩ | ⟨h7, e⟩
  · cases e
    exact xw_yr hd0 11 [1, 1] rfl ⟨decide_eq_true h7, rfl, rfl, rfl, trivial⟩ ⟨rfl, rfl⟩
  · rcases ite_ok e with ⟨h8, e⟩ | ⟨h8, e⟩
    · cases e
      exact xw_yr hd0 15 [0, 1, 1] rfl ⟨nt h7, decide_eq_true h8, rfl, rfl, rfl, trivial⟩ ⟨rfl, rfl⟩
    · rcases ite_ok e with ⟨h9, e⟩ | ⟨h9, e⟩
      · cases e
        exact xw_yr hd0 18 [0, 0, 1, 1] rfl ⟨nt h7, nt h8, decide_eq_true h9, rfl, rfl, rfl, trivial⟩ ⟨rfl, rfl⟩
      · rcases ite_ok e with ⟨h10, e⟩ | ⟨h10, e⟩
        · cases e
          exact xw_yr hd0 26 [0, 0, 0, 0, 1, 1] rfl ⟨nt h7, nt h8, nt h9, rfl, rfl, decide_eq_true h10, rfl, rfl, rfl, trivial⟩ ⟨rfl, rfl⟩
        · rcases ite_ok e with ⟨h11, e⟩ | ⟨h11, e⟩
          · cases e
            exact xw_yr hd0 29 [0, 0, 0, 0, 0, 1, 1] rfl ⟨nt h7, nt h8, nt h9, rfl, rfl, nt h10, decide_eq_true h11, rfl, rfl, rfl, trivial⟩ ⟨rfl, rfl⟩
          · rcases ite_ok e with ⟨h12, e⟩ | ⟨h12, e⟩
            · cases e
              exact xw_yr hd0 37 [0, 0, 0, 0, 0, 0, 0, 1, 0] rfl ⟨nt h7, nt h8, nt h9, rfl, rfl, nt h10, nt h11, rfl, rfl, decide_eq_true h12, rfl, rfl, rfl, trivial⟩ ⟨rfl, rfl⟩
            · rcases ite_ok e with ⟨h13, e⟩ | ⟨h13, e⟩
              · cases e
                exact xw_yr hd0 40 [0, 0, 0, 0, 0, 0, 0, 0, 1, 0] rfl ⟨nt h7, nt h8, nt h9, rfl, rfl, nt h10, nt h11, rfl, rfl, nt h12, decide_eq_true h13, rfl, rfl, rfl, trivial⟩ ⟨rfl, rfl⟩
              · refine xw_y hd0 40 [0, 0, 0, 0, 0, 0, 0, 0, 0, 1] rfl ⟨nt h7, nt h8, nt h9, rfl, rfl, nt h10, nt h11, rfl, rfl, nt h12, nt h13, rfl, rfl, trivial⟩ ?_
                obtain ⟨h15, e⟩ := bC_ok e
                rcases ite_ok e with ⟨h16, e⟩ | ⟨h16, e⟩
                · refine xw_call (k := 120) (j := 2) rfl (fun F => xm_c_ok (y_c_ok rfl) F) rfl rfl rfl (sX8_rowOf_0 (by omega) h15 h16) ?_
                  rintro _ _ ⟨rfl, rfl⟩
                  cases e
                  exact xw_yr hd0 6 [] rfl ⟨rfl, trivial⟩ ⟨rfl, rfl⟩
                · refine xw_call (k := 120) (j := 2) rfl (fun F => xm_c_ok (y_c_ok rfl) F) rfl rfl rfl (sX8_rowOf_1 (by omega) h15 h16) ?_
                  rintro _ _ ⟨rfl, rfl⟩
                  refine xw_y hd0 4 [] rfl trivial ?_
                  refine st_get_sheet_2 (sh_of h15) rfl ?_
                  rcases ite_ok e with ⟨h17, e⟩ | ⟨h17, e⟩
                  · refine xw_y hd0 5 [0] rfl ⟨nnt h17, trivial⟩ ?_
                    obtain ⟨x18, e19, e⟩ := bI_ok e
                    refine xw_call (k := 121) (j := 1) rfl (fun F => xm_c_ok (y_c_ok rfl) F) rfl rfl rfl (sX8_tellsRooms (sh_of h15) (by omega) e19) ?_
                    rintro _ _ ⟨rfl, rfl⟩
                    rcases ite_ok e with ⟨h20, e⟩ | ⟨h20, e⟩
                    · cases e
                      exact xw_yr hd0 4 [0] rfl ⟨nnt h20, rfl, trivial⟩ ⟨rfl, rfl⟩
                    · refine xw_y hd0 3 [1] rfl ⟨nt h20, trivial⟩ ?_
                      obtain ⟨x21, e22, e⟩ := bI_ok e
                      refine xw_call (k := 122) (j := 2) rfl (fun F => xm_c_ok (y_c_ok rfl) F) rfl rfl rfl (sX8_isSeated (sh_of h15) (by omega) e22) ?_
                      rintro _ _ ⟨rfl, rfl⟩
                      rcases ite_ok e with ⟨h23, e⟩ | ⟨h23, e⟩
                      · cases e
                        exact xw_yr hd0 4 [0] rfl ⟨nnt h23, rfl, trivial⟩ ⟨rfl, rfl⟩
                      · rcases ite_ok e with ⟨h24, e⟩ | ⟨h24, e⟩
                        · refine xw_y hd0 9 [1, 1] rfl ⟨nt h23, decide_eq_true h24, trivial⟩ ?_
                          obtain ⟨h25, e⟩ := bC_ok e
                          refine st_aal_100 h25 rfl ?_
                          refine xw_y hd0 4 [] rfl trivial ?_
                          obtain ⟨h26, e⟩ := bC_ok e
                          refine st_st_told (td_of h25) h26 rfl ?_
                          refine xw_y hd0 3 [] rfl trivial ?_
                          obtain ⟨h27, e⟩ := bC_ok e
                          refine st_st_told (td_of h25) h27 rfl ?_
                          refine xw_y hd0 2 [] rfl trivial ?_
                          refine slX8_evening_L114 (sh_of h15) (td_of h25) hd ?_ FU _ _ _ _ _ _ _ e
                          · intro z28 z29 z30 z31 z32 z33 A34 V35 c36 e
                            cases e
                            exact xw_yr hd0 12 [] rfl ⟨rfl, rfl, trivial⟩ ⟨rfl, rfl⟩
                        · cases e
                          exact xw_yr hd0 8 [1, 0] rfl ⟨nt h23, nt h24, rfl, trivial⟩ ⟨rfl, rfl⟩
                  · cases e
                    exact xw_yr hd0 7 [1] rfl ⟨nt h17, rfl, trivial⟩ ⟨rfl, rfl⟩
set_option maxRecDepth 20000 in
set_option maxHeartbeats 4000000 in
theorem slX8_peopleIn_L4 {LL : Nat} {xs : Nat → Int32} {tx : List xh_T} {d : Nat}{A V : xM} {cu : Value} {r : Int32} {l0 : Nat} {l1 : Int32} {ex : Int32 → Option (Int32)} (hl0 : isTd l0) (hd : 60 ≤ d) (hex : ∀ (y2 : Int32) (w0 w1 w3 w4 : Option Value), ex y2 = some r → xw (xk_ro LL xs) d xk_124 43 [w0, w1, some (.int y2), w3, w4] [] (xh A V tx cu) (qI r (xh A V tx cu))) : ∀ (n : Nat) (l2 : Int32) (l3 : Int32) (z4 : Option Value), fX8_peopleIn_L4 l0 l1 A V ex n l2 l3 = some r → xw (xk_ro LL xs) d xk_124 4 [some (.ref l0), some (.int l1), some (.int l2), some (.int l3), z4] [] (xh A V tx cu) (qI r (xh A V tx cu)) := by
  have hd0 : 60 ≤ d := by omega
  intro n
  induction n with
  | zero =>
    intro l2 l3 z4 e
    rw [fX8_peopleIn_L4] at e
    cases e
  | succ n ih =>
    intro l2 l3 z4 e
    rw [fX8_peopleIn_L4] at e
    rcases ite_ok e with ⟨h1, e⟩ | ⟨h1, e⟩
    · refine xw_y hd0 3 [1] rfl ⟨decide_eq_true h1, trivial⟩ ?_
      exact hex _ _ _ _ _ e
    · refine xw_y hd0 7 [0] rfl ⟨nt h1, trivial⟩ ?_
      obtain ⟨h2, e⟩ := bC_ok e
      refine st_ld_told hl0 h2 rfl ?_
      rcases ite_ok e with ⟨h3, e⟩ | ⟨h3, e⟩
      · refine xw_y hd0 6 [1] rfl ⟨decide_eq_true h3, trivial⟩ ?_
        exact ih _ _ _ e
      · rcases ite_ok e with ⟨h4, e⟩ | ⟨h4, e⟩
        · refine xw_y hd0 12 [0, 1] rfl ⟨nt h3, decide_eq_true h4, trivial⟩ ?_
          exact ih _ _ _ e
        · refine xw_y hd0 18 [0, 0] rfl ⟨nt h3, nt h4, trivial⟩ ?_
          exact ih _ _ _ e
set_option maxRecDepth 20000 in
set_option maxHeartbeats 4000000 in
theorem sX8_peopleIn {LL : Nat} {xs : Nat → Int32} {tx : List xh_T} {d : Nat} {A V : xM} {cu : Value} {r : Int32} {l0 : Nat} {l1 : Int32} (hl0 : isTd l0) (hd : 61 ≤ d) (e : fX8_peopleIn l0 l1 A V = some r) : xe (xk_ro LL xs) d 124 [.ref l0, .int l1] (xh A V tx cu) (qI r (xh A V tx cu)) := by
  obtain ⟨d, rfl⟩ : ∃ d1, d = d1 + 1 := ⟨d - 1, by omega⟩
  replace hd : 60 ≤ d := by omega
  have hd0 : 60 ≤ d := by omega
  refine xe_of (co := xk_124) (nl := 5) rfl rfl rfl ?_
  unfold fX8_peopleIn at e
  refine xw_y hd0 4 [] rfl trivial ?_
  refine slX8_peopleIn_L4 hl0 hd ?_ FU _ _ _ e
  · intro l2_5 z6 z7 z8 z9 e
    cases e
    exact xw_yr hd0 3 [] rfl ⟨rfl, trivial⟩ ⟨rfl, rfl⟩
set_option maxRecDepth 20000 in
set_option maxHeartbeats 4000000 in
theorem slX8_live_L16 {LL : Nat} {xs : Nat → Int32} {tx : List xh_T} {d : Nat} {A' V' : xM} {c' : Value} {r : Int32} {l2 : Nat} {l1 : Int32} {ex : Int32 → xM → xM → Value → Option (Int32 × xS)} (hd : 65 ≤ d) (hex : ∀ (y3 : Int32) (w0 w1 w2 w4 w5 w6 w7 : Option Value) (A V : xM) (cu : Value), ex y3 A V cu = some (r, A', V', c') → xw (xk_ro LL xs) d xk_123 151 [w0, w1, w2, some (.int y3), w4, w5, w6, w7] [] (xh A V tx cu) (qI r (xh A' V' tx c'))) : ∀ (n : Nat) (l3 : Int32) (l4 : Int32) (z5 z6 z7 : Option Value) (A V : xM) (cu : Value), fX8_live_L16 tx l2 l1 ex n l3 l4 A V cu = some (r, A', V', c') → xw (xk_ro LL xs) d xk_123 16 [some (.ref 64), some (.int l1), some (.ref l2), some (.int l3), some (.int l4), z5, z6, z7] [] (xh A V tx cu) (qI r (xh A' V' tx c')) := by
  have hd0 : 60 ≤ d := by omega
  intro n
  induction n with
  | zero =>
    intro l3 l4 z5 z6 z7 A V cu e
    rw [fX8_live_L16] at e
    cases e
  | succ n ih =>
    intro l3 l4 z5 z6 z7 A V cu e
    rw [fX8_live_L16] at e
    rcases ite_ok e with ⟨h1, e⟩ | ⟨h1, e⟩
    · refine xw_y hd0 3 [1] rfl ⟨decide_eq_true h1, trivial⟩ ?_
      exact hex _ _ _ _ _ _ _ _ _ _ _ e
    · rcases ite_ok e with ⟨h2, e⟩ | ⟨h2, e⟩
      · refine xw_y hd0 6 [0, 1] rfl ⟨nt h1, decide_eq_true h2, trivial⟩ ?_
        exact hex _ _ _ _ _ _ _ _ _ _ _ e
      · refine xw_y hd0 9 [0, 0] rfl ⟨nt h1, nt h2, trivial⟩ ?_
        obtain ⟨h3, e⟩ := bC_ok e
        refine st_aal_100 h3 rfl ?_
        refine xw_y hd0 3 [] rfl trivial ?_
        obtain ⟨h4, e⟩ := bC_ok e
        refine st_ld_told (td_of h3) h4 rfl ?_
        refine xw_y hd0 4 [] rfl trivial ?_
        obtain ⟨h5, e⟩ := bC_ok e
        refine st_ld_told (td_of h3) h5 rfl ?_
        rcases ite_ok e with ⟨h6, e⟩ | ⟨h6, e⟩
        · refine xw_y hd0 8 [1, 1] rfl ⟨decide_eq_true h6, rfl, rfl, trivial⟩ ?_
          exact ih _ _ _ _ _ _ _ _ e
        · rcases ite_ok e with ⟨h7, e⟩ | ⟨h7, e⟩
          · refine xw_y hd0 12 [0, 1, 1] rfl ⟨nt h6, decide_eq_true h7, rfl, rfl, trivial⟩ ?_
            exact ih _ _ _ _ _ _ _ _ e
          · rcases ite_ok e with ⟨h8, e⟩ | ⟨h8, e⟩
            · refine xw_y hd0 15 [0, 0, 1, 1] rfl ⟨nt h6, nt h7, decide_eq_true h8, rfl, rfl, trivial⟩ ?_
              exact ih _ _ _ _ _ _ _ _ e
            · rcases ite_ok e with ⟨h9, e⟩ | ⟨h9, e⟩
              · refine xw_y hd0 24 [0, 0, 0, 0, 1, 0] rfl ⟨nt h6, nt h7, nt h8, rfl, rfl, decide_eq_true h9, rfl, rfl, trivial⟩ ?_
                exact ih _ _ _ _ _ _ _ _ e
              · rcases ite_ok e with ⟨h10, e⟩ | ⟨h10, e⟩
                · refine xw_y hd0 27 [0, 0, 0, 0, 0, 1, 0] rfl ⟨nt h6, nt h7, nt h8, rfl, rfl, nt h9, decide_eq_true h10, rfl, rfl, trivial⟩ ?_
                  exact ih _ _ _ _ _ _ _ _ e
                · refine xw_y hd0 30 [0, 0, 0, 0, 0, 0, 1] rfl ⟨nt h6, nt h7, nt h8, rfl, rfl, nt h9, nt h10, rfl, rfl, trivial⟩ ?_
                  refine st_ld_told (td_of h3) h5 rfl ?_
                  refine xw_y hd0 2 [] rfl trivial ?_
                  obtain ⟨A13, V14, c15, e16, e⟩ := bS_ok e
                  refine xw_call (k := 55) (j := 5) rfl (fun F => xm_c_ok (y_c_ok rfl) F) rfl rfl rfl (sX6_begin (by omega) e16) ?_
                  rintro _ _ ⟨rfl, rfl⟩
                  refine xw_y hd0 4 [] rfl trivial ?_
                  obtain ⟨x17, e18, e⟩ := bI_ok e
                  refine xw_call (k := 124) (j := 2) rfl (fun F => xm_c_ok (y_c_ok rfl) F) rfl rfl rfl (sX8_peopleIn (td_of h3) (by omega) e18) ?_
                  rintro _ _ ⟨rfl, rfl⟩
                  refine xw_y hd0 6 [] rfl trivial ?_
                  obtain ⟨x19, A20, V21, c22, e23, e⟩ := bX_ok e
                  refine xw_call (k := 57) (j := 3) rfl (fun F => xm_c_ok (y_c_ok rfl) F) rfl rfl rfl (sX6_may_77 (by omega) e23) ?_
                  rintro _ _ ⟨rfl, rfl⟩
                  rcases ite_ok e with ⟨h24, e⟩ | ⟨h24, e⟩
                  · rcases ite_ok e with ⟨h25, e⟩ | ⟨h25, e⟩
                    · refine xw_y hd0 8 [1, 0] rfl ⟨decide_eq_true h24, nnt h25, trivial⟩ ?_
                      exact ih _ _ _ _ _ _ _ _ e
                    · refine xw_y hd0 6 [1, 1] rfl ⟨decide_eq_true h24, nt h25, trivial⟩ ?_
                      exact ih _ _ _ _ _ _ _ _ e
                  · obtain ⟨h26, e⟩ := bC_ok e
                    refine xw_y hd0 11 [0] rfl ⟨nt h24, h26, trivial⟩ ?_
                    obtain ⟨x27, e28, e⟩ := bI_ok e
                    refine xw_call (k := 124) (j := 2) rfl (fun F => xm_c_ok (y_c_ok rfl) F) rfl rfl rfl (sX8_peopleIn (td_of h3) (by omega) e28) ?_
                    rintro _ _ ⟨rfl, rfl⟩
                    obtain ⟨A30, V31, c32, e33, e⟩ := bS_ok e
                    refine xw_call (k := 58) (j := 4) rfl (fun F => xm_c_ok (y_c_ok rfl) F) rfl rfl rfl (sX6_spread_77 (by omega) e33) ?_
                    rintro _ _ ⟨rfl, rfl⟩
                    refine xw_y hd0 3 [] rfl trivial ?_
                    exact ih _ _ _ _ _ _ _ _ e
set_option maxRecDepth 20000 in
set_option maxHeartbeats 4000000 in
theorem sX8_live {LL : Nat} {xs : Nat → Int32} {tx : List xh_T} {d : Nat} {A V : xM} {cu : Value} {A' V' : xM} {c' : Value} {r : Int32} {l2 : Nat} {l1 : Int32} (hd : 66 ≤ d) (e : fX8_live tx l2 l1 A V cu = some (r, A', V', c')) : xe (xk_ro LL xs) d 123 [.ref 64, .int l1, .ref l2] (xh A V tx cu) (qI r (xh A' V' tx c')) := by
  obtain ⟨d, rfl⟩ : ∃ d1, d = d1 + 1 := ⟨d - 1, by omega⟩
  replace hd : 65 ≤ d := by omega
  have hd0 : 60 ≤ d := by omega
  refine xe_of (co := xk_123) (nl := 8) rfl rfl rfl ?_
  unfold fX8_live at e
  refine xw_y hd0 6 [] rfl trivial ?_
  obtain ⟨A35, V36, c37, e38, e⟩ := bS_ok e
  refine xw_call (k := 5) (j := 2) rfl (fun F => xm_c_ok (y_c_ok rfl) F) rfl rfl rfl (sX1_take_77_73 (by omega) e38) ?_
  rintro _ _ ⟨rfl, rfl⟩
  refine xw_y hd0 2 [] rfl trivial ?_
  refine slX8_live_L16 hd ?_ FU _ _ _ _ _ _ _ _ e
  · intro l3_39 z40 z41 z42 z43 z44 z45 z46 A47 V48 c49 e
    cases e
    exact xw_yr hd0 3 [] rfl ⟨rfl, trivial⟩ ⟨rfl, rfl⟩
set_option maxRecDepth 20000 in
set_option maxHeartbeats 4000000 in
theorem sX8_knows {LL : Nat} {xs : Nat → Int32} {tx : List xh_T} {d : Nat} {A V : xM} {cu : Value} {A' V' : xM} {c' : Value} {r : Int32} {l1 l2 l3 : Int32} (hd : 67 ≤ d) (e : fX8_knows tx l1 l2 l3 A V cu = some (r, A', V', c')) : xe (xk_ro LL xs) d 86 [.ref 64, .int l1, .int l2, .int l3] (xh A V tx cu) (qI r (xh A' V' tx c')) := by
  obtain ⟨d, rfl⟩ : ∃ d1, d = d1 + 1 := ⟨d - 1, by omega⟩
  replace hd : 66 ≤ d := by omega
  have hd0 : 60 ≤ d := by omega
  refine xe_of (co := xk_86) (nl := 4) rfl rfl rfl ?_
  unfold fX8_knows at e
  rcases ite_ok e with ⟨h1, e⟩ | ⟨h1, e⟩
  · cases e
    exact xw_yr hd0 11 [1, 1] rfl ⟨decide_eq_true h1, rfl, rfl, rfl, trivial⟩ ⟨rfl, rfl⟩
  · rcases ite_ok e with ⟨h2, e⟩ | ⟨h2, e⟩
    · cases e
      exact xw_yr hd0 15 [0, 1, 1] rfl ⟨nt h1, decide_eq_true h2, rfl, rfl, rfl, trivial⟩ ⟨rfl, rfl⟩
    · rcases ite_ok e with ⟨h3, e⟩ | ⟨h3, e⟩
      · cases e
        exact xw_yr hd0 24 [0, 0, 0, 1, 1] rfl ⟨nt h1, nt h2, rfl, rfl, decide_eq_true h3, rfl, rfl, rfl, trivial⟩ ⟨rfl, rfl⟩
      · rcases ite_ok e with ⟨h4, e⟩ | ⟨h4, e⟩
        · cases e
          exact xw_yr hd0 29 [0, 0, 0, 0, 1, 1] rfl ⟨nt h1, nt h2, rfl, rfl, nt h3, decide_eq_true h4, rfl, rfl, rfl, trivial⟩ ⟨rfl, rfl⟩
        · rcases ite_ok e with ⟨h5, e⟩ | ⟨h5, e⟩
          · cases e
            exact xw_yr hd0 32 [0, 0, 0, 0, 0, 1, 1] rfl ⟨nt h1, nt h2, rfl, rfl, nt h3, nt h4, decide_eq_true h5, rfl, rfl, rfl, trivial⟩ ⟨rfl, rfl⟩
          · rcases ite_ok e with ⟨h6, e⟩ | ⟨h6, e⟩
            · cases e
              exact xw_yr hd0 41 [0, 0, 0, 0, 0, 0, 0, 1, 0] rfl ⟨nt h1, nt h2, rfl, rfl, nt h3, nt h4, nt h5, rfl, rfl, decide_eq_true h6, rfl, rfl, rfl, trivial⟩ ⟨rfl, rfl⟩
            · rcases ite_ok e with ⟨h7, e⟩ | ⟨h7, e⟩
              · cases e
                exact xw_yr hd0 45 [0, 0, 0, 0, 0, 0, 0, 0, 1, 0] rfl ⟨nt h1, nt h2, rfl, rfl, nt h3, nt h4, nt h5, rfl, rfl, nt h6, decide_eq_true h7, rfl, rfl, rfl, trivial⟩ ⟨rfl, rfl⟩
              · rcases ite_ok e with ⟨h8, e⟩ | ⟨h8, e⟩
                · cases e
                  exact xw_yr hd0 48 [0, 0, 0, 0, 0, 0, 0, 0, 0, 1, 0] rfl ⟨nt h1, nt h2, rfl, rfl, nt h3, nt h4, nt h5, rfl, rfl, nt h6, nt h7, decide_eq_true h8, rfl, rfl, rfl, trivial⟩ ⟨rfl, rfl⟩
                · refine xw_y hd0 49 [0, 0, 0, 0, 0, 0, 0, 0, 0, 0, 1] rfl ⟨nt h1, nt h2, rfl, rfl, nt h3, nt h4, nt h5, rfl, rfl, nt h6, nt h7, nt h8, rfl, rfl, trivial⟩ ?_
                  obtain ⟨h10, e⟩ := bC_ok e
                  refine xw_call (k := 119) (j := 1) rfl (fun F => xm_c_ok (y_c_ok rfl) F) rfl rfl rfl (sX8_lawText (by omega) h10) ?_
                  rintro _ _ ⟨rfl, rfl⟩
                  obtain ⟨x11, A12, V13, c14, e15, e⟩ := bX_ok e
                  refine xw_call (k := 123) (j := 3) rfl (fun F => xm_c_ok (y_c_ok rfl) F) rfl rfl rfl (sX8_live (by omega) e15) ?_
                  rintro _ _ ⟨rfl, rfl⟩
                  refine xw_y hd0 5 [] rfl trivial ?_
                  obtain ⟨x16, e17, e⟩ := bI_ok e
                  refine xw_call (k := 2) (j := 3) rfl (fun F => xm_c_ok (y_c_ok rfl) F) rfl rfl rfl (sX1_amount_77 (by omega) e17) ?_
                  rintro _ _ ⟨rfl, rfl⟩
                  cases e
                  exact xw_yr hd0 2 [] rfl ⟨rfl, trivial⟩ ⟨rfl, rfl⟩
set_option maxRecDepth 20000 in
set_option maxHeartbeats 4000000 in
theorem sX8_all {LL : Nat} {xs : Nat → Int32} {tx : List xh_T} {d : Nat} {A V : xM} {cu : Value} {A' V' : xM} {c' : Value} {r : Int32} {l1 l2 l3 : Int32} (hd : 67 ≤ d) (e : fX8_all tx l1 l2 l3 A V cu = some (r, A', V', c')) : xe (xk_ro LL xs) d 87 [.ref 64, .int l1, .int l2, .int l3] (xh A V tx cu) (qI r (xh A' V' tx c')) := by
  obtain ⟨d, rfl⟩ : ∃ d1, d = d1 + 1 := ⟨d - 1, by omega⟩
  replace hd : 66 ≤ d := by omega
  have hd0 : 60 ≤ d := by omega
  refine xe_of (co := xk_87) (nl := 4) rfl rfl rfl ?_
  unfold fX8_all at e
  rcases ite_ok e with ⟨h1, e⟩ | ⟨h1, e⟩
  · cases e
    exact xw_yr hd0 11 [1, 1] rfl ⟨decide_eq_true h1, rfl, rfl, rfl, trivial⟩ ⟨rfl, rfl⟩
  · rcases ite_ok e with ⟨h2, e⟩ | ⟨h2, e⟩
    · cases e
      exact xw_yr hd0 15 [0, 1, 1] rfl ⟨nt h1, decide_eq_true h2, rfl, rfl, rfl, trivial⟩ ⟨rfl, rfl⟩
    · rcases ite_ok e with ⟨h3, e⟩ | ⟨h3, e⟩
      · cases e
        exact xw_yr hd0 24 [0, 0, 0, 1, 0] rfl ⟨nt h1, nt h2, rfl, rfl, decide_eq_true h3, rfl, rfl, rfl, trivial⟩ ⟨rfl, rfl⟩
      · rcases ite_ok e with ⟨h4, e⟩ | ⟨h4, e⟩
        · cases e
          exact xw_yr hd0 28 [0, 0, 0, 0, 1, 0] rfl ⟨nt h1, nt h2, rfl, rfl, nt h3, decide_eq_true h4, rfl, rfl, rfl, trivial⟩ ⟨rfl, rfl⟩
        · rcases ite_ok e with ⟨h5, e⟩ | ⟨h5, e⟩
          · cases e
            exact xw_yr hd0 31 [0, 0, 0, 0, 0, 1, 0] rfl ⟨nt h1, nt h2, rfl, rfl, nt h3, nt h4, decide_eq_true h5, rfl, rfl, rfl, trivial⟩ ⟨rfl, rfl⟩
          · rcases ite_ok e with ⟨h6, e⟩ | ⟨h6, e⟩
            · cases e
              exact xw_yr hd0 34 [0, 0, 0, 0, 0, 0, 1, 1] rfl ⟨nt h1, nt h2, rfl, rfl, nt h3, nt h4, nt h5, rfl, rfl, decide_eq_true h6, rfl, trivial⟩ ⟨rfl, rfl⟩
            · rcases ite_ok e with ⟨h7, e⟩ | ⟨h7, e⟩
              · refine xw_y hd0 37 [0, 0, 0, 0, 0, 0, 1, 0, 1] rfl ⟨nt h1, nt h2, rfl, rfl, nt h3, nt h4, nt h5, rfl, rfl, nt h6, decide_eq_true h7, trivial⟩ ?_
                obtain ⟨h9, e⟩ := bC_ok e
                refine xw_call (k := 119) (j := 1) rfl (fun F => xm_c_ok (y_c_ok rfl) F) rfl rfl rfl (sX8_lawText (by omega) h9) ?_
                rintro _ _ ⟨rfl, rfl⟩
                obtain ⟨x10, A11, V12, c13, e14, e⟩ := bX_ok e
                refine xw_call (k := 123) (j := 3) rfl (fun F => xm_c_ok (y_c_ok rfl) F) rfl rfl rfl (sX8_live (by omega) e14) ?_
                rintro _ _ ⟨rfl, rfl⟩
                refine xw_y hd0 5 [] rfl trivial ?_
                obtain ⟨x15, e16, e⟩ := bI_ok e
                refine xw_call (k := 4) (j := 3) rfl (fun F => xm_c_ok (y_c_ok rfl) F) rfl rfl rfl (sX1_who_77 (by omega) e16) ?_
                rintro _ _ ⟨rfl, rfl⟩
                cases e
                exact xw_yr hd0 2 [] rfl ⟨rfl, trivial⟩ ⟨rfl, rfl⟩
              · cases e
                exact xw_yr hd0 37 [0, 0, 0, 0, 0, 0, 1, 0, 0] rfl ⟨nt h1, nt h2, rfl, rfl, nt h3, nt h4, nt h5, rfl, rfl, nt h6, nt h7, rfl, trivial⟩ ⟨rfl, rfl⟩
set_option maxRecDepth 20000 in
set_option maxHeartbeats 4000000 in
theorem sX8_judge {LL : Nat} {xs : Nat → Int32} {tx : List xh_T} {d : Nat} {A V : xM} {cu : Value} {A' V' : xM} {c' : Value} {r : Int32} (hd : 67 ≤ d) (e : fX8_judge tx A V cu = some (r, A', V', c')) : xe (xk_ro LL xs) d 88 [.ref 64] (xh A V tx cu) (qI r (xh A' V' tx c')) := by
  obtain ⟨d, rfl⟩ : ∃ d1, d = d1 + 1 := ⟨d - 1, by omega⟩
  replace hd : 66 ≤ d := by omega
  have hd0 : 60 ≤ d := by omega
  refine xe_of (co := xk_88) (nl := 1) rfl rfl rfl ?_
  unfold fX8_judge at e
  refine xw_y hd0 4 [] rfl trivial ?_
  obtain ⟨h2, e⟩ := bC_ok e
  refine xw_call (k := 119) (j := 1) rfl (fun F => xm_c_ok (y_c_ok rfl) F) rfl rfl rfl (sX8_lawText (by omega) h2) ?_
  rintro _ _ ⟨rfl, rfl⟩
  obtain ⟨x3, A4, V5, c6, e7, e⟩ := bX_ok e
  refine xw_call (k := 123) (j := 3) rfl (fun F => xm_c_ok (y_c_ok rfl) F) rfl rfl rfl (sX8_live (by omega) e7) ?_
  rintro _ _ ⟨rfl, rfl⟩
  cases e
  exact xw_yr hd0 2 [] rfl ⟨rfl, trivial⟩ ⟨rfl, rfl⟩
set_option maxRecDepth 20000 in
set_option maxHeartbeats 4000000 in
theorem slX8_laws_L4 {LL : Nat} {xs : Nat → Int32} {tx : List xh_T} {d : Nat} {A' V' : xM} {c' : Value} {r : Int32} {ex : Int32 → xM → xM → Value → Option (Int32 × xS)} (hd : 66 ≤ d) (hex : ∀ (y1 : Int32) (w0 w2 : Option Value) (A V : xM) (cu : Value), ex y1 A V cu = some (r, A', V', c') → xw (xk_ro LL xs) d xk_89 48 [w0, some (.int y1), w2] [] (xh A V tx cu) (qI r (xh A' V' tx c'))) : ∀ (n : Nat) (l1 : Int32) (l2 : Int32) (A V : xM) (cu : Value), fX8_laws_L4 tx ex n l1 l2 A V cu = some (r, A', V', c') → xw (xk_ro LL xs) d xk_89 4 [some (.ref 64), some (.int l1), some (.int l2)] [] (xh A V tx cu) (qI r (xh A' V' tx c')) := by
  have hd0 : 60 ≤ d := by omega
  intro n
  induction n with
  | zero =>
    intro l1 l2 A V cu e
    rw [fX8_laws_L4] at e
    cases e
  | succ n ih =>
    intro l1 l2 A V cu e
    rw [fX8_laws_L4] at e
    rcases ite_ok e with ⟨h1, e⟩ | ⟨h1, e⟩
    · refine xw_y hd0 4 [1] rfl ⟨decide_eq_true h1, trivial⟩ ?_
      exact hex _ _ _ _ _ _ e
    · rcases ite_ok e with ⟨h2, e⟩ | ⟨h2, e⟩
      · refine xw_y hd0 7 [0, 1] rfl ⟨nt h1, decide_eq_true h2, trivial⟩ ?_
        exact hex _ _ _ _ _ _ e
      · refine xw_y hd0 13 [0, 0] rfl ⟨nt h1, nt h2, trivial⟩ ?_
        obtain ⟨h3, e⟩ := bC_ok e
        refine st_aal_97 h3 rfl ?_
        obtain ⟨x4, A5, V6, c7, e8, e⟩ := bX_ok e
        refine xw_call (k := 123) (j := 3) rfl (fun F => xm_c_ok (y_c_ok rfl) F) rfl rfl rfl (sX8_live (by omega) e8) ?_
        rintro _ _ ⟨rfl, rfl⟩
        rcases ite_ok e with ⟨h9, e⟩ | ⟨h9, e⟩
        · refine xw_y hd0 10 [0] rfl ⟨nnt h9, trivial⟩ ?_
          exact ih _ _ _ _ _ e
        · refine xw_y hd0 4 [1] rfl ⟨nt h9, trivial⟩ ?_
          exact ih _ _ _ _ _ e
set_option maxRecDepth 20000 in
set_option maxHeartbeats 4000000 in
theorem sX8_laws {LL : Nat} {xs : Nat → Int32} {tx : List xh_T} {d : Nat} {A V : xM} {cu : Value} {A' V' : xM} {c' : Value} {r : Int32} (hd : 67 ≤ d) (e : fX8_laws tx A V cu = some (r, A', V', c')) : xe (xk_ro LL xs) d 89 [.ref 64] (xh A V tx cu) (qI r (xh A' V' tx c')) := by
  obtain ⟨d, rfl⟩ : ∃ d1, d = d1 + 1 := ⟨d - 1, by omega⟩
  replace hd : 66 ≤ d := by omega
  have hd0 : 60 ≤ d := by omega
  refine xe_of (co := xk_89) (nl := 3) rfl rfl rfl ?_
  unfold fX8_laws at e
  refine xw_y hd0 4 [] rfl trivial ?_
  refine slX8_laws_L4 hd ?_ FU _ _ _ _ _ e
  · intro l1_10 z11 z12 A13 V14 c15 e
    cases e
    exact xw_yr hd0 3 [] rfl ⟨rfl, trivial⟩ ⟨rfl, rfl⟩
set_option maxRecDepth 20000 in
set_option maxHeartbeats 4000000 in
theorem sX8_mayAtFirst {LL : Nat} {xs : Nat → Int32} {tx : List xh_T} {d : Nat} {A V : xM} {cu : Value} {A' V' : xM} {c' : Value} {r : Int32} {l1 l2 l3 : Int32} (hd : 66 ≤ d) (e : fX8_mayAtFirst tx l1 l2 l3 A V cu = some (r, A', V', c')) : xe (xk_ro LL xs) d 125 [.ref 64, .int l1, .int l2, .int l3] (xh A V tx cu) (qI r (xh A' V' tx c')) := by
  obtain ⟨d, rfl⟩ : ∃ d1, d = d1 + 1 := ⟨d - 1, by omega⟩
  replace hd : 65 ≤ d := by omega
  have hd0 : 60 ≤ d := by omega
  refine xe_of (co := xk_125) (nl := 4) rfl rfl rfl ?_
  unfold fX8_mayAtFirst at e
  refine xw_y hd0 3 [] rfl trivial ?_
  obtain ⟨h2, e⟩ := bC_ok e
  refine xw_call (k := 119) (j := 1) rfl (fun F => xm_c_ok (y_c_ok rfl) F) rfl rfl rfl (sX8_lawText (by omega) h2) ?_
  rintro _ _ ⟨rfl, rfl⟩
  refine xw_y hd0 3 [] rfl trivial ?_
  obtain ⟨A4, V5, c6, e7, e⟩ := bS_ok e
  refine xw_call (k := 55) (j := 5) rfl (fun F => xm_c_ok (y_c_ok rfl) F) rfl rfl rfl (sX6_begin (by omega) e7) ?_
  rintro _ _ ⟨rfl, rfl⟩
  refine xw_y hd0 5 [] rfl trivial ?_
  obtain ⟨x8, A9, V10, c11, e12, e⟩ := bX_ok e
  refine xw_call (k := 57) (j := 3) rfl (fun F => xm_c_ok (y_c_ok rfl) F) rfl rfl rfl (sX6_may_73 (by omega) e12) ?_
  rintro _ _ ⟨rfl, rfl⟩
  obtain ⟨h13, e⟩ := bC_ok e
  cases e
  exact xw_yr hd0 2 [] rfl ⟨h13, trivial⟩ ⟨rfl, rfl⟩
set_option maxRecDepth 20000 in
set_option maxHeartbeats 4000000 in
theorem slX8_feast_L23 {LL : Nat} {xs : Nat → Int32} {tx : List xh_T} {d : Nat} {A' V' : xM} {c' : Value} {r : Int32} {l1 : Int32} {l2 : Int32} {ex : Int32 → xM → xM → Value → Option (Int32 × xS)} (hd : 66 ≤ d) (hex : ∀ (y3 : Int32) (w0 w1 w2 w4 : Option Value) (A V : xM) (cu : Value), ex y3 A V cu = some (r, A', V', c') → xw (xk_ro LL xs) d xk_90 63 [w0, w1, w2, some (.int y3), w4] [] (xh A V tx cu) (qI r (xh A' V' tx c'))) : ∀ (n : Nat) (l3 : Int32) (l4 : Int32) (A V : xM) (cu : Value), fX8_feast_L23 tx l1 l2 ex n l3 l4 A V cu = some (r, A', V', c') → xw (xk_ro LL xs) d xk_90 23 [some (.ref 64), some (.int l1), some (.int l2), some (.int l3), some (.int l4)] [] (xh A V tx cu) (qI r (xh A' V' tx c')) := by
  have hd0 : 60 ≤ d := by omega
  intro n
  induction n with
  | zero =>
    intro l3 l4 A V cu e
    rw [fX8_feast_L23] at e
    cases e
  | succ n ih =>
    intro l3 l4 A V cu e
    rw [fX8_feast_L23] at e
    rcases ite_ok e with ⟨h1, e⟩ | ⟨h1, e⟩
    · refine xw_y hd0 4 [1] rfl ⟨decide_eq_true h1, trivial⟩ ?_
      exact hex _ _ _ _ _ _ _ _ e
    · rcases ite_ok e with ⟨h2, e⟩ | ⟨h2, e⟩
      · refine xw_y hd0 7 [0, 1] rfl ⟨nt h1, decide_eq_true h2, trivial⟩ ?_
        exact hex _ _ _ _ _ _ _ _ e
      · refine xw_y hd0 11 [0, 0] rfl ⟨nt h1, nt h2, trivial⟩ ?_
        obtain ⟨x3, A4, V5, c6, e7, e⟩ := bX_ok e
        refine xw_call (k := 125) (j := 4) rfl (fun F => xm_c_ok (y_c_ok rfl) F) rfl rfl rfl (sX8_mayAtFirst (by omega) e7) ?_
        rintro _ _ ⟨rfl, rfl⟩
        rcases ite_ok e with ⟨h8, e⟩ | ⟨h8, e⟩
        · refine xw_y hd0 3 [1] rfl ⟨decide_eq_true h8, trivial⟩ ?_
          exact ih _ _ _ _ _ e
        · refine xw_y hd0 9 [0] rfl ⟨nt h8, trivial⟩ ?_
          exact ih _ _ _ _ _ e
set_option maxRecDepth 20000 in
set_option maxHeartbeats 4000000 in
theorem sX8_feast {LL : Nat} {xs : Nat → Int32} {tx : List xh_T} {d : Nat} {A V : xM} {cu : Value} {A' V' : xM} {c' : Value} {r : Int32} {l1 l2 : Int32} (hd : 67 ≤ d) (e : fX8_feast tx l1 l2 A V cu = some (r, A', V', c')) : xe (xk_ro LL xs) d 90 [.ref 64, .int l1, .int l2] (xh A V tx cu) (qI r (xh A' V' tx c')) := by
  obtain ⟨d, rfl⟩ : ∃ d1, d = d1 + 1 := ⟨d - 1, by omega⟩
  replace hd : 66 ≤ d := by omega
  have hd0 : 60 ≤ d := by omega
  refine xe_of (co := xk_90) (nl := 5) rfl rfl rfl ?_
  unfold fX8_feast at e
  rcases ite_ok e with ⟨h9, e⟩ | ⟨h9, e⟩
  · cases e
    exact xw_yr hd0 10 [1, 1] rfl ⟨decide_eq_true h9, rfl, rfl, rfl, trivial⟩ ⟨rfl, rfl⟩
  · rcases ite_ok e with ⟨h10, e⟩ | ⟨h10, e⟩
    · cases e
      exact xw_yr hd0 13 [0, 1, 1] rfl ⟨nt h9, decide_eq_true h10, rfl, rfl, rfl, trivial⟩ ⟨rfl, rfl⟩
    · rcases ite_ok e with ⟨h11, e⟩ | ⟨h11, e⟩
      · refine xw_y hd0 37 [0, 0, 0, 0, 1] rfl ⟨nt h9, nt h10, rfl, rfl, rfl, nnt h11, rfl, rfl, trivial⟩ ?_
        refine slX8_feast_L23 hd ?_ FU _ _ _ _ _ e
        · intro l3_12 z13 z14 z15 z16 A17 V18 c19 e
          cases e
          exact xw_yr hd0 3 [] rfl ⟨rfl, trivial⟩ ⟨rfl, rfl⟩
      · cases e
        exact xw_yr hd0 35 [0, 0, 0, 1, 0] rfl ⟨nt h9, nt h10, rfl, rfl, rfl, nt h11, rfl, rfl, rfl, trivial⟩ ⟨rfl, rfl⟩
set_option maxRecDepth 20000 in
set_option maxHeartbeats 4000000 in
theorem slX8_leave_L35 {LL : Nat} {xs : Nat → Int32} {tx : List xh_T} {d : Nat} {A' V' : xM} {c' : Value} {r : Int32} {l1 : Int32} {l2 : Int32} {l3 : Int32} {ex : Int32 → xM → xM → Value → Option (Int32 × xS)} (hd : 66 ≤ d) (hex : ∀ (y4 : Int32) (w0 w1 w2 w3 w5 w6 : Option Value) (A V : xM) (cu : Value), ex y4 A V cu = some (r, A', V', c') → xw (xk_ro LL xs) d xk_91 106 [w0, w1, w2, w3, some (.int y4), w5, w6] [] (xh A V tx cu) (qI r (xh A' V' tx c'))) : ∀ (n : Nat) (l4 : Int32) (l5 : Int32) (z6 : Option Value) (A V : xM) (cu : Value), fX8_leave_L35 tx l1 l2 l3 ex n l4 l5 A V cu = some (r, A', V', c') → xw (xk_ro LL xs) d xk_91 35 [some (.ref 64), some (.int l1), some (.int l2), some (.int l3), some (.int l4), some (.int l5), z6] [] (xh A V tx cu) (qI r (xh A' V' tx c')) := by
  have hd0 : 60 ≤ d := by omega
  intro n
  induction n with
  | zero =>
    intro l4 l5 z6 A V cu e
    rw [fX8_leave_L35] at e
    cases e
  | succ n ih =>
    intro l4 l5 z6 A V cu e
    rw [fX8_leave_L35] at e
    rcases ite_ok e with ⟨h1, e⟩ | ⟨h1, e⟩
    · refine xw_y hd0 3 [1] rfl ⟨decide_eq_true h1, trivial⟩ ?_
      exact hex _ _ _ _ _ _ _ _ _ _ e
    · rcases ite_ok e with ⟨h2, e⟩ | ⟨h2, e⟩
      · rcases ite_ok e with ⟨h3, e⟩ | ⟨h3, e⟩
        · refine xw_y hd0 25 [0, 1, 0, 0] rfl ⟨nt h1, decide_eq_true h2, nnt h3, rfl, trivial⟩ ?_
          obtain ⟨x4, A5, V6, c7, e8, e⟩ := bX_ok e
          refine xw_call (k := 125) (j := 4) rfl (fun F => xm_c_ok (y_c_ok rfl) F) rfl rfl rfl (sX8_mayAtFirst (by omega) e8) ?_
          rintro _ _ ⟨rfl, rfl⟩
          rcases ite_ok e with ⟨h9, e⟩ | ⟨h9, e⟩
          · refine xw_y hd0 3 [1] rfl ⟨decide_eq_true h9, trivial⟩ ?_
            exact ih _ _ _ _ _ _ e
          · refine xw_y hd0 5 [0] rfl ⟨nt h9, trivial⟩ ?_
            exact ih _ _ _ _ _ _ e
        · refine xw_y hd0 17 [0, 1, 1] rfl ⟨nt h1, decide_eq_true h2, nt h3, trivial⟩ ?_
          exact ih _ _ _ _ _ _ e
      · refine xw_y hd0 7 [0, 0] rfl ⟨nt h1, nt h2, trivial⟩ ?_
        obtain ⟨x10, e11, e⟩ := bI_ok e
        refine xw_call (k := 216) (j := 1) rfl (fun F => xm_c_ok (y_c_ok rfl) F) rfl rfl rfl (sJ6_bitCount_0f7a4 (by omega) e11) ?_
        rintro _ _ ⟨rfl, rfl⟩
        refine xw_y hd0 1 [] rfl trivial ?_
        obtain ⟨x12, e13, e⟩ := bI_ok e
        refine xw_call (k := 216) (j := 1) rfl (fun F => xm_c_ok (y_c_ok rfl) F) rfl rfl rfl (sJ6_bitCount_0f7a4 (by omega) e13) ?_
        rintro _ _ ⟨rfl, rfl⟩
        rcases ite_ok e with ⟨h14, e⟩ | ⟨h14, e⟩
        · rcases ite_ok e with ⟨h15, e⟩ | ⟨h15, e⟩
          · refine xw_y hd0 13 [1, 0, 1] rfl ⟨decide_eq_true h14, nnt h15, rfl, trivial⟩ ?_
            exact ih _ _ _ _ _ _ e
          · refine xw_y hd0 11 [1, 1] rfl ⟨decide_eq_true h14, nt h15, trivial⟩ ?_
            exact ih _ _ _ _ _ _ e
        · rcases ite_ok e with ⟨h16, e⟩ | ⟨h16, e⟩
          · refine xw_y hd0 20 [0, 0, 0] rfl ⟨nt h14, nnt h16, rfl, trivial⟩ ?_
            obtain ⟨x17, A18, V19, c20, e21, e⟩ := bX_ok e
            refine xw_call (k := 125) (j := 4) rfl (fun F => xm_c_ok (y_c_ok rfl) F) rfl rfl rfl (sX8_mayAtFirst (by omega) e21) ?_
            rintro _ _ ⟨rfl, rfl⟩
            rcases ite_ok e with ⟨h22, e⟩ | ⟨h22, e⟩
            · refine xw_y hd0 3 [1] rfl ⟨decide_eq_true h22, trivial⟩ ?_
              exact ih _ _ _ _ _ _ e
            · refine xw_y hd0 5 [0] rfl ⟨nt h22, trivial⟩ ?_
              exact ih _ _ _ _ _ _ e
          · refine xw_y hd0 12 [0, 1] rfl ⟨nt h14, nt h16, trivial⟩ ?_
            exact ih _ _ _ _ _ _ e
set_option maxRecDepth 20000 in
set_option maxHeartbeats 4000000 in
theorem sX8_leave {LL : Nat} {xs : Nat → Int32} {tx : List xh_T} {d : Nat} {A V : xM} {cu : Value} {A' V' : xM} {c' : Value} {r : Int32} {l1 l2 l3 : Int32} (hd : 67 ≤ d) (e : fX8_leave tx l1 l2 l3 A V cu = some (r, A', V', c')) : xe (xk_ro LL xs) d 91 [.ref 64, .int l1, .int l2, .int l3] (xh A V tx cu) (qI r (xh A' V' tx c')) := by
  obtain ⟨d, rfl⟩ : ∃ d1, d = d1 + 1 := ⟨d - 1, by omega⟩
  replace hd : 66 ≤ d := by omega
  have hd0 : 60 ≤ d := by omega
  refine xe_of (co := xk_91) (nl := 7) rfl rfl rfl ?_
  unfold fX8_leave at e
  rcases ite_ok e with ⟨h23, e⟩ | ⟨h23, e⟩
  · cases e
    exact xw_yr hd0 11 [1, 0] rfl ⟨decide_eq_true h23, rfl, rfl, rfl, trivial⟩ ⟨rfl, rfl⟩
  · rcases ite_ok e with ⟨h24, e⟩ | ⟨h24, e⟩
    · cases e
      exact xw_yr hd0 15 [0, 1, 0] rfl ⟨nt h23, decide_eq_true h24, rfl, rfl, rfl, trivial⟩ ⟨rfl, rfl⟩
    · rcases ite_ok e with ⟨h25, e⟩ | ⟨h25, e⟩
      · cases e
        exact xw_yr hd0 18 [0, 0, 1, 0] rfl ⟨nt h23, nt h24, decide_eq_true h25, rfl, rfl, rfl, trivial⟩ ⟨rfl, rfl⟩
      · rcases ite_ok e with ⟨h26, e⟩ | ⟨h26, e⟩
        · cases e
          exact xw_yr hd0 26 [0, 0, 0, 1, 1, 1] rfl ⟨nt h23, nt h24, nt h25, rfl, rfl, decide_eq_true h26, rfl, rfl, rfl, trivial⟩ ⟨rfl, rfl⟩
        · rcases ite_ok e with ⟨h27, e⟩ | ⟨h27, e⟩
          · cases e
            exact xw_yr hd0 29 [0, 0, 0, 1, 0, 1, 1] rfl ⟨nt h23, nt h24, nt h25, rfl, rfl, nt h26, decide_eq_true h27, rfl, rfl, rfl, trivial⟩ ⟨rfl, rfl⟩
          · rcases ite_ok e with ⟨h28, e⟩ | ⟨h28, e⟩
            · refine xw_y hd0 53 [0, 0, 0, 1, 0, 0, 0, 0, 1] rfl ⟨nt h23, nt h24, nt h25, rfl, rfl, nt h26, nt h27, rfl, rfl, rfl, nnt h28, rfl, rfl, trivial⟩ ?_
              refine slX8_leave_L35 hd ?_ FU _ _ _ _ _ _ e
              · intro l4_29 z30 z31 z32 z33 z34 z35 A36 V37 c38 e
                cases e
                exact xw_yr hd0 3 [] rfl ⟨rfl, trivial⟩ ⟨rfl, rfl⟩
            · cases e
              exact xw_yr hd0 51 [0, 0, 0, 1, 0, 0, 0, 1, 0] rfl ⟨nt h23, nt h24, nt h25, rfl, rfl, nt h26, nt h27, rfl, rfl, rfl, nt h28, rfl, rfl, rfl, trivial⟩ ⟨rfl, rfl⟩
set_option maxRecDepth 20000 in
set_option maxHeartbeats 4000000 in
theorem slX8_bars_L47 {LL : Nat} {xs : Nat → Int32} {tx : List xh_T} {d : Nat} {A' V' : xM} {c' : Value} {r : Int32} {l1 : Int32} {l2 : Int32} {l3 : Int32} {ex : Int32 → xM → xM → Value → Option (Int32 × xS)} (hd : 66 ≤ d) (hex : ∀ (y4 : Int32) (w0 w1 w2 w3 w5 w6 : Option Value) (A V : xM) (cu : Value), ex y4 A V cu = some (r, A', V', c') → xw (xk_ro LL xs) d xk_92 100 [w0, w1, w2, w3, some (.int y4), w5, w6] [] (xh A V tx cu) (qI r (xh A' V' tx c'))) : ∀ (n : Nat) (l4 : Int32) (l5 : Int32) (z6 : Option Value) (A V : xM) (cu : Value), fX8_bars_L47 tx l1 l2 l3 ex n l4 l5 A V cu = some (r, A', V', c') → xw (xk_ro LL xs) d xk_92 47 [some (.ref 64), some (.int l1), some (.int l2), some (.int l3), some (.int l4), some (.int l5), z6] [] (xh A V tx cu) (qI r (xh A' V' tx c')) := by
  have hd0 : 60 ≤ d := by omega
  intro n
  induction n with
  | zero =>
    intro l4 l5 z6 A V cu e
    rw [fX8_bars_L47] at e
    cases e
  | succ n ih =>
    intro l4 l5 z6 A V cu e
    rw [fX8_bars_L47] at e
    rcases ite_ok e with ⟨h1, e⟩ | ⟨h1, e⟩
    · refine xw_y hd0 5 [1] rfl ⟨decide_eq_true h1, trivial⟩ ?_
      exact hex _ _ _ _ _ _ _ _ _ _ e
    · rcases ite_ok e with ⟨h2, e⟩ | ⟨h2, e⟩
      · refine xw_y hd0 15 [0, 1] rfl ⟨nt h1, decide_eq_true h2, trivial⟩ ?_
        exact ih _ _ _ _ _ _ e
      · refine xw_y hd0 21 [0, 0] rfl ⟨nt h1, nt h2, trivial⟩ ?_
        obtain ⟨x3, A4, V5, c6, e7, e⟩ := bX_ok e
        refine xw_call (k := 125) (j := 4) rfl (fun F => xm_c_ok (y_c_ok rfl) F) rfl rfl rfl (sX8_mayAtFirst (by omega) e7) ?_
        rintro _ _ ⟨rfl, rfl⟩
        rcases ite_ok e with ⟨h8, e⟩ | ⟨h8, e⟩
        · refine xw_y hd0 3 [1] rfl ⟨decide_eq_true h8, trivial⟩ ?_
          exact ih _ _ _ _ _ _ e
        · refine xw_y hd0 7 [0] rfl ⟨nt h8, trivial⟩ ?_
          exact ih _ _ _ _ _ _ e
set_option maxRecDepth 20000 in
set_option maxHeartbeats 4000000 in
theorem sX8_bars {LL : Nat} {xs : Nat → Int32} {tx : List xh_T} {d : Nat} {A V : xM} {cu : Value} {A' V' : xM} {c' : Value} {r : Int32} {l1 l2 l3 : Int32} (hd : 67 ≤ d) (e : fX8_bars tx l1 l2 l3 A V cu = some (r, A', V', c')) : xe (xk_ro LL xs) d 92 [.ref 64, .int l1, .int l2, .int l3] (xh A V tx cu) (qI r (xh A' V' tx c')) := by
  obtain ⟨d, rfl⟩ : ∃ d1, d = d1 + 1 := ⟨d - 1, by omega⟩
  replace hd : 66 ≤ d := by omega
  have hd0 : 60 ≤ d := by omega
  refine xe_of (co := xk_92) (nl := 7) rfl rfl rfl ?_
  unfold fX8_bars at e
  rcases ite_ok e with ⟨h9, e⟩ | ⟨h9, e⟩
  · cases e
    exact xw_yr hd0 11 [1, 0] rfl ⟨decide_eq_true h9, rfl, rfl, rfl, trivial⟩ ⟨rfl, rfl⟩
  · rcases ite_ok e with ⟨h10, e⟩ | ⟨h10, e⟩
    · cases e
      exact xw_yr hd0 15 [0, 1, 0] rfl ⟨nt h9, decide_eq_true h10, rfl, rfl, rfl, trivial⟩ ⟨rfl, rfl⟩
    · rcases ite_ok e with ⟨h11, e⟩ | ⟨h11, e⟩
      · cases e
        exact xw_yr hd0 18 [0, 0, 1, 0] rfl ⟨nt h9, nt h10, decide_eq_true h11, rfl, rfl, rfl, trivial⟩ ⟨rfl, rfl⟩
      · rcases ite_ok e with ⟨h12, e⟩ | ⟨h12, e⟩
        · cases e
          exact xw_yr hd0 26 [0, 0, 0, 1, 1, 1] rfl ⟨nt h9, nt h10, nt h11, rfl, rfl, decide_eq_true h12, rfl, rfl, rfl, trivial⟩ ⟨rfl, rfl⟩
        · rcases ite_ok e with ⟨h13, e⟩ | ⟨h13, e⟩
          · cases e
            exact xw_yr hd0 29 [0, 0, 0, 1, 0, 1, 1] rfl ⟨nt h9, nt h10, nt h11, rfl, rfl, nt h12, decide_eq_true h13, rfl, rfl, rfl, trivial⟩ ⟨rfl, rfl⟩
          · rcases ite_ok e with ⟨h14, e⟩ | ⟨h14, e⟩
            · refine xw_y hd0 53 [0, 0, 0, 1, 0, 0, 0, 0, 1] rfl ⟨nt h9, nt h10, nt h11, rfl, rfl, nt h12, nt h13, rfl, rfl, rfl, nnt h14, rfl, rfl, trivial⟩ ?_
              obtain ⟨x15, A16, V17, c18, e19, e⟩ := bX_ok e
              refine xw_call (k := 125) (j := 4) rfl (fun F => xm_c_ok (y_c_ok rfl) F) rfl rfl rfl (sX8_mayAtFirst (by omega) e19) ?_
              rintro _ _ ⟨rfl, rfl⟩
              rcases ite_ok e with ⟨h20, e⟩ | ⟨h20, e⟩
              · refine xw_y hd0 5 [1] rfl ⟨decide_eq_true h20, trivial⟩ ?_
                refine slX8_bars_L47 hd ?_ FU _ _ _ _ _ _ e
                · intro l4_21 z22 z23 z24 z25 z26 z27 A28 V29 c30 e
                  cases e
                  exact xw_yr hd0 3 [] rfl ⟨rfl, trivial⟩ ⟨rfl, rfl⟩
              · cases e
                exact xw_yr hd0 4 [0] rfl ⟨nt h20, rfl, trivial⟩ ⟨rfl, rfl⟩
            · cases e
              exact xw_yr hd0 51 [0, 0, 0, 1, 0, 0, 0, 1, 0] rfl ⟨nt h9, nt h10, nt h11, rfl, rfl, nt h12, nt h13, rfl, rfl, rfl, nt h14, rfl, rfl, rfl, trivial⟩ ⟨rfl, rfl⟩
set_option maxRecDepth 20000 in
set_option maxHeartbeats 4000000 in
theorem slX8_isOverFor_L3 {LL : Nat} {xs : Nat → Int32} {tx : List xh_T} {d : Nat} {A' V' : xM} {c' : Value} {r : Int32} {l1 : Int32} {l2 : Int32} {l3 : Int32} {ex : xM → xM → Value → Option (Int32 × xS)} (hd : 66 ≤ d) (hex : ∀ (w0 w1 w2 w3 w4 w5 : Option Value) (A V : xM) (cu : Value), ex  A V cu = some (r, A', V', c') → xw (xk_ro LL xs) d xk_126 69 [w0, w1, w2, w3, w4, w5] [] (xh A V tx cu) (qI r (xh A' V' tx c'))) : ∀ (n : Nat) (l4 : Int32) (z5 : Option Value) (A V : xM) (cu : Value), fX8_isOverFor_L3 tx l1 l2 l3 ex n l4 A V cu = some (r, A', V', c') → xw (xk_ro LL xs) d xk_126 3 [some (.ref 64), some (.int l1), some (.int l2), some (.int l3), some (.int l4), z5] [] (xh A V tx cu) (qI r (xh A' V' tx c')) := by
  have hd0 : 60 ≤ d := by omega
  intro n
  induction n with
  | zero =>
    intro l4 z5 A V cu e
    rw [fX8_isOverFor_L3] at e
    cases e
  | succ n ih =>
    intro l4 z5 A V cu e
    rw [fX8_isOverFor_L3] at e
    rcases ite_ok e with ⟨h1, e⟩ | ⟨h1, e⟩
    · refine xw_y hd0 12 [1] rfl ⟨rfl, decide_eq_true h1, trivial⟩ ?_
      exact hex _ _ _ _ _ _ _ _ _ e
    · rcases ite_ok e with ⟨h2, e⟩ | ⟨h2, e⟩
      · refine xw_y hd0 24 [0, 1, 1] rfl ⟨rfl, nt h1, decide_eq_true h2, rfl, trivial⟩ ?_
        exact ih _ _ _ _ _ e
      · refine xw_y hd0 24 [0, 0, 0] rfl ⟨rfl, nt h1, nt h2, rfl, trivial⟩ ?_
        obtain ⟨x3, e4, e⟩ := bI_ok e
        refine xw_call (k := 216) (j := 1) rfl (fun F => xm_c_ok (y_c_ok rfl) F) rfl rfl rfl (sJ6_bitCount_0f7a4 (by omega) e4) ?_
        rintro _ _ ⟨rfl, rfl⟩
        obtain ⟨h5, e⟩ := bC_ok e
        rcases ite_ok e with ⟨h6, e⟩ | ⟨h6, e⟩
        · refine xw_y hd0 7 [1] rfl ⟨h5, decide_eq_true h6, trivial⟩ ?_
          exact ih _ _ _ _ _ e
        · refine xw_y hd0 9 [0] rfl ⟨h5, nt h6, trivial⟩ ?_
          obtain ⟨x7, A8, V9, c10, e11, e⟩ := bX_ok e
          refine xw_call (k := 125) (j := 4) rfl (fun F => xm_c_ok (y_c_ok rfl) F) rfl rfl rfl (sX8_mayAtFirst (by omega) e11) ?_
          rintro _ _ ⟨rfl, rfl⟩
          rcases ite_ok e with ⟨h12, e⟩ | ⟨h12, e⟩
          · refine xw_y hd0 3 [1] rfl ⟨decide_eq_true h12, trivial⟩ ?_
            exact ih _ _ _ _ _ e
          · cases e
            exact xw_yr hd0 4 [0] rfl ⟨nt h12, rfl, trivial⟩ ⟨rfl, rfl⟩
set_option maxRecDepth 20000 in
set_option maxHeartbeats 4000000 in
theorem sX8_isOverFor {LL : Nat} {xs : Nat → Int32} {tx : List xh_T} {d : Nat} {A V : xM} {cu : Value} {A' V' : xM} {c' : Value} {r : Int32} {l1 l2 l3 : Int32} (hd : 67 ≤ d) (e : fX8_isOverFor tx l1 l2 l3 A V cu = some (r, A', V', c')) : xe (xk_ro LL xs) d 126 [.ref 64, .int l1, .int l2, .int l3] (xh A V tx cu) (qI r (xh A' V' tx c')) := by
  obtain ⟨d, rfl⟩ : ∃ d1, d = d1 + 1 := ⟨d - 1, by omega⟩
  replace hd : 66 ≤ d := by omega
  have hd0 : 60 ≤ d := by omega
  refine xe_of (co := xk_126) (nl := 6) rfl rfl rfl ?_
  unfold fX8_isOverFor at e
  refine xw_y hd0 2 [] rfl trivial ?_
  refine slX8_isOverFor_L3 hd ?_ FU _ _ _ _ _ e
  · intro z13 z14 z15 z16 z17 z18 A19 V20 c21 e
    cases e
    exact xw_yr hd0 3 [] rfl ⟨rfl, trivial⟩ ⟨rfl, rfl⟩
set_option maxRecDepth 20000 in
set_option maxHeartbeats 4000000 in
theorem slX8_ends_L26 {LL : Nat} {xs : Nat → Int32} {tx : List xh_T} {d : Nat} {A' V' : xM} {c' : Value} {r : Int32} {l1 : Int32} {l2 : Int32} {ex : Int32 → xM → xM → Value → Option (Int32 × xS)} (hd : 67 ≤ d) (hex : ∀ (y3 : Int32) (w0 w1 w2 w4 : Option Value) (A V : xM) (cu : Value), ex y3 A V cu = some (r, A', V', c') → xw (xk_ro LL xs) d xk_93 66 [w0, w1, w2, some (.int y3), w4] [] (xh A V tx cu) (qI r (xh A' V' tx c'))) : ∀ (n : Nat) (l3 : Int32) (l4 : Int32) (A V : xM) (cu : Value), fX8_ends_L26 tx l1 l2 ex n l3 l4 A V cu = some (r, A', V', c') → xw (xk_ro LL xs) d xk_93 26 [some (.ref 64), some (.int l1), some (.int l2), some (.int l3), some (.int l4)] [] (xh A V tx cu) (qI r (xh A' V' tx c')) := by
  have hd0 : 60 ≤ d := by omega
  intro n
  induction n with
  | zero =>
    intro l3 l4 A V cu e
    rw [fX8_ends_L26] at e
    cases e
  | succ n ih =>
    intro l3 l4 A V cu e
    rw [fX8_ends_L26] at e
    rcases ite_ok e with ⟨h1, e⟩ | ⟨h1, e⟩
    · refine xw_y hd0 4 [1] rfl ⟨decide_eq_true h1, trivial⟩ ?_
      exact hex _ _ _ _ _ _ _ _ e
    · rcases ite_ok e with ⟨h2, e⟩ | ⟨h2, e⟩
      · refine xw_y hd0 7 [0, 1] rfl ⟨nt h1, decide_eq_true h2, trivial⟩ ?_
        exact hex _ _ _ _ _ _ _ _ e
      · refine xw_y hd0 11 [0, 0] rfl ⟨nt h1, nt h2, trivial⟩ ?_
        obtain ⟨x3, A4, V5, c6, e7, e⟩ := bX_ok e
        refine xw_call (k := 126) (j := 4) rfl (fun F => xm_c_ok (y_c_ok rfl) F) rfl rfl rfl (sX8_isOverFor (by omega) e7) ?_
        rintro _ _ ⟨rfl, rfl⟩
        rcases ite_ok e with ⟨h8, e⟩ | ⟨h8, e⟩
        · refine xw_y hd0 3 [1] rfl ⟨decide_eq_true h8, trivial⟩ ?_
          exact ih _ _ _ _ _ e
        · refine xw_y hd0 9 [0] rfl ⟨nt h8, trivial⟩ ?_
          exact ih _ _ _ _ _ e
set_option maxRecDepth 20000 in
set_option maxHeartbeats 4000000 in
theorem sX8_ends {LL : Nat} {xs : Nat → Int32} {tx : List xh_T} {d : Nat} {A V : xM} {cu : Value} {A' V' : xM} {c' : Value} {r : Int32} {l1 l2 : Int32} (hd : 68 ≤ d) (e : fX8_ends tx l1 l2 A V cu = some (r, A', V', c')) : xe (xk_ro LL xs) d 93 [.ref 64, .int l1, .int l2] (xh A V tx cu) (qI r (xh A' V' tx c')) := by
  obtain ⟨d, rfl⟩ : ∃ d1, d = d1 + 1 := ⟨d - 1, by omega⟩
  replace hd : 67 ≤ d := by omega
  have hd0 : 60 ≤ d := by omega
  refine xe_of (co := xk_93) (nl := 5) rfl rfl rfl ?_
  unfold fX8_ends at e
  rcases ite_ok e with ⟨h9, e⟩ | ⟨h9, e⟩
  · cases e
    exact xw_yr hd0 11 [1, 0] rfl ⟨decide_eq_true h9, rfl, rfl, rfl, trivial⟩ ⟨rfl, rfl⟩
  · rcases ite_ok e with ⟨h10, e⟩ | ⟨h10, e⟩
    · cases e
      exact xw_yr hd0 16 [0, 1, 0] rfl ⟨nt h9, decide_eq_true h10, rfl, rfl, rfl, trivial⟩ ⟨rfl, rfl⟩
    · rcases ite_ok e with ⟨h11, e⟩ | ⟨h11, e⟩
      · cases e
        exact xw_yr hd0 19 [0, 0, 1, 0] rfl ⟨nt h9, nt h10, decide_eq_true h11, rfl, rfl, rfl, trivial⟩ ⟨rfl, rfl⟩
      · rcases ite_ok e with ⟨h12, e⟩ | ⟨h12, e⟩
        · cases e
          exact xw_yr hd0 27 [0, 0, 0, 1, 1, 0] rfl ⟨nt h9, nt h10, nt h11, rfl, rfl, decide_eq_true h12, rfl, rfl, rfl, trivial⟩ ⟨rfl, rfl⟩
        · rcases ite_ok e with ⟨h13, e⟩ | ⟨h13, e⟩
          · cases e
            exact xw_yr hd0 30 [0, 0, 0, 1, 0, 1, 0] rfl ⟨nt h9, nt h10, nt h11, rfl, rfl, nt h12, decide_eq_true h13, rfl, rfl, rfl, trivial⟩ ⟨rfl, rfl⟩
          · refine xw_y hd0 32 [0, 0, 0, 1, 0, 0, 1] rfl ⟨nt h9, nt h10, nt h11, rfl, rfl, nt h12, nt h13, rfl, rfl, trivial⟩ ?_
            refine slX8_ends_L26 hd ?_ FU _ _ _ _ _ e
            · intro l3_14 z15 z16 z17 z18 A19 V20 c21 e
              cases e
              exact xw_yr hd0 3 [] rfl ⟨rfl, trivial⟩ ⟨rfl, rfl⟩
set_option maxRecDepth 20000 in
set_option maxHeartbeats 4000000 in
theorem sX8_least {LL : Nat} {xs : Nat → Int32} {tx : List xh_T} {d : Nat} {A V : xM} {cu : Value} {A' V' : xM} {c' : Value} {r : Int32} {l1 l2 l3 l4 l5 : Int32} (hd : 69 ≤ d) (e : fX8_least tx l1 l2 l3 l4 l5 A V cu = some (r, A', V', c')) : xe (xk_ro LL xs) d 94 [.ref 64, .int l1, .int l2, .int l3, .int l4, .int l5] (xh A V tx cu) (qI r (xh A' V' tx c')) := by
  obtain ⟨d, rfl⟩ : ∃ d1, d = d1 + 1 := ⟨d - 1, by omega⟩
  replace hd : 68 ≤ d := by omega
  have hd0 : 60 ≤ d := by omega
  refine xe_of (co := xk_94) (nl := 6) rfl rfl rfl ?_
  unfold fX8_least at e
  rcases ite_ok e with ⟨h1, e⟩ | ⟨h1, e⟩
  · cases e
    exact xw_yr hd0 11 [1, 1] rfl ⟨decide_eq_true h1, rfl, rfl, rfl, trivial⟩ ⟨rfl, rfl⟩
  · rcases ite_ok e with ⟨h2, e⟩ | ⟨h2, e⟩
    · cases e
      exact xw_yr hd0 15 [0, 1, 1] rfl ⟨nt h1, decide_eq_true h2, rfl, rfl, rfl, trivial⟩ ⟨rfl, rfl⟩
    · rcases ite_ok e with ⟨h3, e⟩ | ⟨h3, e⟩
      · cases e
        exact xw_yr hd0 18 [0, 0, 1, 1] rfl ⟨nt h1, nt h2, decide_eq_true h3, rfl, rfl, rfl, trivial⟩ ⟨rfl, rfl⟩
      · rcases ite_ok e with ⟨h4, e⟩ | ⟨h4, e⟩
        · cases e
          exact xw_yr hd0 26 [0, 0, 0, 0, 1, 1] rfl ⟨nt h1, nt h2, nt h3, rfl, rfl, decide_eq_true h4, rfl, rfl, rfl, trivial⟩ ⟨rfl, rfl⟩
        · rcases ite_ok e with ⟨h5, e⟩ | ⟨h5, e⟩
          · cases e
            exact xw_yr hd0 29 [0, 0, 0, 0, 0, 1, 1] rfl ⟨nt h1, nt h2, nt h3, rfl, rfl, nt h4, decide_eq_true h5, rfl, rfl, rfl, trivial⟩ ⟨rfl, rfl⟩
          · rcases ite_ok e with ⟨h6, e⟩ | ⟨h6, e⟩
            · rcases ite_ok e with ⟨h7, e⟩ | ⟨h7, e⟩
              · rcases ite_ok e with ⟨h8, e⟩ | ⟨h8, e⟩
                · refine xw_y hd0 76 [0, 0, 0, 0, 0, 0, 0, 0, 0, 0, 1, 1] rfl ⟨nt h1, nt h2, nt h3, rfl, rfl, nt h4, nt h5, rfl, rfl, rfl, nnt h6, rfl, rfl, rfl, nnt h7, rfl, rfl, decide_eq_true h8, trivial⟩ ?_
                  obtain ⟨h10, e⟩ := bC_ok e
                  refine xw_call (k := 119) (j := 1) rfl (fun F => xm_c_ok (y_c_ok rfl) F) rfl rfl rfl (sX8_lawText (by omega) h10) ?_
                  rintro _ _ ⟨rfl, rfl⟩
                  obtain ⟨h11, e⟩ := bC_ok e
                  refine xw_y hd0 6 [] rfl ⟨h11, trivial⟩ ?_
                  obtain ⟨A13, V14, c15, e16, e⟩ := bS_ok e
                  refine xw_call (k := 19) (j := 5) rfl (fun F => xm_c_ok (y_c_ok rfl) F) rfl rfl rfl (sX3_prepare (by omega) e16) ?_
                  rintro _ _ ⟨rfl, rfl⟩
                  refine xw_y hd0 5 [] rfl trivial ?_
                  obtain ⟨x17, A18, V19, c20, e21, e⟩ := bX_ok e
                  refine xw_call (k := 20) (j := 4) rfl (fun F => xm_c_ok (y_c_ok rfl) F) rfl rfl rfl (sX3_seek (by omega) e21) ?_
                  rintro _ _ ⟨rfl, rfl⟩
                  cases e
                  exact xw_yr hd0 9 [0] rfl ⟨nnt h8, rfl, trivial⟩ ⟨rfl, rfl⟩
                · rcases ite_ok e with ⟨h22, e⟩ | ⟨h22, e⟩
                  · refine xw_y hd0 79 [0, 0, 0, 0, 0, 0, 0, 0, 0, 0, 1, 0, 1] rfl ⟨nt h1, nt h2, nt h3, rfl, rfl, nt h4, nt h5, rfl, rfl, rfl, nnt h6, rfl, rfl, rfl, nnt h7, rfl, rfl, nt h8, decide_eq_true h22, trivial⟩ ?_
                    obtain ⟨h24, e⟩ := bC_ok e
                    refine xw_call (k := 119) (j := 1) rfl (fun F => xm_c_ok (y_c_ok rfl) F) rfl rfl rfl (sX8_lawText (by omega) h24) ?_
                    rintro _ _ ⟨rfl, rfl⟩
                    obtain ⟨h25, e⟩ := bC_ok e
                    refine xw_y hd0 6 [] rfl ⟨h25, trivial⟩ ?_
                    obtain ⟨A27, V28, c29, e30, e⟩ := bS_ok e
                    refine xw_call (k := 19) (j := 5) rfl (fun F => xm_c_ok (y_c_ok rfl) F) rfl rfl rfl (sX3_prepare (by omega) e30) ?_
                    rintro _ _ ⟨rfl, rfl⟩
                    refine xw_y hd0 5 [] rfl trivial ?_
                    obtain ⟨x31, A32, V33, c34, e35, e⟩ := bX_ok e
                    refine xw_call (k := 20) (j := 4) rfl (fun F => xm_c_ok (y_c_ok rfl) F) rfl rfl rfl (sX3_seek (by omega) e35) ?_
                    rintro _ _ ⟨rfl, rfl⟩
                    cases e
                    exact xw_yr hd0 8 [1] rfl ⟨nt h8, rfl, trivial⟩ ⟨rfl, rfl⟩
                  · cases e
                    exact xw_yr hd0 79 [0, 0, 0, 0, 0, 0, 0, 0, 0, 0, 1, 0, 0] rfl ⟨nt h1, nt h2, nt h3, rfl, rfl, nt h4, nt h5, rfl, rfl, rfl, nnt h6, rfl, rfl, rfl, nnt h7, rfl, rfl, nt h8, nt h22, rfl, trivial⟩ ⟨rfl, rfl⟩
              · cases e
                exact xw_yr hd0 73 [0, 0, 0, 0, 0, 0, 0, 0, 0, 1, 0] rfl ⟨nt h1, nt h2, nt h3, rfl, rfl, nt h4, nt h5, rfl, rfl, rfl, nnt h6, rfl, rfl, rfl, nt h7, rfl, rfl, rfl, trivial⟩ ⟨rfl, rfl⟩
            · cases e
              exact xw_yr hd0 51 [0, 0, 0, 0, 0, 0, 0, 1, 1] rfl ⟨nt h1, nt h2, nt h3, rfl, rfl, nt h4, nt h5, rfl, rfl, rfl, nt h6, rfl, rfl, rfl, trivial⟩ ⟨rfl, rfl⟩
set_option maxRecDepth 20000 in
set_option maxHeartbeats 4000000 in
theorem slX8_why_L77 {LL : Nat} {xs : Nat → Int32} {tx : List xh_T} {d : Nat} {A' V' : xM} {c' : Value} {r : Int32} {l3 : Int32} {l4 : Int32} {ex : Int32 → xM → xM → Value → Option (Int32 × xS)} (hd : 68 ≤ d) (hex : ∀ (y5 : Int32) (w0 w1 w2 w3 w4 w6 w7 : Option Value) (A V : xM) (cu : Value), ex y5 A V cu = some (r, A', V', c') → xw (xk_ro LL xs) d xk_95 129 [w0, w1, w2, w3, w4, some (.int y5), w6, w7] [] (xh A V tx cu) (qI r (xh A' V' tx c'))) : ∀ (n : Nat) (l5 : Int32) (l6 : Int32) (z1 z2 z7 : Option Value) (A V : xM) (cu : Value), fX8_why_L77 tx l3 l4 ex n l5 l6 A V cu = some (r, A', V', c') → xw (xk_ro LL xs) d xk_95 77 [some (.ref 64), z1, z2, some (.int l3), some (.int l4), some (.int l5), some (.int l6), z7] [] (xh A V tx cu) (qI r (xh A' V' tx c')) := by
  have hd0 : 60 ≤ d := by omega
  intro n
  induction n with
  | zero =>
    intro l5 l6 z1 z2 z7 A V cu e
    rw [fX8_why_L77] at e
    cases e
  | succ n ih =>
    intro l5 l6 z1 z2 z7 A V cu e
    rw [fX8_why_L77] at e
    rcases ite_ok e with ⟨h1, e⟩ | ⟨h1, e⟩
    · refine xw_y hd0 5 [1] rfl ⟨decide_eq_true h1, trivial⟩ ?_
      exact hex _ _ _ _ _ _ _ _ _ _ _ e
    · refine xw_y hd0 18 [0] rfl ⟨nt h1, trivial⟩ ?_
      obtain ⟨x2, A3, V4, c5, e6, e⟩ := bX_ok e
      refine xw_call (k := 20) (j := 4) rfl (fun F => xm_c_ok (y_c_ok rfl) F) rfl rfl rfl (sX3_seek (by omega) e6) ?_
      rintro _ _ ⟨rfl, rfl⟩
      rcases ite_ok e with ⟨h7, e⟩ | ⟨h7, e⟩
      · refine xw_y hd0 4 [1] rfl ⟨decide_eq_true h7, trivial⟩ ?_
        exact ih _ _ _ _ _ _ _ _ e
      · refine xw_y hd0 8 [0] rfl ⟨nt h7, trivial⟩ ?_
        exact ih _ _ _ _ _ _ _ _ e
set_option maxRecDepth 20000 in
set_option maxHeartbeats 4000000 in
theorem sX8_why {LL : Nat} {xs : Nat → Int32} {tx : List xh_T} {d : Nat} {A V : xM} {cu : Value} {A' V' : xM} {c' : Value} {r : Int32} {l1 l2 l3 l4 : Int32} (hd : 69 ≤ d) (e : fX8_why tx l1 l2 l3 l4 A V cu = some (r, A', V', c')) : xe (xk_ro LL xs) d 95 [.ref 64, .int l1, .int l2, .int l3, .int l4] (xh A V tx cu) (qI r (xh A' V' tx c')) := by
  obtain ⟨d, rfl⟩ : ∃ d1, d = d1 + 1 := ⟨d - 1, by omega⟩
  replace hd : 68 ≤ d := by omega
  have hd0 : 60 ≤ d := by omega
  refine xe_of (co := xk_95) (nl := 8) rfl rfl rfl ?_
  unfold fX8_why at e
  rcases ite_ok e with ⟨h8, e⟩ | ⟨h8, e⟩
  · cases e
    exact xw_yr hd0 11 [1, 1] rfl ⟨decide_eq_true h8, rfl, rfl, rfl, trivial⟩ ⟨rfl, rfl⟩
  · rcases ite_ok e with ⟨h9, e⟩ | ⟨h9, e⟩
    · cases e
      exact xw_yr hd0 15 [0, 1, 1] rfl ⟨nt h8, decide_eq_true h9, rfl, rfl, rfl, trivial⟩ ⟨rfl, rfl⟩
    · rcases ite_ok e with ⟨h10, e⟩ | ⟨h10, e⟩
      · cases e
        exact xw_yr hd0 18 [0, 0, 1, 1] rfl ⟨nt h8, nt h9, decide_eq_true h10, rfl, rfl, rfl, trivial⟩ ⟨rfl, rfl⟩
      · rcases ite_ok e with ⟨h11, e⟩ | ⟨h11, e⟩
        · cases e
          exact xw_yr hd0 26 [0, 0, 0, 0, 1, 1] rfl ⟨nt h8, nt h9, nt h10, rfl, rfl, decide_eq_true h11, rfl, rfl, rfl, trivial⟩ ⟨rfl, rfl⟩
        · rcases ite_ok e with ⟨h12, e⟩ | ⟨h12, e⟩
          · cases e
            exact xw_yr hd0 29 [0, 0, 0, 0, 0, 1, 1] rfl ⟨nt h8, nt h9, nt h10, rfl, rfl, nt h11, decide_eq_true h12, rfl, rfl, rfl, trivial⟩ ⟨rfl, rfl⟩
          · rcases ite_ok e with ⟨h13, e⟩ | ⟨h13, e⟩
            · rcases ite_ok e with ⟨h14, e⟩ | ⟨h14, e⟩
              · refine xw_y hd0 74 [0, 0, 0, 0, 0, 0, 0, 0, 0, 0, 1] rfl ⟨nt h8, nt h9, nt h10, rfl, rfl, nt h11, nt h12, rfl, rfl, rfl, nnt h13, rfl, rfl, rfl, nnt h14, rfl, rfl, trivial⟩ ?_
                obtain ⟨h16, e⟩ := bC_ok e
                refine xw_call (k := 119) (j := 1) rfl (fun F => xm_c_ok (y_c_ok rfl) F) rfl rfl rfl (sX8_lawText (by omega) h16) ?_
                rintro _ _ ⟨rfl, rfl⟩
                obtain ⟨h17, e⟩ := bC_ok e
                refine xw_y hd0 6 [] rfl ⟨h17, trivial⟩ ?_
                obtain ⟨A19, V20, c21, e22, e⟩ := bS_ok e
                refine xw_call (k := 19) (j := 5) rfl (fun F => xm_c_ok (y_c_ok rfl) F) rfl rfl rfl (sX3_prepare (by omega) e22) ?_
                rintro _ _ ⟨rfl, rfl⟩
                refine xw_y hd0 5 [] rfl trivial ?_
                obtain ⟨x23, A24, V25, c26, e27, e⟩ := bX_ok e
                refine xw_call (k := 20) (j := 4) rfl (fun F => xm_c_ok (y_c_ok rfl) F) rfl rfl rfl (sX3_seek (by omega) e27) ?_
                rintro _ _ ⟨rfl, rfl⟩
                rcases ite_ok e with ⟨h28, e⟩ | ⟨h28, e⟩
                · refine xw_y hd0 6 [1] rfl ⟨decide_eq_true h28, trivial⟩ ?_
                  refine slX8_why_L77 hd ?_ FU _ _ _ _ _ _ _ _ e
                  · intro l5_29 z30 z31 z32 z33 z34 z35 z36 A37 V38 c39 e
                    cases e
                    exact xw_yr hd0 3 [] rfl ⟨rfl, trivial⟩ ⟨rfl, rfl⟩
                · cases e
                  exact xw_yr hd0 5 [0] rfl ⟨nt h28, rfl, trivial⟩ ⟨rfl, rfl⟩
              · cases e
                exact xw_yr hd0 73 [0, 0, 0, 0, 0, 0, 0, 0, 0, 1, 0] rfl ⟨nt h8, nt h9, nt h10, rfl, rfl, nt h11, nt h12, rfl, rfl, rfl, nnt h13, rfl, rfl, rfl, nt h14, rfl, rfl, rfl, trivial⟩ ⟨rfl, rfl⟩
            · cases e
              exact xw_yr hd0 51 [0, 0, 0, 0, 0, 0, 0, 1, 1] rfl ⟨nt h8, nt h9, nt h10, rfl, rfl, nt h11, nt h12, rfl, rfl, rfl, nt h13, rfl, rfl, rfl, trivial⟩ ⟨rfl, rfl⟩
set_option maxRecDepth 20000 in
set_option maxHeartbeats 4000000 in
theorem slX8_place_L36 {LL : Nat} {xs : Nat → Int32} {tx : List xh_T} {d : Nat} {A' V' : xM} {c' : Value} {r : Int32} {l1 : Int32} {l2 : Int32} {l3 : Int32} {ex : Int32 → xM → xM → Value → Option (Int32 × xS)} (hd : 68 ≤ d) (hex : ∀ (y4 : Int32) (w0 w1 w2 w3 w5 w6 w7 : Option Value) (A V : xM) (cu : Value), ex y4 A V cu = some (r, A', V', c') → xw (xk_ro LL xs) d xk_96 108 [w0, w1, w2, w3, some (.int y4), w5, w6, w7] [] (xh A V tx cu) (qI r (xh A' V' tx c'))) : ∀ (n : Nat) (l4 : Int32) (l5 : Int32) (l6 : Int32) (z7 : Option Value) (A V : xM) (cu : Value), fX8_place_L36 tx l1 l2 l3 ex n l4 l5 l6 A V cu = some (r, A', V', c') → xw (xk_ro LL xs) d xk_96 36 [some (.ref 64), some (.int l1), some (.int l2), some (.int l3), some (.int l4), some (.int l5), some (.int l6), z7] [] (xh A V tx cu) (qI r (xh A' V' tx c')) := by
  have hd0 : 60 ≤ d := by omega
  intro n
  induction n with
  | zero =>
    intro l4 l5 l6 z7 A V cu e
    rw [fX8_place_L36] at e
    cases e
  | succ n ih =>
    intro l4 l5 l6 z7 A V cu e
    rw [fX8_place_L36] at e
    rcases ite_ok e with ⟨h1, e⟩ | ⟨h1, e⟩
    · refine xw_y hd0 3 [1] rfl ⟨decide_eq_true h1, trivial⟩ ?_
      exact hex _ _ _ _ _ _ _ _ _ _ _ e
    · refine xw_y hd0 6 [0] rfl ⟨nt h1, trivial⟩ ?_
      obtain ⟨h3, e⟩ := bC_ok e
      refine xw_call (k := 119) (j := 1) rfl (fun F => xm_c_ok (y_c_ok rfl) F) rfl rfl rfl (sX8_lawText (by omega) h3) ?_
      rintro _ _ ⟨rfl, rfl⟩
      obtain ⟨h4, e⟩ := bC_ok e
      refine xw_y hd0 6 [] rfl ⟨h4, trivial⟩ ?_
      obtain ⟨A6, V7, c8, e9, e⟩ := bS_ok e
      refine xw_call (k := 19) (j := 5) rfl (fun F => xm_c_ok (y_c_ok rfl) F) rfl rfl rfl (sX3_prepare (by omega) e9) ?_
      rintro _ _ ⟨rfl, rfl⟩
      refine xw_y hd0 5 [] rfl trivial ?_
      obtain ⟨x10, A11, V12, c13, e14, e⟩ := bX_ok e
      refine xw_call (k := 20) (j := 4) rfl (fun F => xm_c_ok (y_c_ok rfl) F) rfl rfl rfl (sX3_seek (by omega) e14) ?_
      rintro _ _ ⟨rfl, rfl⟩
      rcases ite_ok e with ⟨h15, e⟩ | ⟨h15, e⟩
      · refine xw_y hd0 6 [1] rfl ⟨decide_eq_true h15, trivial⟩ ?_
        exact ih _ _ _ _ _ _ _ e
      · rcases ite_ok e with ⟨h16, e⟩ | ⟨h16, e⟩
        · refine xw_y hd0 13 [0, 1] rfl ⟨nt h15, decide_eq_true h16, trivial⟩ ?_
          exact ih _ _ _ _ _ _ _ e
        · rcases ite_ok e with ⟨h17, e⟩ | ⟨h17, e⟩
          · refine xw_y hd0 12 [0, 0, 1] rfl ⟨nt h15, nt h16, decide_eq_true h17, trivial⟩ ?_
            exact ih _ _ _ _ _ _ _ e
          · refine xw_y hd0 16 [0, 0, 0] rfl ⟨nt h15, nt h16, nt h17, trivial⟩ ?_
            exact ih _ _ _ _ _ _ _ e
set_option maxRecDepth 20000 in
set_option maxHeartbeats 4000000 in
theorem sX8_place {LL : Nat} {xs : Nat → Int32} {tx : List xh_T} {d : Nat} {A V : xM} {cu : Value} {A' V' : xM} {c' : Value} {r : Int32} {l1 l2 l3 : Int32} (hd : 69 ≤ d) (e : fX8_place tx l1 l2 l3 A V cu = some (r, A', V', c')) : xe (xk_ro LL xs) d 96 [.ref 64, .int l1, .int l2, .int l3] (xh A V tx cu) (qI r (xh A' V' tx c')) := by
  obtain ⟨d, rfl⟩ : ∃ d1, d = d1 + 1 := ⟨d - 1, by omega⟩
  replace hd : 68 ≤ d := by omega
  have hd0 : 60 ≤ d := by omega
  refine xe_of (co := xk_96) (nl := 8) rfl rfl rfl ?_
  unfold fX8_place at e
  rcases ite_ok e with ⟨h18, e⟩ | ⟨h18, e⟩
  · cases e
    exact xw_yr hd0 11 [1, 1] rfl ⟨decide_eq_true h18, rfl, rfl, rfl, trivial⟩ ⟨rfl, rfl⟩
  · rcases ite_ok e with ⟨h19, e⟩ | ⟨h19, e⟩
    · cases e
      exact xw_yr hd0 15 [0, 1, 1] rfl ⟨nt h18, decide_eq_true h19, rfl, rfl, rfl, trivial⟩ ⟨rfl, rfl⟩
    · rcases ite_ok e with ⟨h20, e⟩ | ⟨h20, e⟩
      · cases e
        exact xw_yr hd0 18 [0, 0, 1, 1] rfl ⟨nt h18, nt h19, decide_eq_true h20, rfl, rfl, rfl, trivial⟩ ⟨rfl, rfl⟩
      · rcases ite_ok e with ⟨h21, e⟩ | ⟨h21, e⟩
        · rcases ite_ok e with ⟨h22, e⟩ | ⟨h22, e⟩
          · refine xw_y hd0 66 [0, 0, 0, 0, 0, 0, 0, 1] rfl ⟨nt h18, nt h19, nt h20, rfl, rfl, rfl, nnt h21, rfl, rfl, rfl, nnt h22, rfl, rfl, trivial⟩ ?_
            refine slX8_place_L36 hd ?_ FU _ _ _ _ _ _ _ e
            · intro l4_23 z24 z25 z26 z27 z28 z29 z30 A31 V32 c33 e
              cases e
              exact xw_yr hd0 3 [] rfl ⟨rfl, trivial⟩ ⟨rfl, rfl⟩
          · cases e
            exact xw_yr hd0 62 [0, 0, 0, 0, 0, 0, 1, 0] rfl ⟨nt h18, nt h19, nt h20, rfl, rfl, rfl, nnt h21, rfl, rfl, rfl, nt h22, rfl, rfl, rfl, trivial⟩ ⟨rfl, rfl⟩
        · cases e
          exact xw_yr hd0 40 [0, 0, 0, 0, 1, 1] rfl ⟨nt h18, nt h19, nt h20, rfl, rfl, rfl, nt h21, rfl, rfl, rfl, trivial⟩ ⟨rfl, rfl⟩
set_option maxRecDepth 20000 in
set_option maxHeartbeats 4000000 in
theorem slX8_whole_L23 {LL : Nat} {xs : Nat → Int32} {tx : List xh_T} {d : Nat} {A' V' : xM} {c' : Value} {r : Int32} {l1 : Int32} {l2 : Int32} {ex : Int32 → xM → xM → Value → Option (Int32 × xS)} (hd : 68 ≤ d) (hex : ∀ (y3 : Int32) (w0 w1 w2 w4 w5 : Option Value) (A V : xM) (cu : Value), ex y3 A V cu = some (r, A', V', c') → xw (xk_ro LL xs) d xk_97 90 [w0, w1, w2, some (.int y3), w4, w5] [] (xh A V tx cu) (qI r (xh A' V' tx c'))) : ∀ (n : Nat) (l3 : Int32) (l4 : Int32) (z5 : Option Value) (A V : xM) (cu : Value), fX8_whole_L23 tx l1 l2 ex n l3 l4 A V cu = some (r, A', V', c') → xw (xk_ro LL xs) d xk_97 23 [some (.ref 64), some (.int l1), some (.int l2), some (.int l3), some (.int l4), z5] [] (xh A V tx cu) (qI r (xh A' V' tx c')) := by
  have hd0 : 60 ≤ d := by omega
  intro n
  induction n with
  | zero =>
    intro l3 l4 z5 A V cu e
    rw [fX8_whole_L23] at e
    cases e
  | succ n ih =>
    intro l3 l4 z5 A V cu e
    rw [fX8_whole_L23] at e
    rcases ite_ok e with ⟨h1, e⟩ | ⟨h1, e⟩
    · refine xw_y hd0 4 [1] rfl ⟨decide_eq_true h1, trivial⟩ ?_
      exact hex _ _ _ _ _ _ _ _ _ e
    · rcases ite_ok e with ⟨h2, e⟩ | ⟨h2, e⟩
      · refine xw_y hd0 7 [0, 1] rfl ⟨nt h1, decide_eq_true h2, trivial⟩ ?_
        exact hex _ _ _ _ _ _ _ _ _ e
      · refine xw_y hd0 10 [0, 0] rfl ⟨nt h1, nt h2, trivial⟩ ?_
        obtain ⟨h4, e⟩ := bC_ok e
        refine xw_call (k := 119) (j := 1) rfl (fun F => xm_c_ok (y_c_ok rfl) F) rfl rfl rfl (sX8_lawText (by omega) h4) ?_
        rintro _ _ ⟨rfl, rfl⟩
        obtain ⟨h5, e⟩ := bC_ok e
        refine xw_y hd0 6 [] rfl ⟨h5, trivial⟩ ?_
        obtain ⟨A7, V8, c9, e10, e⟩ := bS_ok e
        refine xw_call (k := 19) (j := 5) rfl (fun F => xm_c_ok (y_c_ok rfl) F) rfl rfl rfl (sX3_prepare (by omega) e10) ?_
        rintro _ _ ⟨rfl, rfl⟩
        refine xw_y hd0 5 [] rfl trivial ?_
        obtain ⟨x11, A12, V13, c14, e15, e⟩ := bX_ok e
        refine xw_call (k := 20) (j := 4) rfl (fun F => xm_c_ok (y_c_ok rfl) F) rfl rfl rfl (sX3_seek (by omega) e15) ?_
        rintro _ _ ⟨rfl, rfl⟩
        rcases ite_ok e with ⟨h16, e⟩ | ⟨h16, e⟩
        · cases e
          exact xw_yr hd0 7 [0] rfl ⟨nnt h16, rfl, trivial⟩ ⟨rfl, rfl⟩
        · refine xw_y hd0 10 [1] rfl ⟨nt h16, trivial⟩ ?_
          exact ih _ _ _ _ _ _ e
set_option maxRecDepth 20000 in
set_option maxHeartbeats 4000000 in
theorem sX8_whole {LL : Nat} {xs : Nat → Int32} {tx : List xh_T} {d : Nat} {A V : xM} {cu : Value} {A' V' : xM} {c' : Value} {r : Int32} {l1 l2 : Int32} (hd : 69 ≤ d) (e : fX8_whole tx l1 l2 A V cu = some (r, A', V', c')) : xe (xk_ro LL xs) d 97 [.ref 64, .int l1, .int l2] (xh A V tx cu) (qI r (xh A' V' tx c')) := by
  obtain ⟨d, rfl⟩ : ∃ d1, d = d1 + 1 := ⟨d - 1, by omega⟩
  replace hd : 68 ≤ d := by omega
  have hd0 : 60 ≤ d := by omega
  refine xe_of (co := xk_97) (nl := 6) rfl rfl rfl ?_
  unfold fX8_whole at e
  rcases ite_ok e with ⟨h17, e⟩ | ⟨h17, e⟩
  · cases e
    exact xw_yr hd0 10 [1, 1] rfl ⟨decide_eq_true h17, rfl, rfl, rfl, trivial⟩ ⟨rfl, rfl⟩
  · rcases ite_ok e with ⟨h18, e⟩ | ⟨h18, e⟩
    · cases e
      exact xw_yr hd0 13 [0, 1, 1] rfl ⟨nt h17, decide_eq_true h18, rfl, rfl, rfl, trivial⟩ ⟨rfl, rfl⟩
    · rcases ite_ok e with ⟨h19, e⟩ | ⟨h19, e⟩
      · refine xw_y hd0 37 [0, 0, 0, 0, 1] rfl ⟨nt h17, nt h18, rfl, rfl, rfl, nnt h19, rfl, rfl, trivial⟩ ?_
        refine slX8_whole_L23 hd ?_ FU _ _ _ _ _ _ e
        · intro l3_20 z21 z22 z23 z24 z25 A26 V27 c28 e
          cases e
          exact xw_yr hd0 3 [] rfl ⟨rfl, trivial⟩ ⟨rfl, rfl⟩
      · cases e
        exact xw_yr hd0 35 [0, 0, 0, 1, 0] rfl ⟨nt h17, nt h18, rfl, rfl, rfl, nt h19, rfl, rfl, rfl, trivial⟩ ⟨rfl, rfl⟩
set_option maxRecDepth 20000 in
set_option maxHeartbeats 4000000 in
theorem slX8_comesOf_L52 {LL : Nat} {xs : Nat → Int32} {tx : List xh_T} {d : Nat}{A V : xM} {cu : Value} {A' V' : xM} {c' : Value} {r : Int32} {l4 : Nat} {l1 : Int32} {ex : Option (Int32 × xS)} (hl4 : isSh l4) (hd : 66 ≤ d) (hex : ∀ (w0 w1 w2 w3 w4 w5 : Option Value), ex  = some (r, A', V', c') → xw (xk_ro LL xs) d xk_127 94 [w0, w1, w2, w3, w4, w5] [] (xh A V tx cu) (qI r (xh A' V' tx c'))) : ∀ (n : Nat) (l5 : Int32) (z2 z3 : Option Value), fX8_comesOf_L52 tx l4 l1 A V cu ex n l5 = some (r, A', V', c') → xw (xk_ro LL xs) d xk_127 52 [some (.ref 64), some (.int l1), z2, z3, some (.ref l4), some (.int l5)] [] (xh A V tx cu) (qI r (xh A' V' tx c')) := by
  have hd0 : 60 ≤ d := by omega
  intro n
  induction n with
  | zero =>
    intro l5 z2 z3 e
    rw [fX8_comesOf_L52] at e
    cases e
  | succ n ih =>
    intro l5 z2 z3 e
    rw [fX8_comesOf_L52] at e
    refine xw_y hd0 2 [] rfl trivial ?_
    refine st_get_sheet_2 hl4 rfl ?_
    rcases ite_ok e with ⟨h1, e⟩ | ⟨h1, e⟩
    · refine xw_y hd0 1 [1] rfl ⟨decide_eq_true h1, trivial⟩ ?_
      exact hex _ _ _ _ _ _ e
    · refine xw_y hd0 5 [0] rfl ⟨nt h1, trivial⟩ ?_
      obtain ⟨x2, e3, e⟩ := bI_ok e
      refine xw_call (k := 2) (j := 3) rfl (fun F => xm_c_ok (y_c_ok rfl) F) rfl rfl rfl (sX1_amount_77 (by omega) e3) ?_
      rintro _ _ ⟨rfl, rfl⟩
      refine xw_y hd0 4 [] rfl trivial ?_
      obtain ⟨x4, e5, e⟩ := bI_ok e
      refine xw_call (k := 52) (j := 2) rfl (fun F => st_recv_sheet hl4 rfl F) rfl rfl rfl (sX5_at hl4 (by omega) e5) ?_
      rintro _ _ ⟨rfl, rfl⟩
      rcases ite_ok e with ⟨h6, e⟩ | ⟨h6, e⟩
      · refine xw_y hd0 3 [1] rfl ⟨decide_eq_true h6, trivial⟩ ?_
        exact ih _ _ _ e
      · cases e
        exact xw_yr hd0 4 [0] rfl ⟨nt h6, rfl, trivial⟩ ⟨rfl, rfl⟩
set_option maxRecDepth 20000 in
set_option maxHeartbeats 4000000 in
theorem sX8_comesOf {LL : Nat} {xs : Nat → Int32} {tx : List xh_T} {d : Nat} {A V : xM} {cu : Value} {A' V' : xM} {c' : Value} {r : Int32} {l4 : Nat} {l1 l2 l3 : Int32} (hl4 : isSh l4) (hd : 67 ≤ d) (e : fX8_comesOf tx l4 l1 l2 l3 A V cu = some (r, A', V', c')) : xe (xk_ro LL xs) d 127 [.ref 64, .int l1, .int l2, .int l3, .ref l4] (xh A V tx cu) (qI r (xh A' V' tx c')) := by
  obtain ⟨d, rfl⟩ : ∃ d1, d = d1 + 1 := ⟨d - 1, by omega⟩
  replace hd : 66 ≤ d := by omega
  have hd0 : 60 ≤ d := by omega
  refine xe_of (co := xk_127) (nl := 6) rfl rfl rfl ?_
  unfold fX8_comesOf at e
  refine xw_y hd0 1 [] rfl trivial ?_
  obtain ⟨x7, e8, e⟩ := bI_ok e
  refine xw_call (k := 216) (j := 1) rfl (fun F => xm_c_ok (y_c_ok rfl) F) rfl rfl rfl (sJ6_bitCount_0f7a4 (by omega) e8) ?_
  rintro _ _ ⟨rfl, rfl⟩
  obtain ⟨h9, e⟩ := bC_ok e
  rcases ite_ok e with ⟨h10, e⟩ | ⟨h10, e⟩
  · cases e
    exact xw_yr hd0 8 [1] rfl ⟨h9, decide_eq_true h10, rfl, trivial⟩ ⟨rfl, rfl⟩
  · refine xw_y hd0 9 [0] rfl ⟨h9, nt h10, trivial⟩ ?_
    obtain ⟨x11, A12, V13, c14, e15, e⟩ := bX_ok e
    refine xw_call (k := 125) (j := 4) rfl (fun F => xm_c_ok (y_c_ok rfl) F) rfl rfl rfl (sX8_mayAtFirst (by omega) e15) ?_
    rintro _ _ ⟨rfl, rfl⟩
    rcases ite_ok e with ⟨h16, e⟩ | ⟨h16, e⟩
    · cases e
      exact xw_yr hd0 4 [0] rfl ⟨nnt h16, rfl, trivial⟩ ⟨rfl, rfl⟩
    · refine xw_y hd0 5 [1] rfl ⟨nt h16, trivial⟩ ?_
      obtain ⟨A18, V19, c20, e21, e⟩ := bS_ok e
      refine xw_call (k := 5) (j := 2) rfl (fun F => xm_c_ok (y_c_ok rfl) F) rfl rfl rfl (sX1_take_77_73 (by omega) e21) ?_
      rintro _ _ ⟨rfl, rfl⟩
      refine xw_y hd0 6 [] rfl trivial ?_
      obtain ⟨A23, V24, c25, e26, e⟩ := bS_ok e
      refine xw_call (k := 58) (j := 4) rfl (fun F => xm_c_ok (y_c_ok rfl) F) rfl rfl rfl (sX6_spread_77 (by omega) e26) ?_
      rintro _ _ ⟨rfl, rfl⟩
      refine xw_y hd0 2 [] rfl trivial ?_
      refine slX8_comesOf_L52 hl4 hd ?_ FU _ _ _ e
      · intro z27 z28 z29 z30 z31 z32 e
        cases e
        exact xw_yr hd0 3 [] rfl ⟨rfl, trivial⟩ ⟨rfl, rfl⟩
set_option maxRecDepth 20000 in
set_option maxHeartbeats 4000000 in
theorem slX8_was_L93 {LL : Nat} {xs : Nat → Int32} {tx : List xh_T} {d : Nat} {A' V' : xM} {c' : Value} {r : Int32} {l5 : Nat} {l1 : Int32} {l2 : Int32} {l4 : Int32} {ex : Int32 → Int32 → Int32 → xM → xM → Value → Option (Int32 × xS)} (hl5 : isSh l5) (hd : 67 ≤ d) (hex : ∀ (y6 : Int32) (y7 : Int32) (y8 : Int32) (w0 w1 w2 w3 w5 w9 : Option Value) (A V : xM) (cu : Value), ex y6 y7 y8 A V cu = some (r, A', V', c') → xw (xk_ro LL xs) d xk_98 141 [w0, w1, w2, w3, some (.int l4), w5, some (.int y6), some (.int y7), some (.int y8), w9] [] (xh A V tx cu) (qI r (xh A' V' tx c'))) : ∀ (n : Nat) (l6 : Int32) (l7 : Int32) (l8 : Int32) (l9 : Int32) (z3 : Option Value) (A V : xM) (cu : Value), fX8_was_L93 tx l5 l1 l2 l4 ex n l6 l7 l8 l9 A V cu = some (r, A', V', c') → xw (xk_ro LL xs) d xk_98 93 [some (.ref 64), some (.int l1), some (.int l2), z3, some (.int l4), some (.ref l5), some (.int l6), some (.int l7), some (.int l8), some (.int l9)] [] (xh A V tx cu) (qI r (xh A' V' tx c')) := by
  have hd0 : 60 ≤ d := by omega
  intro n
  induction n with
  | zero =>
    intro l6 l7 l8 l9 z3 A V cu e
    rw [fX8_was_L93] at e
    cases e
  | succ n ih =>
    intro l6 l7 l8 l9 z3 A V cu e
    rw [fX8_was_L93] at e
    rcases ite_ok e with ⟨h1, e⟩ | ⟨h1, e⟩
    · refine xw_y hd0 12 [1] rfl ⟨rfl, decide_eq_true h1, trivial⟩ ?_
      exact hex _ _ _ _ _ _ _ _ _ _ _ _ e
    · refine xw_y hd0 17 [0] rfl ⟨rfl, nt h1, trivial⟩ ?_
      obtain ⟨x2, A3, V4, c5, e6, e⟩ := bX_ok e
      refine xw_call (k := 127) (j := 5) rfl (fun F => xm_c_ok (y_c_ok rfl) F) rfl rfl rfl (sX8_comesOf hl5 (by omega) e6) ?_
      rintro _ _ ⟨rfl, rfl⟩
      rcases ite_ok e with ⟨h7, e⟩ | ⟨h7, e⟩
      · refine xw_y hd0 3 [1] rfl ⟨decide_eq_true h7, trivial⟩ ?_
        exact ih _ _ _ _ _ _ _ _ e
      · refine xw_y hd0 12 [0] rfl ⟨nt h7, trivial⟩ ?_
        exact ih _ _ _ _ _ _ _ _ e
set_option maxRecDepth 20000 in
set_option maxHeartbeats 4000000 in
theorem sX8_was {LL : Nat} {xs : Nat → Int32} {tx : List xh_T} {d : Nat} {A V : xM} {cu : Value} {A' V' : xM} {c' : Value} {r : Int32} {l1 l2 l3 l4 : Int32} (hd : 68 ≤ d) (e : fX8_was tx l1 l2 l3 l4 A V cu = some (r, A', V', c')) : xe (xk_ro LL xs) d 98 [.ref 64, .int l1, .int l2, .int l3, .int l4] (xh A V tx cu) (qI r (xh A' V' tx c')) := by
  obtain ⟨d, rfl⟩ : ∃ d1, d = d1 + 1 := ⟨d - 1, by omega⟩
  replace hd : 67 ≤ d := by omega
  have hd0 : 60 ≤ d := by omega
  refine xe_of (co := xk_98) (nl := 10) rfl rfl rfl ?_
  unfold fX8_was at e
  rcases ite_ok e with ⟨h8, e⟩ | ⟨h8, e⟩
  · cases e
    exact xw_yr hd0 11 [1, 0] rfl ⟨decide_eq_true h8, rfl, rfl, rfl, trivial⟩ ⟨rfl, rfl⟩
  · rcases ite_ok e with ⟨h9, e⟩ | ⟨h9, e⟩
    · cases e
      exact xw_yr hd0 15 [0, 1, 0] rfl ⟨nt h8, decide_eq_true h9, rfl, rfl, rfl, trivial⟩ ⟨rfl, rfl⟩
    · rcases ite_ok e with ⟨h10, e⟩ | ⟨h10, e⟩
      · cases e
        exact xw_yr hd0 18 [0, 0, 1, 0] rfl ⟨nt h8, nt h9, decide_eq_true h10, rfl, rfl, rfl, trivial⟩ ⟨rfl, rfl⟩
      · rcases ite_ok e with ⟨h11, e⟩ | ⟨h11, e⟩
        · cases e
          exact xw_yr hd0 26 [0, 0, 0, 1, 1, 1] rfl ⟨nt h8, nt h9, nt h10, rfl, rfl, decide_eq_true h11, rfl, rfl, rfl, trivial⟩ ⟨rfl, rfl⟩
        · rcases ite_ok e with ⟨h12, e⟩ | ⟨h12, e⟩
          · cases e
            exact xw_yr hd0 29 [0, 0, 0, 1, 0, 1, 1] rfl ⟨nt h8, nt h9, nt h10, rfl, rfl, nt h11, decide_eq_true h12, rfl, rfl, rfl, trivial⟩ ⟨rfl, rfl⟩
          · rcases ite_ok e with ⟨h13, e⟩ | ⟨h13, e⟩
            · cases e
              exact xw_yr hd0 32 [0, 0, 0, 1, 0, 0, 0, 1] rfl ⟨nt h8, nt h9, nt h10, rfl, rfl, nt h11, nt h12, rfl, rfl, decide_eq_true h13, rfl, trivial⟩ ⟨rfl, rfl⟩
            · rcases ite_ok e with ⟨h14, e⟩ | ⟨h14, e⟩
              · rcases ite_ok e with ⟨h15, e⟩ | ⟨h15, e⟩
                · cases e
                  exact xw_yr hd0 42 [0, 0, 0, 1, 0, 0, 0, 0, 1, 1, 0] rfl ⟨nt h8, nt h9, nt h10, rfl, rfl, nt h11, nt h12, rfl, rfl, nt h13, decide_eq_true h14, decide_eq_true h15, rfl, rfl, rfl, trivial⟩ ⟨rfl, rfl⟩
                · rcases ite_ok e with ⟨h16, e⟩ | ⟨h16, e⟩
                  · cases e
                    exact xw_yr hd0 45 [0, 0, 0, 1, 0, 0, 0, 0, 1, 0, 1, 0] rfl ⟨nt h8, nt h9, nt h10, rfl, rfl, nt h11, nt h12, rfl, rfl, nt h13, decide_eq_true h14, nt h15, decide_eq_true h16, rfl, rfl, rfl, trivial⟩ ⟨rfl, rfl⟩
                  · refine xw_y hd0 45 [0, 0, 0, 1, 0, 0, 0, 0, 1, 0, 0, 1] rfl ⟨nt h8, nt h9, nt h10, rfl, rfl, nt h11, nt h12, rfl, rfl, nt h13, decide_eq_true h14, nt h15, nt h16, rfl, rfl, trivial⟩ ?_
                    obtain ⟨h18, e⟩ := bC_ok e
                    rcases ite_ok e with ⟨h19, e⟩ | ⟨h19, e⟩
                    · refine xw_call (k := 120) (j := 2) rfl (fun F => xm_c_ok (y_c_ok rfl) F) rfl rfl rfl (sX8_rowOf_0 (by omega) h18 h19) ?_
                      rintro _ _ ⟨rfl, rfl⟩
                      cases e
                      exact xw_yr hd0 6 [] rfl ⟨rfl, trivial⟩ ⟨rfl, rfl⟩
                    · refine xw_call (k := 120) (j := 2) rfl (fun F => xm_c_ok (y_c_ok rfl) F) rfl rfl rfl (sX8_rowOf_1 (by omega) h18 h19) ?_
                      rintro _ _ ⟨rfl, rfl⟩
                      refine xw_y hd0 4 [] rfl trivial ?_
                      refine st_get_sheet_2 (sh_of h18) rfl ?_
                      rcases ite_ok e with ⟨h20, e⟩ | ⟨h20, e⟩
                      · refine xw_y hd0 21 [1] rfl ⟨decide_eq_true h20, rfl, trivial⟩ ?_
                        refine slX8_was_L93 (sh_of h18) hd ?_ FU _ _ _ _ _ _ _ _ e
                        · intro l6_21 l7_22 l8_23 z24 z25 z26 z27 z28 z29 A30 V31 c32 e
                          rcases ite_ok e with ⟨h33, e⟩ | ⟨h33, e⟩
                          · cases e
                            exact xw_yr hd0 5 [0] rfl ⟨nnt h33, rfl, trivial⟩ ⟨rfl, rfl⟩
                          · rcases ite_ok e with ⟨h34, e⟩ | ⟨h34, e⟩
                            · cases e
                              exact xw_yr hd0 9 [1, 0] rfl ⟨nt h33, nnt h34, rfl, trivial⟩ ⟨rfl, rfl⟩
                            · rcases ite_ok e with ⟨h35, e⟩ | ⟨h35, e⟩
                              · cases e
                                exact xw_yr hd0 11 [1, 1, 0] rfl ⟨nt h33, nt h34, nnt h35, rfl, trivial⟩ ⟨rfl, rfl⟩
                              · cases e
                                exact xw_yr hd0 10 [1, 1, 1] rfl ⟨nt h33, nt h34, nt h35, rfl, trivial⟩ ⟨rfl, rfl⟩
                      · cases e
                        exact xw_yr hd0 7 [0] rfl ⟨nt h20, rfl, trivial⟩ ⟨rfl, rfl⟩
              · cases e
                exact xw_yr hd0 35 [0, 0, 0, 1, 0, 0, 0, 0, 0] rfl ⟨nt h8, nt h9, nt h10, rfl, rfl, nt h11, nt h12, rfl, rfl, nt h13, nt h14, rfl, trivial⟩ ⟨rfl, rfl⟩
set_option maxRecDepth 20000 in
set_option maxHeartbeats 4000000 in
theorem slX8_partsLost_L20 {LL : Nat} {xs : Nat → Int32} {tx : List xh_T} {d : Nat}{A V : xM} {cu : Value} {r : Int64} {l3 : Int32} {ex : Int64 → Option (Int64)} (hd : 60 ≤ d) (hex : ∀ (y4 : Int64) (w0 w1 w2 w3 w6 : Option Value), ex y4 = some r → xw (xk_ro LL xs) d xk_128 73 [w0, w1, w2, w3, some (.long y4), none, w6] [] (xh A V tx cu) (qL r (xh A V tx cu))) : ∀ (n : Nat) (l4 : Int64) (l6 : Int32) (z1 z2 : Option Value), fX8_partsLost_L20 l3 A V ex n l4 l6 = some r → xw (xk_ro LL xs) d xk_128 20 [some (.ref 64), z1, z2, some (.int l3), some (.long l4), none, some (.int l6)] [] (xh A V tx cu) (qL r (xh A V tx cu)) := by
  have hd0 : 60 ≤ d := by omega
  intro n
  induction n with
  | zero =>
    intro l4 l6 z1 z2 e
    rw [fX8_partsLost_L20] at e
    cases e
  | succ n ih =>
    intro l4 l6 z1 z2 e
    rw [fX8_partsLost_L20] at e
    rcases ite_ok e with ⟨h1, e⟩ | ⟨h1, e⟩
    · refine xw_y hd0 5 [1] rfl ⟨decide_eq_true h1, trivial⟩ ?_
      exact hex _ _ _ _ _ _ e
    · rcases ite_ok e with ⟨h2, e⟩ | ⟨h2, e⟩
      · refine xw_y hd0 8 [0, 1] rfl ⟨nt h1, decide_eq_true h2, trivial⟩ ?_
        exact hex _ _ _ _ _ _ e
      · rcases ite_ok e with ⟨h3, e⟩ | ⟨h3, e⟩
        · refine xw_y hd0 16 [0, 0, 1] rfl ⟨nt h1, nt h2, decide_eq_true h3, trivial⟩ ?_
          exact ih _ _ _ _ e
        · obtain ⟨h4, e⟩ := bC_ok e
          refine xw_y hd0 27 [0, 0, 0] rfl ⟨nt h1, nt h2, nt h3, h4, rfl, trivial⟩ ?_
          exact ih _ _ _ _ e
set_option maxRecDepth 20000 in
set_option maxHeartbeats 4000000 in
theorem sX8_partsLost {LL : Nat} {xs : Nat → Int32} {tx : List xh_T} {d : Nat} {A V : xM} {cu : Value} {r : Int64} {l1 l2 : Int32} (hd : 61 ≤ d) (e : fX8_partsLost l1 l2 A V = some r) : xe (xk_ro LL xs) d 128 [.ref 64, .int l1, .int l2] (xh A V tx cu) (qL r (xh A V tx cu)) := by
  obtain ⟨d, rfl⟩ : ∃ d1, d = d1 + 1 := ⟨d - 1, by omega⟩
  replace hd : 60 ≤ d := by omega
  have hd0 : 60 ≤ d := by omega
  refine xe_of (co := xk_128) (nl := 7) rfl rfl rfl ?_
  unfold fX8_partsLost at e
  obtain ⟨h5, e⟩ := bC_ok e
  refine xw_y hd0 12 [] rfl ⟨h5, trivial⟩ ?_
  refine slX8_partsLost_L20 hd ?_ FU _ _ _ _ e
  · intro l4_6 z7 z8 z9 z10 z11 e
    cases e
    exact xw_yr hd0 3 [] rfl trivial ⟨rfl, rfl⟩
set_option maxRecDepth 20000 in
set_option maxHeartbeats 4000000 in
theorem sX8_lost {LL : Nat} {xs : Nat → Int32} {tx : List xh_T} {d : Nat} {A V : xM} {cu : Value} {r : Int64} {l1 l2 : Int32} (hd : 62 ≤ d) (e : fX8_lost l1 l2 A V = some r) : xe (xk_ro LL xs) d 99 [.ref 64, .int l1, .int l2] (xh A V tx cu) (qL r (xh A V tx cu)) := by
  obtain ⟨d, rfl⟩ : ∃ d1, d = d1 + 1 := ⟨d - 1, by omega⟩
  replace hd : 61 ≤ d := by omega
  have hd0 : 60 ≤ d := by omega
  refine xe_of (co := xk_99) (nl := 3) rfl rfl rfl ?_
  unfold fX8_lost at e
  rcases ite_ok e with ⟨h1, e⟩ | ⟨h1, e⟩
  · cases e
    exact xw_yr hd0 11 [1, 1] rfl ⟨decide_eq_true h1, rfl, rfl, trivial⟩ ⟨rfl, rfl⟩
  · rcases ite_ok e with ⟨h2, e⟩ | ⟨h2, e⟩
    · cases e
      exact xw_yr hd0 15 [0, 1, 1] rfl ⟨nt h1, decide_eq_true h2, rfl, rfl, trivial⟩ ⟨rfl, rfl⟩
    · rcases ite_ok e with ⟨h3, e⟩ | ⟨h3, e⟩
      · cases e
        exact xw_yr hd0 18 [0, 0, 1, 1] rfl ⟨nt h1, nt h2, decide_eq_true h3, rfl, rfl, trivial⟩ ⟨rfl, rfl⟩
      · rcases ite_ok e with ⟨h4, e⟩ | ⟨h4, e⟩
        · refine xw_y hd0 41 [0, 0, 0, 0, 0, 1] rfl ⟨nt h1, nt h2, nt h3, rfl, rfl, rfl, nnt h4, rfl, rfl, trivial⟩ ?_
          obtain ⟨x5, e6, e⟩ := bI_ok e
          refine xw_call (k := 128) (j := 3) rfl (fun F => xm_c_ok (y_c_ok rfl) F) rfl rfl rfl (sX8_partsLost (by omega) e6) ?_
          rintro _ _ ⟨rfl, rfl⟩
          cases e
          exact xw_yr hd0 2 [] rfl trivial ⟨rfl, rfl⟩
        · cases e
          exact xw_yr hd0 40 [0, 0, 0, 0, 1, 0] rfl ⟨nt h1, nt h2, nt h3, rfl, rfl, rfl, nt h4, rfl, rfl, trivial⟩ ⟨rfl, rfl⟩
set_option maxRecDepth 20000 in
set_option maxHeartbeats 4000000 in
theorem slX8_keep_L30 {LL : Nat} {xs : Nat → Int32} {tx : List xh_T} {d : Nat}{A V : xM} {cu : Value} {r : Int32} {l1 : Int32} {l2 : Int32} {ex : Int32 → Option (Int32)} (hd : 61 ≤ d) (hex : ∀ (y3 : Int32) (w0 w1 w2 w4 w5 : Option Value), ex y3 = some r → xw (xk_ro LL xs) d xk_100 97 [w0, w1, w2, some (.int y3), w4, w5] [] (xh A V tx cu) (qI r (xh A V tx cu))) : ∀ (n : Nat) (l3 : Int32) (l4 : Int32) (z5 : Option Value), fX8_keep_L30 l1 l2 A V ex n l3 l4 = some r → xw (xk_ro LL xs) d xk_100 30 [some (.ref 64), some (.int l1), some (.int l2), some (.int l3), some (.int l4), z5] [] (xh A V tx cu) (qI r (xh A V tx cu)) := by
  have hd0 : 60 ≤ d := by omega
  intro n
  induction n with
  | zero =>
    intro l3 l4 z5 e
    rw [fX8_keep_L30] at e
    cases e
  | succ n ih =>
    intro l3 l4 z5 e
    rw [fX8_keep_L30] at e
    rcases ite_ok e with ⟨h1, e⟩ | ⟨h1, e⟩
    · refine xw_y hd0 12 [1] rfl ⟨rfl, decide_eq_true h1, trivial⟩ ?_
      exact hex _ _ _ _ _ _ e
    · rcases ite_ok e with ⟨h2, e⟩ | ⟨h2, e⟩
      · refine xw_y hd0 23 [0, 1, 0] rfl ⟨rfl, nt h1, decide_eq_true h2, rfl, trivial⟩ ?_
        obtain ⟨x3, e4, e⟩ := bI_ok e
        refine xw_call (k := 128) (j := 3) rfl (fun F => xm_c_ok (y_c_ok rfl) F) rfl rfl rfl (sX8_partsLost (by omega) e4) ?_
        rintro _ _ ⟨rfl, rfl⟩
        rcases ite_ok e with ⟨h5, e⟩ | ⟨h5, e⟩
        · refine xw_y hd0 8 [1] rfl ⟨decide_eq_true h5, trivial⟩ ?_
          exact ih _ _ _ e
        · refine xw_y hd0 10 [0] rfl ⟨nt h5, trivial⟩ ?_
          exact ih _ _ _ e
      · refine xw_y hd0 16 [0, 0] rfl ⟨rfl, nt h1, nt h2, trivial⟩ ?_
        obtain ⟨x6, e7, e⟩ := bI_ok e
        refine xw_call (k := 216) (j := 1) rfl (fun F => xm_c_ok (y_c_ok rfl) F) rfl rfl rfl (sJ6_bitCount_0f7a4 (by omega) e7) ?_
        rintro _ _ ⟨rfl, rfl⟩
        refine xw_y hd0 1 [] rfl trivial ?_
        obtain ⟨x8, e9, e⟩ := bI_ok e
        refine xw_call (k := 216) (j := 1) rfl (fun F => xm_c_ok (y_c_ok rfl) F) rfl rfl rfl (sJ6_bitCount_0f7a4 (by omega) e9) ?_
        rintro _ _ ⟨rfl, rfl⟩
        rcases ite_ok e with ⟨h10, e⟩ | ⟨h10, e⟩
        · refine xw_y hd0 7 [1, 1] rfl ⟨decide_eq_true h10, rfl, trivial⟩ ?_
          exact ih _ _ _ e
        · refine xw_y hd0 9 [0, 0] rfl ⟨nt h10, rfl, trivial⟩ ?_
          obtain ⟨x11, e12, e⟩ := bI_ok e
          refine xw_call (k := 128) (j := 3) rfl (fun F => xm_c_ok (y_c_ok rfl) F) rfl rfl rfl (sX8_partsLost (by omega) e12) ?_
          rintro _ _ ⟨rfl, rfl⟩
          rcases ite_ok e with ⟨h13, e⟩ | ⟨h13, e⟩
          · refine xw_y hd0 8 [1] rfl ⟨decide_eq_true h13, trivial⟩ ?_
            exact ih _ _ _ e
          · refine xw_y hd0 10 [0] rfl ⟨nt h13, trivial⟩ ?_
            exact ih _ _ _ e
set_option maxRecDepth 20000 in
set_option maxHeartbeats 4000000 in
theorem sX8_keep {LL : Nat} {xs : Nat → Int32} {tx : List xh_T} {d : Nat} {A V : xM} {cu : Value} {r : Int32} {l1 l2 : Int32} (hd : 62 ≤ d) (e : fX8_keep l1 l2 A V = some r) : xe (xk_ro LL xs) d 100 [.ref 64, .int l1, .int l2] (xh A V tx cu) (qI r (xh A V tx cu)) := by
  obtain ⟨d, rfl⟩ : ∃ d1, d = d1 + 1 := ⟨d - 1, by omega⟩
  replace hd : 61 ≤ d := by omega
  have hd0 : 60 ≤ d := by omega
  refine xe_of (co := xk_100) (nl := 6) rfl rfl rfl ?_
  unfold fX8_keep at e
  rcases ite_ok e with ⟨h14, e⟩ | ⟨h14, e⟩
  · cases e
    exact xw_yr hd0 11 [1, 0] rfl ⟨decide_eq_true h14, rfl, rfl, rfl, trivial⟩ ⟨rfl, rfl⟩
  · rcases ite_ok e with ⟨h15, e⟩ | ⟨h15, e⟩
    · cases e
      exact xw_yr hd0 15 [0, 1, 0] rfl ⟨nt h14, decide_eq_true h15, rfl, rfl, rfl, trivial⟩ ⟨rfl, rfl⟩
    · rcases ite_ok e with ⟨h16, e⟩ | ⟨h16, e⟩
      · cases e
        exact xw_yr hd0 18 [0, 0, 1, 0] rfl ⟨nt h14, nt h15, decide_eq_true h16, rfl, rfl, rfl, trivial⟩ ⟨rfl, rfl⟩
      · rcases ite_ok e with ⟨h17, e⟩ | ⟨h17, e⟩
        · cases e
          exact xw_yr hd0 21 [0, 0, 0, 1, 1] rfl ⟨nt h14, nt h15, nt h16, rfl, rfl, decide_eq_true h17, rfl, trivial⟩ ⟨rfl, rfl⟩
        · rcases ite_ok e with ⟨h18, e⟩ | ⟨h18, e⟩
          · refine xw_y hd0 25 [0, 0, 0, 1, 0, 1] rfl ⟨nt h14, nt h15, nt h16, rfl, rfl, nt h17, decide_eq_true h18, trivial⟩ ?_
            refine slX8_keep_L30 hd ?_ FU _ _ _ e
            · intro l3_19 z20 z21 z22 z23 z24 e
              cases e
              exact xw_yr hd0 3 [] rfl ⟨rfl, trivial⟩ ⟨rfl, rfl⟩
          · cases e
            exact xw_yr hd0 24 [0, 0, 0, 1, 0, 0] rfl ⟨nt h14, nt h15, nt h16, rfl, rfl, nt h17, nt h18, rfl, trivial⟩ ⟨rfl, rfl⟩
set_option maxRecDepth 20000 in
set_option maxHeartbeats 4000000 in
theorem slX8_rarest_L9 {LL : Nat} {xs : Nat → Int32} {tx : List xh_T} {d : Nat}{A V : xM} {cu : Value} {r : Int32} {ex : Int32 → Option (Int32)} (hd : 61 ≤ d) (hex : ∀ (y1 : Int32) (w0 w2 w3 w4 w5 w6 : Option Value), ex y1 = some r → xw (xk_ro LL xs) d xk_101 53 [w0, some (.int y1), w2, w3, w4, w5, w6] [] (xh A V tx cu) (qI r (xh A V tx cu))) : ∀ (n : Nat) (l1 : Int32) (l2 : Int64) (l4 : Int32) (z5 z6 : Option Value), fX8_rarest_L9 A V ex n l1 l2 l4 = some r → xw (xk_ro LL xs) d xk_101 9 [some (.ref 64), some (.int l1), some (.long l2), none, some (.int l4), z5, z6] [] (xh A V tx cu) (qI r (xh A V tx cu)) := by
  have hd0 : 60 ≤ d := by omega
  intro n
  induction n with
  | zero =>
    intro l1 l2 l4 z5 z6 e
    rw [fX8_rarest_L9] at e
    cases e
  | succ n ih =>
    intro l1 l2 l4 z5 z6 e
    rw [fX8_rarest_L9] at e
    rcases ite_ok e with ⟨h1, e⟩ | ⟨h1, e⟩
    · refine xw_y hd0 4 [1] rfl ⟨decide_eq_true h1, trivial⟩ ?_
      exact hex _ _ _ _ _ _ _ e
    · rcases ite_ok e with ⟨h2, e⟩ | ⟨h2, e⟩
      · refine xw_y hd0 7 [0, 1] rfl ⟨nt h1, decide_eq_true h2, trivial⟩ ?_
        exact hex _ _ _ _ _ _ _ e
      · refine xw_y hd0 10 [0, 0] rfl ⟨nt h1, nt h2, trivial⟩ ?_
        obtain ⟨x3, e4, e⟩ := bI_ok e
        refine xw_call (k := 128) (j := 3) rfl (fun F => xm_c_ok (y_c_ok rfl) F) rfl rfl rfl (sX8_partsLost (by omega) e4) ?_
        rintro _ _ ⟨rfl, rfl⟩
        rcases ite_ok e with ⟨h5, e⟩ | ⟨h5, e⟩
        · refine xw_y hd0 7 [1] rfl ⟨decide_eq_true h5, trivial⟩ ?_
          exact ih _ _ _ _ _ e
        · refine xw_y hd0 11 [0] rfl ⟨nt h5, trivial⟩ ?_
          exact ih _ _ _ _ _ e
set_option maxRecDepth 20000 in
set_option maxHeartbeats 4000000 in
theorem sX8_rarest {LL : Nat} {xs : Nat → Int32} {tx : List xh_T} {d : Nat} {A V : xM} {cu : Value} {r : Int32} (hd : 62 ≤ d) (e : fX8_rarest A V = some r) : xe (xk_ro LL xs) d 101 [.ref 64] (xh A V tx cu) (qI r (xh A V tx cu)) := by
  obtain ⟨d, rfl⟩ : ∃ d1, d = d1 + 1 := ⟨d - 1, by omega⟩
  replace hd : 61 ≤ d := by omega
  have hd0 : 60 ≤ d := by omega
  refine xe_of (co := xk_101) (nl := 7) rfl rfl rfl ?_
  unfold fX8_rarest at e
  refine xw_y hd0 6 [] rfl trivial ?_
  refine slX8_rarest_L9 hd ?_ FU _ _ _ _ _ e
  · intro l1_6 z7 z8 z9 z10 z11 z12 e
    cases e
    exact xw_yr hd0 3 [] rfl ⟨rfl, trivial⟩ ⟨rfl, rfl⟩
set_option maxRecDepth 20000 in
set_option maxHeartbeats 4000000 in
theorem slX8_draw_L54 {LL : Nat} {xs : Nat → Int32} {tx : List xh_T} {d : Nat}{A V : xM} {cu : Value} {A' V' : xM} {c' : Value} {l2 : Int32} {l4 : Int32} {l5 : Int32} {l8 : Int32} {ex : Int64 → Int32 → Option (xS)} (hd : 65 ≤ d) (hex : ∀ (y6 : Int64) (y9 : Int32) (w1 w3 w10 w11 : Option Value), ex y6 y9 = some (A', V', c') → xw (xk_ro LL xs) d xk_129 110 [some (.ref 64), w1, some (.int l2), w3, some (.int l4), some (.int l5), some (.long y6), none, some (.int l8), some (.int y9), w10, w11] [] (xh A V tx cu) (qU (xh A' V' tx c'))) : ∀ (n : Nat) (l6 : Int64) (l9 : Int32) (l10 : Int32) (l11 : Int32) (z1 z3 : Option Value), fX8_draw_L54 tx l2 l4 l5 l8 A V cu ex n l6 l9 l10 l11 = some (A', V', c') → xw (xk_ro LL xs) d xk_129 54 [some (.ref 64), z1, some (.int l2), z3, some (.int l4), some (.int l5), some (.long l6), none, some (.int l8), some (.int l9), some (.int l10), some (.int l11)] [] (xh A V tx cu) (qU (xh A' V' tx c')) := by
  have hd0 : 60 ≤ d := by omega
  intro n
  induction n with
  | zero =>
    intro l6 l9 l10 l11 z1 z3 e
    rw [fX8_draw_L54] at e
    cases e
  | succ n ih =>
    intro l6 l9 l10 l11 z1 z3 e
    rw [fX8_draw_L54] at e
    rcases ite_ok e with ⟨h1, e⟩ | ⟨h1, e⟩
    · refine xw_y hd0 5 [1] rfl ⟨decide_eq_true h1, trivial⟩ ?_
      exact hex _ _ _ _ _ _ e
    · rcases ite_ok e with ⟨h2, e⟩ | ⟨h2, e⟩
      · refine xw_y hd0 19 [0, 1] rfl ⟨nt h1, rfl, decide_eq_true h2, trivial⟩ ?_
        exact ih _ _ _ _ _ _ e
      · rcases ite_ok e with ⟨h3, e⟩ | ⟨h3, e⟩
        · refine xw_y hd0 21 [0, 0, 1] rfl ⟨nt h1, rfl, nt h2, decide_eq_true h3, trivial⟩ ?_
          exact ih _ _ _ _ _ _ e
        · refine xw_y hd0 28 [0, 0, 0] rfl ⟨nt h1, rfl, nt h2, nt h3, trivial⟩ ?_
          exact ih _ _ _ _ _ _ e
set_option maxRecDepth 20000 in
set_option maxHeartbeats 4000000 in
theorem slX8_draw_L32 {LL : Nat} {xs : Nat → Int32} {tx : List xh_T} {d : Nat} {A' V' : xM} {c' : Value} {l2 : Int32} {l4 : Int32} {l5 : Int32} {ex : xM → xM → Value → Option (xS)} (hd : 65 ≤ d) (hex : ∀ (w0 w1 w2 w3 w4 w5 w6 w7 w8 w9 w10 w11 : Option Value) (A V : xM) (cu : Value), ex  A V cu = some (A', V', c') → xw (xk_ro LL xs) d xk_129 178 [w0, w1, w2, w3, w4, w5, w6, w7, w8, w9, w10, w11] [] (xh A V tx cu) (qU (xh A' V' tx c'))) : ∀ (n : Nat) (l6 : Int64) (l8 : Int32) (z1 z3 z9 z10 z11 : Option Value) (A V : xM) (cu : Value), fX8_draw_L32 tx l2 l4 l5 ex n l6 l8 A V cu = some (A', V', c') → xw (xk_ro LL xs) d xk_129 32 [some (.ref 64), z1, some (.int l2), z3, some (.int l4), some (.int l5), some (.long l6), none, some (.int l8), z9, z10, z11] [] (xh A V tx cu) (qU (xh A' V' tx c')) := by
  have hd0 : 60 ≤ d := by omega
  intro n
  induction n with
  | zero =>
    intro l6 l8 z1 z3 z9 z10 z11 A V cu e
    rw [fX8_draw_L32] at e
    cases e
  | succ n ih =>
    intro l6 l8 z1 z3 z9 z10 z11 A V cu e
    rw [fX8_draw_L32] at e
    rcases ite_ok e with ⟨h4, e⟩ | ⟨h4, e⟩
    · refine xw_y hd0 3 [1] rfl ⟨decide_eq_true h4, trivial⟩ ?_
      exact hex _ _ _ _ _ _ _ _ _ _ _ _ _ _ _ e
    · obtain ⟨h5, e⟩ := bC_ok e
      refine xw_y hd0 12 [0] rfl ⟨nt h4, h5, trivial⟩ ?_
      refine slX8_draw_L54 hd ?_ FU _ _ _ _ _ _ e
      · intro l6_6 l9_7 z8 z9 z10 z11 e
        refine xw_y hd0 3 [] rfl trivial ?_
        obtain ⟨h13, e⟩ := bC_ok e
        refine xw_call (k := 119) (j := 1) rfl (fun F => xm_c_ok (y_c_ok rfl) F) rfl rfl rfl (sX8_lawText (by omega) h13) ?_
        rintro _ _ ⟨rfl, rfl⟩
        refine xw_y hd0 3 [] rfl trivial ?_
        obtain ⟨A15, V16, c17, e18, e⟩ := bS_ok e
        refine xw_call (k := 55) (j := 5) rfl (fun F => xm_c_ok (y_c_ok rfl) F) rfl rfl rfl (sX6_begin (by omega) e18) ?_
        rintro _ _ ⟨rfl, rfl⟩
        refine xw_y hd0 5 [] rfl trivial ?_
        obtain ⟨x19, e20, e⟩ := bI_ok e
        refine xw_call (k := 61) (j := 3) rfl (fun F => xm_c_ok (y_c_ok rfl) F) rfl rfl rfl (sX6_couldTeach_77 (by omega) e20) ?_
        rintro _ _ ⟨rfl, rfl⟩
        rcases ite_ok e with ⟨h21, e⟩ | ⟨h21, e⟩
        · refine xw_y hd0 3 [1] rfl ⟨decide_eq_true h21, trivial⟩ ?_
          exact ih _ _ _ _ _ _ _ _ _ _ e
        · refine xw_y hd0 6 [0] rfl ⟨nt h21, trivial⟩ ?_
          obtain ⟨x22, A23, V24, c25, e26, e⟩ := bX_ok e
          refine xw_call (k := 57) (j := 3) rfl (fun F => xm_c_ok (y_c_ok rfl) F) rfl rfl rfl (sX6_may_77 (by omega) e26) ?_
          rintro _ _ ⟨rfl, rfl⟩
          rcases ite_ok e with ⟨h27, e⟩ | ⟨h27, e⟩
          · refine xw_y hd0 3 [1] rfl ⟨decide_eq_true h27, trivial⟩ ?_
            exact ih _ _ _ _ _ _ _ _ _ _ e
          · refine xw_y hd0 7 [0] rfl ⟨nt h27, trivial⟩ ?_
            obtain ⟨A29, V30, c31, e32, e⟩ := bS_ok e
            refine xw_call (k := 58) (j := 4) rfl (fun F => xm_c_ok (y_c_ok rfl) F) rfl rfl rfl (sX6_spread_77 (by omega) e32) ?_
            rintro _ _ ⟨rfl, rfl⟩
            refine xw_y hd0 2 [] rfl trivial ?_
            exact ih _ _ _ _ _ _ _ _ _ _ e
set_option maxRecDepth 20000 in
set_option maxHeartbeats 4000000 in
theorem sX8_draw {LL : Nat} {xs : Nat → Int32} {tx : List xh_T} {d : Nat} {A V : xM} {cu : Value} {A' V' : xM} {c' : Value} {l1 l2 l3 : Int32} (hd : 66 ≤ d) (e : fX8_draw tx l1 l2 l3 A V cu = some (A', V', c')) : xe (xk_ro LL xs) d 129 [.ref 64, .int l1, .int l2, .int l3] (xh A V tx cu) (qU (xh A' V' tx c')) := by
  obtain ⟨d, rfl⟩ : ∃ d1, d = d1 + 1 := ⟨d - 1, by omega⟩
  replace hd : 65 ≤ d := by omega
  have hd0 : 60 ≤ d := by omega
  refine xe_of (co := xk_129) (nl := 12) rfl rfl rfl ?_
  unfold fX8_draw at e
  refine xw_y hd0 17 [] rfl ⟨rfl, rfl, trivial⟩ ?_
  obtain ⟨A34, V35, c36, e37, e⟩ := bS_ok e
  refine xw_call (k := 5) (j := 2) rfl (fun F => xm_c_ok (y_c_ok rfl) F) rfl rfl rfl (sX1_take_77_73 (by omega) e37) ?_
  rintro _ _ ⟨rfl, rfl⟩
  refine xw_y hd0 2 [] rfl trivial ?_
  refine slX8_draw_L32 hd ?_ FU _ _ _ _ _ _ _ _ _ _ e
  · intro z38 z39 z40 z41 z42 z43 z44 z45 z46 z47 z48 z49 A50 V51 c52 e
    cases e
    exact xw_yr hd0 2 [] rfl trivial ⟨rfl, rfl⟩
set_option maxRecDepth 20000 in
set_option maxHeartbeats 4000000 in
theorem sX8_drawn {LL : Nat} {xs : Nat → Int32} {tx : List xh_T} {d : Nat} {A V : xM} {cu : Value} {A' V' : xM} {c' : Value} {r : Int32} {l1 l2 l3 l4 : Int32} (hd : 67 ≤ d) (e : fX8_drawn tx l1 l2 l3 l4 A V cu = some (r, A', V', c')) : xe (xk_ro LL xs) d 102 [.ref 64, .int l1, .int l2, .int l3, .int l4] (xh A V tx cu) (qI r (xh A' V' tx c')) := by
  obtain ⟨d, rfl⟩ : ∃ d1, d = d1 + 1 := ⟨d - 1, by omega⟩
  replace hd : 66 ≤ d := by omega
  have hd0 : 60 ≤ d := by omega
  refine xe_of (co := xk_102) (nl := 5) rfl rfl rfl ?_
  unfold fX8_drawn at e
  rcases ite_ok e with ⟨h1, e⟩ | ⟨h1, e⟩
  · cases e
    exact xw_yr hd0 11 [1, 0] rfl ⟨decide_eq_true h1, rfl, rfl, rfl, trivial⟩ ⟨rfl, rfl⟩
  · rcases ite_ok e with ⟨h2, e⟩ | ⟨h2, e⟩
    · cases e
      exact xw_yr hd0 15 [0, 1, 0] rfl ⟨nt h1, decide_eq_true h2, rfl, rfl, rfl, trivial⟩ ⟨rfl, rfl⟩
    · rcases ite_ok e with ⟨h3, e⟩ | ⟨h3, e⟩
      · cases e
        exact xw_yr hd0 18 [0, 0, 1, 0] rfl ⟨nt h1, nt h2, decide_eq_true h3, rfl, rfl, rfl, trivial⟩ ⟨rfl, rfl⟩
      · rcases ite_ok e with ⟨h4, e⟩ | ⟨h4, e⟩
        · cases e
          exact xw_yr hd0 26 [0, 0, 0, 1, 1, 1] rfl ⟨nt h1, nt h2, nt h3, rfl, rfl, decide_eq_true h4, rfl, rfl, rfl, trivial⟩ ⟨rfl, rfl⟩
        · rcases ite_ok e with ⟨h5, e⟩ | ⟨h5, e⟩
          · cases e
            exact xw_yr hd0 29 [0, 0, 0, 1, 0, 1, 1] rfl ⟨nt h1, nt h2, nt h3, rfl, rfl, nt h4, decide_eq_true h5, rfl, rfl, rfl, trivial⟩ ⟨rfl, rfl⟩
          · rcases ite_ok e with ⟨h6, e⟩ | ⟨h6, e⟩
            · cases e
              exact xw_yr hd0 37 [0, 0, 0, 1, 0, 0, 0, 1, 1] rfl ⟨nt h1, nt h2, nt h3, rfl, rfl, nt h4, nt h5, rfl, rfl, decide_eq_true h6, rfl, rfl, rfl, trivial⟩ ⟨rfl, rfl⟩
            · rcases ite_ok e with ⟨h7, e⟩ | ⟨h7, e⟩
              · cases e
                exact xw_yr hd0 46 [0, 0, 0, 1, 0, 0, 0, 0, 1, 1, 1] rfl ⟨nt h1, nt h2, nt h3, rfl, rfl, nt h4, nt h5, rfl, rfl, nt h6, rfl, decide_eq_true h7, rfl, rfl, rfl, rfl, rfl, trivial⟩ ⟨rfl, rfl⟩
              · rcases ite_ok e with ⟨h8, e⟩ | ⟨h8, e⟩
                · cases e
                  exact xw_yr hd0 49 [0, 0, 0, 1, 0, 0, 0, 0, 0, 1, 1, 1] rfl ⟨nt h1, nt h2, nt h3, rfl, rfl, nt h4, nt h5, rfl, rfl, nt h6, rfl, nt h7, decide_eq_true h8, rfl, rfl, rfl, rfl, rfl, trivial⟩ ⟨rfl, rfl⟩
                · rcases ite_ok e with ⟨h9, e⟩ | ⟨h9, e⟩
                  · cases e
                    exact xw_yr hd0 55 [0, 0, 0, 1, 0, 0, 0, 0, 0, 0, 0, 1, 1] rfl ⟨nt h1, nt h2, nt h3, rfl, rfl, nt h4, nt h5, rfl, rfl, nt h6, rfl, nt h7, nt h8, rfl, rfl, rfl, decide_eq_true h9, rfl, rfl, rfl, trivial⟩ ⟨rfl, rfl⟩
                  · rcases ite_ok e with ⟨h10, e⟩ | ⟨h10, e⟩
                    · cases e
                      exact xw_yr hd0 58 [0, 0, 0, 1, 0, 0, 0, 0, 0, 0, 0, 0, 0, 1] rfl ⟨nt h1, nt h2, nt h3, rfl, rfl, nt h4, nt h5, rfl, rfl, nt h6, rfl, nt h7, nt h8, rfl, rfl, rfl, nt h9, rfl, rfl, decide_eq_true h10, rfl, trivial⟩ ⟨rfl, rfl⟩
                    · rcases ite_ok e with ⟨h11, e⟩ | ⟨h11, e⟩
                      · refine xw_y hd0 62 [0, 0, 0, 1, 0, 0, 0, 0, 0, 0, 0, 0, 0, 0, 1] rfl ⟨nt h1, nt h2, nt h3, rfl, rfl, nt h4, nt h5, rfl, rfl, nt h6, rfl, nt h7, nt h8, rfl, rfl, rfl, nt h9, rfl, rfl, nt h10, decide_eq_true h11, trivial⟩ ?_
                        obtain ⟨A13, V14, c15, e16, e⟩ := bS_ok e
                        refine xw_call (k := 129) (j := 4) rfl (fun F => xm_c_ok (y_c_ok rfl) F) rfl rfl rfl (sX8_draw (by omega) e16) ?_
                        rintro _ _ ⟨rfl, rfl⟩
                        refine xw_y hd0 4 [] rfl trivial ?_
                        obtain ⟨x17, e18, e⟩ := bI_ok e
                        refine xw_call (k := 4) (j := 3) rfl (fun F => xm_c_ok (y_c_ok rfl) F) rfl rfl rfl (sX1_who_77 (by omega) e18) ?_
                        rintro _ _ ⟨rfl, rfl⟩
                        cases e
                        exact xw_yr hd0 2 [] rfl ⟨rfl, trivial⟩ ⟨rfl, rfl⟩
                      · cases e
                        exact xw_yr hd0 61 [0, 0, 0, 1, 0, 0, 0, 0, 0, 0, 0, 0, 0, 0, 0] rfl ⟨nt h1, nt h2, nt h3, rfl, rfl, nt h4, nt h5, rfl, rfl, nt h6, rfl, nt h7, nt h8, rfl, rfl, rfl, nt h9, rfl, rfl, nt h10, nt h11, rfl, trivial⟩ ⟨rfl, rfl⟩
set_option maxRecDepth 20000 in
set_option maxHeartbeats 4000000 in
theorem slX8_commonDivisor_L2 {LL : Nat} {xs : Nat → Int32} {tx : List xh_T} {d : Nat}{A V : xM} {cu : Value} {r : Int32} {l0 : Int32} {l1 : Int32} {ex : Option (Int32)} (hd : 60 ≤ d) (hex : ∀ (w0 w1 w2 : Option Value), ex  = some r → xw (xk_ro LL xs) d xk_130 27 [w0, w1, w2] [] (xh A V tx cu) (qI r (xh A V tx cu))) : ∀ (n : Nat) (l2 : Int32), fX8_commonDivisor_L2 l0 l1 A V ex n l2 = some r → xw (xk_ro LL xs) d xk_130 2 [some (.int l0), some (.int l1), some (.int l2)] [] (xh A V tx cu) (qI r (xh A V tx cu)) := by
  have hd0 : 60 ≤ d := by omega
  intro n
  induction n with
  | zero =>
    intro l2 e
    rw [fX8_commonDivisor_L2] at e
    cases e
  | succ n ih =>
    intro l2 e
    rw [fX8_commonDivisor_L2] at e
    rcases ite_ok e with ⟨h1, e⟩ | ⟨h1, e⟩
    · refine xw_y hd0 3 [1] rfl ⟨decide_eq_true h1, trivial⟩ ?_
      exact hex _ _ _ e
    · obtain ⟨h2, e⟩ := bC_ok e
      rcases ite_ok e with ⟨h3, e⟩ | ⟨h3, e⟩
      · rcases ite_ok e with ⟨h4, e⟩ | ⟨h4, e⟩
        · cases e
          exact xw_yr hd0 14 [0, 0, 0] rfl ⟨nt h1, h2, nnt h3, h2, nnt h4, rfl, trivial⟩ ⟨rfl, rfl⟩
        · refine xw_y hd0 13 [0, 0, 1] rfl ⟨nt h1, h2, nnt h3, h2, nt h4, trivial⟩ ?_
          exact ih _ e
      · refine xw_y hd0 9 [0, 1] rfl ⟨nt h1, h2, nt h3, trivial⟩ ?_
        exact ih _ e
set_option maxRecDepth 20000 in
set_option maxHeartbeats 4000000 in
theorem sX8_commonDivisor {LL : Nat} {xs : Nat → Int32} {tx : List xh_T} {d : Nat} {A V : xM} {cu : Value} {r : Int32} {l0 l1 : Int32} (hd : 61 ≤ d) (e : fX8_commonDivisor l0 l1 A V = some r) : xe (xk_ro LL xs) d 130 [.int l0, .int l1] (xh A V tx cu) (qI r (xh A V tx cu)) := by
  obtain ⟨d, rfl⟩ : ∃ d1, d = d1 + 1 := ⟨d - 1, by omega⟩
  replace hd : 60 ≤ d := by omega
  have hd0 : 60 ≤ d := by omega
  refine xe_of (co := xk_130) (nl := 3) rfl rfl rfl ?_
  unfold fX8_commonDivisor at e
  refine xw_y hd0 2 [] rfl trivial ?_
  refine slX8_commonDivisor_L2 hd ?_ FU _ e
  · intro z5 z6 z7 e
    cases e
    exact xw_yr hd0 3 [] rfl ⟨rfl, trivial⟩ ⟨rfl, rfl⟩
set_option maxRecDepth 20000 in
set_option maxHeartbeats 4000000 in
theorem slX8_odds_L94 {LL : Nat} {xs : Nat → Int32} {tx : List xh_T} {d : Nat} {A' V' : xM} {c' : Value} {r : Int64} {l2 : Int32} {l3 : Int32} {l4 : Int32} {l5 : Int32} {l6 : Int32} {l7 : Int32} {ex : Int32 → xM → xM → Value → Option (Int64 × xS)} (hd : 66 ≤ d) (hex : ∀ (y8 : Int32) (w0 w1 w2 w3 w4 w6 w9 : Option Value) (A V : xM) (cu : Value), ex y8 A V cu = some (r, A', V', c') → xw (xk_ro LL xs) d xk_103 136 [w0, w1, w2, w3, w4, some (.int l5), w6, some (.int l7), some (.int y8), w9] [] (xh A V tx cu) (qL r (xh A' V' tx c'))) : ∀ (n : Nat) (l8 : Int32) (l9 : Int32) (z1 : Option Value) (A V : xM) (cu : Value), fX8_odds_L94 tx l2 l3 l4 l5 l6 l7 ex n l8 l9 A V cu = some (r, A', V', c') → xw (xk_ro LL xs) d xk_103 94 [some (.ref 64), z1, some (.int l2), some (.int l3), some (.int l4), some (.int l5), some (.int l6), some (.int l7), some (.int l8), some (.int l9)] [] (xh A V tx cu) (qL r (xh A' V' tx c')) := by
  have hd0 : 60 ≤ d := by omega
  intro n
  induction n with
  | zero =>
    intro l8 l9 z1 A V cu e
    rw [fX8_odds_L94] at e
    cases e
  | succ n ih =>
    intro l8 l9 z1 A V cu e
    rw [fX8_odds_L94] at e
    rcases ite_ok e with ⟨h1, e⟩ | ⟨h1, e⟩
    · refine xw_y hd0 3 [1] rfl ⟨decide_eq_true h1, trivial⟩ ?_
      exact hex _ _ _ _ _ _ _ _ _ _ _ e
    · refine xw_y hd0 9 [0] rfl ⟨nt h1, trivial⟩ ?_
      obtain ⟨A3, V4, c5, e6, e⟩ := bS_ok e
      refine xw_call (k := 129) (j := 4) rfl (fun F => xm_c_ok (y_c_ok rfl) F) rfl rfl rfl (sX8_draw (by omega) e6) ?_
      rintro _ _ ⟨rfl, rfl⟩
      obtain ⟨h7, e⟩ := bC_ok e
      rcases ite_ok e with ⟨h8, e⟩ | ⟨h8, e⟩
      · refine xw_y hd0 10 [1] rfl ⟨h7, decide_eq_true h8, trivial⟩ ?_
        exact ih _ _ _ _ _ _ e
      · refine xw_y hd0 11 [0] rfl ⟨h7, nt h8, trivial⟩ ?_
        exact ih _ _ _ _ _ _ e
set_option maxRecDepth 20000 in
set_option maxHeartbeats 4000000 in
theorem sX8_odds {LL : Nat} {xs : Nat → Int32} {tx : List xh_T} {d : Nat} {A V : xM} {cu : Value} {A' V' : xM} {c' : Value} {r : Int64} {l1 l2 l3 l4 l5 : Int32} (hd : 67 ≤ d) (e : fX8_odds tx l1 l2 l3 l4 l5 A V cu = some (r, A', V', c')) : xe (xk_ro LL xs) d 103 [.ref 64, .int l1, .int l2, .int l3, .int l4, .int l5] (xh A V tx cu) (qL r (xh A' V' tx c')) := by
  obtain ⟨d, rfl⟩ : ∃ d1, d = d1 + 1 := ⟨d - 1, by omega⟩
  replace hd : 66 ≤ d := by omega
  have hd0 : 60 ≤ d := by omega
  refine xe_of (co := xk_103) (nl := 10) rfl rfl rfl ?_
  unfold fX8_odds at e
  rcases ite_ok e with ⟨h9, e⟩ | ⟨h9, e⟩
  · cases e
    exact xw_yr hd0 5 [1] rfl ⟨decide_eq_true h9, trivial⟩ ⟨rfl, rfl⟩
  · rcases ite_ok e with ⟨h10, e⟩ | ⟨h10, e⟩
    · cases e
      exact xw_yr hd0 15 [0, 1, 1] rfl ⟨nt h9, rfl, decide_eq_true h10, rfl, rfl, trivial⟩ ⟨rfl, rfl⟩
    · rcases ite_ok e with ⟨h11, e⟩ | ⟨h11, e⟩
      · cases e
        exact xw_yr hd0 20 [0, 0, 1, 1] rfl ⟨nt h9, rfl, nt h10, decide_eq_true h11, rfl, rfl, trivial⟩ ⟨rfl, rfl⟩
      · rcases ite_ok e with ⟨h12, e⟩ | ⟨h12, e⟩
        · cases e
          exact xw_yr hd0 23 [0, 0, 0, 1, 1] rfl ⟨nt h9, rfl, nt h10, nt h11, decide_eq_true h12, rfl, rfl, trivial⟩ ⟨rfl, rfl⟩
        · rcases ite_ok e with ⟨h13, e⟩ | ⟨h13, e⟩
          · cases e
            exact xw_yr hd0 29 [0, 0, 0, 0, 0, 1] rfl ⟨nt h9, rfl, nt h10, nt h11, nt h12, rfl, rfl, rfl, decide_eq_true h13, trivial⟩ ⟨rfl, rfl⟩
          · rcases ite_ok e with ⟨h14, e⟩ | ⟨h14, e⟩
            · rcases ite_ok e with ⟨h15, e⟩ | ⟨h15, e⟩
              · cases e
                exact xw_yr hd0 41 [0, 0, 0, 0, 0, 0, 1, 1, 1] rfl ⟨nt h9, rfl, nt h10, nt h11, nt h12, rfl, rfl, rfl, nt h13, rfl, decide_eq_true h14, decide_eq_true h15, rfl, rfl, trivial⟩ ⟨rfl, rfl⟩
              · rcases ite_ok e with ⟨h16, e⟩ | ⟨h16, e⟩
                · cases e
                  exact xw_yr hd0 44 [0, 0, 0, 0, 0, 0, 1, 0, 1, 1] rfl ⟨nt h9, rfl, nt h10, nt h11, nt h12, rfl, rfl, rfl, nt h13, rfl, decide_eq_true h14, nt h15, decide_eq_true h16, rfl, rfl, trivial⟩ ⟨rfl, rfl⟩
                · rcases ite_ok e with ⟨h17, e⟩ | ⟨h17, e⟩
                  · cases e
                    exact xw_yr hd0 53 [0, 0, 0, 0, 0, 0, 1, 0, 0, 0, 1, 1] rfl ⟨nt h9, rfl, nt h10, nt h11, nt h12, rfl, rfl, rfl, nt h13, rfl, decide_eq_true h14, nt h15, nt h16, rfl, rfl, decide_eq_true h17, rfl, rfl, trivial⟩ ⟨rfl, rfl⟩
                  · rcases ite_ok e with ⟨h18, e⟩ | ⟨h18, e⟩
                    · cases e
                      exact xw_yr hd0 57 [0, 0, 0, 0, 0, 0, 1, 0, 0, 0, 0, 1, 1] rfl ⟨nt h9, rfl, nt h10, nt h11, nt h12, rfl, rfl, rfl, nt h13, rfl, decide_eq_true h14, nt h15, nt h16, rfl, rfl, nt h17, decide_eq_true h18, rfl, rfl, trivial⟩ ⟨rfl, rfl⟩
                    · rcases ite_ok e with ⟨h19, e⟩ | ⟨h19, e⟩
                      · cases e
                        exact xw_yr hd0 60 [0, 0, 0, 0, 0, 0, 1, 0, 0, 0, 0, 0, 1, 1] rfl ⟨nt h9, rfl, nt h10, nt h11, nt h12, rfl, rfl, rfl, nt h13, rfl, decide_eq_true h14, nt h15, nt h16, rfl, rfl, nt h17, nt h18, decide_eq_true h19, rfl, rfl, trivial⟩ ⟨rfl, rfl⟩
                      · rcases ite_ok e with ⟨h20, e⟩ | ⟨h20, e⟩
                        · cases e
                          exact xw_yr hd0 68 [0, 0, 0, 0, 0, 0, 1, 0, 0, 0, 0, 0, 0, 0, 1, 1] rfl ⟨nt h9, rfl, nt h10, nt h11, nt h12, rfl, rfl, rfl, nt h13, rfl, decide_eq_true h14, nt h15, nt h16, rfl, rfl, nt h17, nt h18, nt h19, rfl, rfl, decide_eq_true h20, rfl, rfl, trivial⟩ ⟨rfl, rfl⟩
                        · rcases ite_ok e with ⟨h21, e⟩ | ⟨h21, e⟩
                          · cases e
                            exact xw_yr hd0 77 [0, 0, 0, 0, 0, 0, 1, 0, 0, 0, 0, 0, 0, 0, 0, 1, 1, 1] rfl ⟨nt h9, rfl, nt h10, nt h11, nt h12, rfl, rfl, rfl, nt h13, rfl, decide_eq_true h14, nt h15, nt h16, rfl, rfl, nt h17, nt h18, nt h19, rfl, rfl, nt h20, rfl, decide_eq_true h21, rfl, rfl, rfl, rfl, trivial⟩ ⟨rfl, rfl⟩
                          · rcases ite_ok e with ⟨h22, e⟩ | ⟨h22, e⟩
                            · cases e
                              exact xw_yr hd0 80 [0, 0, 0, 0, 0, 0, 1, 0, 0, 0, 0, 0, 0, 0, 0, 0, 1, 1, 1] rfl ⟨nt h9, rfl, nt h10, nt h11, nt h12, rfl, rfl, rfl, nt h13, rfl, decide_eq_true h14, nt h15, nt h16, rfl, rfl, nt h17, nt h18, nt h19, rfl, rfl, nt h20, rfl, nt h21, decide_eq_true h22, rfl, rfl, rfl, rfl, trivial⟩ ⟨rfl, rfl⟩
                            · rcases ite_ok e with ⟨h23, e⟩ | ⟨h23, e⟩
                              · cases e
                                exact xw_yr hd0 86 [0, 0, 0, 0, 0, 0, 1, 0, 0, 0, 0, 0, 0, 0, 0, 0, 0, 0, 1, 1] rfl ⟨nt h9, rfl, nt h10, nt h11, nt h12, rfl, rfl, rfl, nt h13, rfl, decide_eq_true h14, nt h15, nt h16, rfl, rfl, nt h17, nt h18, nt h19, rfl, rfl, nt h20, rfl, nt h21, nt h22, rfl, rfl, rfl, decide_eq_true h23, rfl, rfl, trivial⟩ ⟨rfl, rfl⟩
                              · rcases ite_ok e with ⟨h24, e⟩ | ⟨h24, e⟩
                                · refine xw_y hd0 100 [0, 0, 0, 0, 0, 0, 1, 0, 0, 0, 0, 0, 0, 0, 0, 0, 0, 0, 0, 0, 1] rfl ⟨nt h9, rfl, nt h10, nt h11, nt h12, rfl, rfl, rfl, nt h13, rfl, decide_eq_true h14, nt h15, nt h16, rfl, rfl, nt h17, nt h18, nt h19, rfl, rfl, nt h20, rfl, nt h21, nt h22, rfl, rfl, rfl, nt h23, rfl, rfl, decide_eq_true h24, rfl, rfl, trivial⟩ ?_
                                  refine slX8_odds_L94 hd ?_ FU _ _ _ _ _ _ e
                                  · intro l8_25 z26 z27 z28 z29 z30 z31 z32 A33 V34 c35 e
                                    refine xw_y hd0 3 [] rfl trivial ?_
                                    obtain ⟨x36, e37, e⟩ := bI_ok e
                                    refine xw_call (k := 130) (j := 2) rfl (fun F => xm_c_ok (y_c_ok rfl) F) rfl rfl rfl (sX8_commonDivisor (by omega) e37) ?_
                                    rintro _ _ ⟨rfl, rfl⟩
                                    rcases ite_ok e with ⟨h38, e⟩ | ⟨h38, e⟩
                                    · obtain ⟨h39, e⟩ := bC_ok e
                                      cases e
                                      exact xw_yr hd0 11 [0] rfl ⟨nnt h38, h39, trivial⟩ ⟨rfl, rfl⟩
                                    · obtain ⟨h40, e⟩ := bC_ok e
                                      cases e
                                      exact xw_yr hd0 10 [1] rfl ⟨nt h38, h40, trivial⟩ ⟨rfl, rfl⟩
                                · rcases ite_ok e with ⟨h41, e⟩ | ⟨h41, e⟩
                                  · refine xw_y hd0 103 [0, 0, 0, 0, 0, 0, 1, 0, 0, 0, 0, 0, 0, 0, 0, 0, 0, 0, 0, 0, 0, 1] rfl ⟨nt h9, rfl, nt h10, nt h11, nt h12, rfl, rfl, rfl, nt h13, rfl, decide_eq_true h14, nt h15, nt h16, rfl, rfl, nt h17, nt h18, nt h19, rfl, rfl, nt h20, rfl, nt h21, nt h22, rfl, rfl, rfl, nt h23, rfl, rfl, nt h24, decide_eq_true h41, rfl, rfl, trivial⟩ ?_
                                    refine slX8_odds_L94 hd ?_ FU _ _ _ _ _ _ e
                                    · intro l8_42 z43 z44 z45 z46 z47 z48 z49 A50 V51 c52 e
                                      refine xw_y hd0 3 [] rfl trivial ?_
                                      obtain ⟨x53, e54, e⟩ := bI_ok e
                                      refine xw_call (k := 130) (j := 2) rfl (fun F => xm_c_ok (y_c_ok rfl) F) rfl rfl rfl (sX8_commonDivisor (by omega) e54) ?_
                                      rintro _ _ ⟨rfl, rfl⟩
                                      rcases ite_ok e with ⟨h55, e⟩ | ⟨h55, e⟩
                                      · obtain ⟨h56, e⟩ := bC_ok e
                                        cases e
                                        exact xw_yr hd0 11 [0] rfl ⟨nnt h55, h56, trivial⟩ ⟨rfl, rfl⟩
                                      · obtain ⟨h57, e⟩ := bC_ok e
                                        cases e
                                        exact xw_yr hd0 10 [1] rfl ⟨nt h55, h57, trivial⟩ ⟨rfl, rfl⟩
                                  · cases e
                                    exact xw_yr hd0 92 [0, 0, 0, 0, 0, 0, 1, 0, 0, 0, 0, 0, 0, 0, 0, 0, 0, 0, 0, 0, 0, 0] rfl ⟨nt h9, rfl, nt h10, nt h11, nt h12, rfl, rfl, rfl, nt h13, rfl, decide_eq_true h14, nt h15, nt h16, rfl, rfl, nt h17, nt h18, nt h19, rfl, rfl, nt h20, rfl, nt h21, nt h22, rfl, rfl, rfl, nt h23, rfl, rfl, nt h24, nt h41, trivial⟩ ⟨rfl, rfl⟩
            · cases e
              exact xw_yr hd0 34 [0, 0, 0, 0, 0, 0, 0] rfl ⟨nt h9, rfl, nt h10, nt h11, nt h12, rfl, rfl, rfl, nt h13, rfl, nt h14, trivial⟩ ⟨rfl, rfl⟩
set_option maxRecDepth 20000 in
set_option maxHeartbeats 4000000 in
theorem sX8_image {LL : Nat} {xs : Nat → Int32} {tx : List xh_T} {d : Nat} {A V : xM} {cu : Value} {A' V' : xM} {c' : Value} {r : Int32} (hd : 63 ≤ d) (e : fX8_image A V cu = some (r, A', V', c')) : xe (xk_ro LL xs) d 104 [.ref 64] (xh A V tx cu) (qI r (xh A' V' tx c')) := by
  obtain ⟨d, rfl⟩ : ∃ d1, d = d1 + 1 := ⟨d - 1, by omega⟩
  replace hd : 62 ≤ d := by omega
  have hd0 : 60 ≤ d := by omega
  refine xe_of (co := xk_104) (nl := 1) rfl rfl rfl ?_
  unfold fX8_image at e
  refine xw_y hd0 9 [] rfl ⟨rfl, trivial⟩ ?_
  obtain ⟨A2, V3, c4, e5, e⟩ := bS_ok e
  refine xw_call (k := 5) (j := 2) rfl (fun F => xm_c_ok (y_c_ok rfl) F) rfl rfl rfl (sX1_take_116_73 (by omega) e5) ?_
  rintro _ _ ⟨rfl, rfl⟩
  cases e
  exact xw_yr hd0 45 [] rfl ⟨rfl, rfl, rfl, rfl, rfl, rfl, rfl, trivial⟩ ⟨rfl, rfl⟩
set_option maxRecDepth 20000 in
set_option maxHeartbeats 4000000 in
theorem sX8_back {LL : Nat} {xs : Nat → Int32} {tx : List xh_T} {d : Nat} {A V : xM} {cu : Value} {A' V' : xM} {c' : Value} {r : Int32} (hd : 62 ≤ d) (e : fX8_back A V cu = some (r, A', V', c')) : xe (xk_ro LL xs) d 105 [.ref 64] (xh A V tx cu) (qI r (xh A' V' tx c')) := by
  obtain ⟨d, rfl⟩ : ∃ d1, d = d1 + 1 := ⟨d - 1, by omega⟩
  replace hd : 61 ≤ d := by omega
  have hd0 : 60 ≤ d := by omega
  refine xe_of (co := xk_105) (nl := 1) rfl rfl rfl ?_
  unfold fX8_back at e
  rcases ite_ok e with ⟨h1, e⟩ | ⟨h1, e⟩
  · cases e
    exact xw_yr hd0 7 [0] rfl ⟨nnt h1, rfl, trivial⟩ ⟨rfl, rfl⟩
  · refine xw_y hd0 12 [1] rfl ⟨nt h1, trivial⟩ ?_
    obtain ⟨A3, V4, c5, e6, e⟩ := bS_ok e
    refine xw_call (k := 6) (j := 3) rfl (fun F => xm_c_ok (y_c_ok rfl) F) rfl rfl rfl (sX1_takeOf_73_116 (by omega) e6) ?_
    rintro _ _ ⟨rfl, rfl⟩
    cases e
    exact xw_yr hd0 35 [] rfl ⟨rfl, rfl, rfl, rfl, rfl, trivial⟩ ⟨rfl, rfl⟩
set_option maxRecDepth 20000 in
set_option maxHeartbeats 4000000 in
theorem sX8_sheet {LL : Nat} {xs : Nat → Int32} {tx : List xh_T} {d : Nat} {A V : xM} {cu : Value} {A' V' : xM} {c' : Value} {r : Int32} {l1 l2 l3 : Int32} (hd : 63 ≤ d) (e : fX8_sheet l1 l2 l3 A V cu = some (r, A', V', c')) : xe (xk_ro LL xs) d 106 [.ref 64, .int l1, .int l2, .int l3] (xh A V tx cu) (qI r (xh A' V' tx c')) := by
  obtain ⟨d, rfl⟩ : ∃ d1, d = d1 + 1 := ⟨d - 1, by omega⟩
  replace hd : 62 ≤ d := by omega
  have hd0 : 60 ≤ d := by omega
  refine xe_of (co := xk_106) (nl := 6) rfl rfl rfl ?_
  unfold fX8_sheet at e
  rcases ite_ok e with ⟨h1, e⟩ | ⟨h1, e⟩
  · cases e
    exact xw_yr hd0 10 [1, 1] rfl ⟨decide_eq_true h1, rfl, rfl, rfl, trivial⟩ ⟨rfl, rfl⟩
  · rcases ite_ok e with ⟨h2, e⟩ | ⟨h2, e⟩
    · cases e
      exact xw_yr hd0 13 [0, 1, 1] rfl ⟨nt h1, decide_eq_true h2, rfl, rfl, rfl, trivial⟩ ⟨rfl, rfl⟩
    · rcases ite_ok e with ⟨h3, e⟩ | ⟨h3, e⟩
      · cases e
        exact xw_yr hd0 17 [0, 0, 0, 1] rfl ⟨nt h1, nt h2, rfl, rfl, decide_eq_true h3, rfl, trivial⟩ ⟨rfl, rfl⟩
      · rcases ite_ok e with ⟨h4, e⟩ | ⟨h4, e⟩
        · rcases ite_ok e with ⟨h5, e⟩ | ⟨h5, e⟩
          · refine xw_y hd0 29 [0, 0, 0, 0, 1, 1, 1, 1] rfl ⟨nt h1, nt h2, rfl, rfl, nt h3, decide_eq_true h4, decide_eq_true h5, rfl, rfl, trivial⟩ ?_
            obtain ⟨h6, e⟩ := bC_ok e
            refine st_aal_113 h6 rfl ?_
            refine xw_y hd0 8 [1] rfl ⟨rfl, trivial⟩ ?_
            obtain ⟨A8, V9, c10, e11, e⟩ := bS_ok e
            refine xw_call (k := 49) (j := 3) rfl (fun F => st_recv_sheet (sh_of h6) rfl F) rfl rfl rfl (sX5_become (sh_of h6) (by omega) e11) ?_
            rintro _ _ ⟨rfl, rfl⟩
            cases e
            exact xw_yr hd0 3 [] rfl ⟨rfl, trivial⟩ ⟨rfl, rfl⟩
          · rcases ite_ok e with ⟨h12, e⟩ | ⟨h12, e⟩
            · rcases ite_ok e with ⟨h13, e⟩ | ⟨h13, e⟩
              · refine xw_y hd0 35 [0, 0, 0, 0, 1, 0, 0, 1, 0, 1] rfl ⟨nt h1, nt h2, rfl, rfl, nt h3, decide_eq_true h4, nt h5, rfl, decide_eq_true h12, rfl, decide_eq_true h13, trivial⟩ ?_
                obtain ⟨h14, e⟩ := bC_ok e
                refine st_aal_113 h14 rfl ?_
                refine xw_y hd0 9 [0] rfl ⟨rfl, trivial⟩ ?_
                obtain ⟨A16, V17, c18, e19, e⟩ := bS_ok e
                refine xw_call (k := 49) (j := 3) rfl (fun F => st_recv_sheet (sh_of h14) rfl F) rfl rfl rfl (sX5_become (sh_of h14) (by omega) e19) ?_
                rintro _ _ ⟨rfl, rfl⟩
                cases e
                exact xw_yr hd0 3 [] rfl ⟨rfl, trivial⟩ ⟨rfl, rfl⟩
              · cases e
                exact xw_yr hd0 35 [0, 0, 0, 0, 1, 0, 0, 1, 0, 0] rfl ⟨nt h1, nt h2, rfl, rfl, nt h3, decide_eq_true h4, nt h5, rfl, decide_eq_true h12, rfl, nt h13, rfl, trivial⟩ ⟨rfl, rfl⟩
            · cases e
              exact xw_yr hd0 31 [0, 0, 0, 0, 1, 0, 0, 0] rfl ⟨nt h1, nt h2, rfl, rfl, nt h3, decide_eq_true h4, nt h5, rfl, nt h12, rfl, trivial⟩ ⟨rfl, rfl⟩
        · cases e
          exact xw_yr hd0 20 [0, 0, 0, 0, 0] rfl ⟨nt h1, nt h2, rfl, rfl, nt h3, nt h4, rfl, trivial⟩ ⟨rfl, rfl⟩
set_option maxRecDepth 20000 in
set_option maxHeartbeats 4000000 in
theorem sX8_copy {LL : Nat} {xs : Nat → Int32} {tx : List xh_T} {d : Nat} {A V : xM} {cu : Value} {A' V' : xM} {c' : Value} {r : Int32} {l1 l2 l3 l4 l5 : Int32} (hd : 62 ≤ d) (e : fX8_copy l1 l2 l3 l4 l5 A V cu = some (r, A', V', c')) : xe (xk_ro LL xs) d 108 [.ref 64, .int l1, .int l2, .int l3, .int l4, .int l5] (xh A V tx cu) (qI r (xh A' V' tx c')) := by
  obtain ⟨d, rfl⟩ : ∃ d1, d = d1 + 1 := ⟨d - 1, by omega⟩
  replace hd : 61 ≤ d := by omega
  have hd0 : 60 ≤ d := by omega
  refine xe_of (co := xk_108) (nl := 8) rfl rfl rfl ?_
  unfold fX8_copy at e
  rcases ite_ok e with ⟨h1, e⟩ | ⟨h1, e⟩
  · cases e
    exact xw_yr hd0 10 [1, 1] rfl ⟨decide_eq_true h1, rfl, rfl, rfl, trivial⟩ ⟨rfl, rfl⟩
  · rcases ite_ok e with ⟨h2, e⟩ | ⟨h2, e⟩
    · cases e
      exact xw_yr hd0 13 [0, 1, 1] rfl ⟨nt h1, decide_eq_true h2, rfl, rfl, rfl, trivial⟩ ⟨rfl, rfl⟩
    · rcases ite_ok e with ⟨h3, e⟩ | ⟨h3, e⟩
      · cases e
        exact xw_yr hd0 21 [0, 0, 0, 1, 0] rfl ⟨nt h1, nt h2, rfl, rfl, decide_eq_true h3, rfl, rfl, rfl, trivial⟩ ⟨rfl, rfl⟩
      · rcases ite_ok e with ⟨h4, e⟩ | ⟨h4, e⟩
        · cases e
          exact xw_yr hd0 24 [0, 0, 0, 0, 1, 0] rfl ⟨nt h1, nt h2, rfl, rfl, nt h3, decide_eq_true h4, rfl, rfl, rfl, trivial⟩ ⟨rfl, rfl⟩
        · refine xw_y hd0 24 [0, 0, 0, 0, 0, 1] rfl ⟨nt h1, nt h2, rfl, rfl, nt h3, nt h4, rfl, rfl, trivial⟩ ?_
          obtain ⟨h6, e⟩ := bC_ok e
          rcases ite_ok e with ⟨h7, e⟩ | ⟨h7, e⟩
          · refine xw_call (k := 120) (j := 2) rfl (fun F => xm_c_ok (y_c_ok rfl) F) rfl rfl rfl (sX8_rowOf_0 (by omega) h6 h7) ?_
            rintro _ _ ⟨rfl, rfl⟩
            refine xw_y hd0 3 [] rfl trivial ?_
            obtain ⟨h9, e⟩ := bC_ok e
            rcases ite_ok e with ⟨h10, e⟩ | ⟨h10, e⟩
            · refine xw_call (k := 120) (j := 2) rfl (fun F => xm_c_ok (y_c_ok rfl) F) rfl rfl rfl (sX8_rowOf_0 (by omega) h9 h10) ?_
              rintro _ _ ⟨rfl, rfl⟩
              cases e
              exact xw_yr hd0 6 [] rfl ⟨rfl, trivial⟩ ⟨rfl, rfl⟩
            · refine xw_call (k := 120) (j := 2) rfl (fun F => xm_c_ok (y_c_ok rfl) F) rfl rfl rfl (sX8_rowOf_1 (by omega) h9 h10) ?_
              rintro _ _ ⟨rfl, rfl⟩
              cases e
              exact xw_yr hd0 6 [] rfl ⟨rfl, trivial⟩ ⟨rfl, rfl⟩
          · refine xw_call (k := 120) (j := 2) rfl (fun F => xm_c_ok (y_c_ok rfl) F) rfl rfl rfl (sX8_rowOf_1 (by omega) h6 h7) ?_
            rintro _ _ ⟨rfl, rfl⟩
            refine xw_y hd0 3 [] rfl trivial ?_
            obtain ⟨h12, e⟩ := bC_ok e
            rcases ite_ok e with ⟨h13, e⟩ | ⟨h13, e⟩
            · refine xw_call (k := 120) (j := 2) rfl (fun F => xm_c_ok (y_c_ok rfl) F) rfl rfl rfl (sX8_rowOf_0 (by omega) h12 h13) ?_
              rintro _ _ ⟨rfl, rfl⟩
              cases e
              exact xw_yr hd0 8 [] rfl ⟨rfl, trivial⟩ ⟨rfl, rfl⟩
            · refine xw_call (k := 120) (j := 2) rfl (fun F => xm_c_ok (y_c_ok rfl) F) rfl rfl rfl (sX8_rowOf_1 (by omega) h12 h13) ?_
              rintro _ _ ⟨rfl, rfl⟩
              refine xw_y hd0 6 [] rfl trivial ?_
              refine st_get_sheet_1 (sh_of h6) rfl ?_
              refine xw_y hd0 1 [] rfl trivial ?_
              refine st_get_sheet_1 (sh_of h12) rfl ?_
              rcases ite_ok e with ⟨h14, e⟩ | ⟨h14, e⟩
              · refine xw_y hd0 4 [1] rfl ⟨decide_eq_true h14, trivial⟩ ?_
                obtain ⟨x15, e16, e⟩ := bI_ok e
                refine xw_call (k := 51) (j := 3) rfl (fun F => st_recv_sheet (sh_of h6) rfl F) rfl rfl rfl (sX5_hasRange (sh_of h6) (by omega) e16) ?_
                rintro _ _ ⟨rfl, rfl⟩
                rcases ite_ok e with ⟨h17, e⟩ | ⟨h17, e⟩
                · cases e
                  exact xw_yr hd0 4 [1] rfl ⟨decide_eq_true h17, rfl, trivial⟩ ⟨rfl, rfl⟩
                · refine xw_y hd0 4 [0] rfl ⟨nt h17, trivial⟩ ?_
                  obtain ⟨x18, e19, e⟩ := bI_ok e
                  refine xw_call (k := 51) (j := 3) rfl (fun F => st_recv_sheet (sh_of h12) rfl F) rfl rfl rfl (sX5_hasRange (sh_of h12) (by omega) e19) ?_
                  rintro _ _ ⟨rfl, rfl⟩
                  rcases ite_ok e with ⟨h20, e⟩ | ⟨h20, e⟩
                  · cases e
                    exact xw_yr hd0 4 [0] rfl ⟨nnt h20, rfl, trivial⟩ ⟨rfl, rfl⟩
                  · refine xw_y hd0 2 [1] rfl ⟨nt h20, trivial⟩ ?_
                    refine st_get_sheet_0 (sh_of h6) rfl ?_
                    refine xw_y hd0 2 [] rfl trivial ?_
                    refine st_get_sheet_0 (sh_of h12) rfl ?_
                    refine xw_y hd0 2 [] rfl trivial ?_
                    obtain ⟨h21, e⟩ := bC_ok e
                    refine st_cpy_cells (sh_of h6) (sh_of h12) h21 rfl rfl ?_
                    cases e
                    exact xw_yr hd0 3 [] rfl ⟨rfl, trivial⟩ ⟨rfl, rfl⟩
              · cases e
                exact xw_yr hd0 4 [0] rfl ⟨nt h14, rfl, trivial⟩ ⟨rfl, rfl⟩
set_option maxRecDepth 20000 in
set_option maxHeartbeats 4000000 in
theorem slX8_peopleBy_L63 {LL : Nat} {xs : Nat → Int32} {tx : List xh_T} {d : Nat} {A' V' : xM} {c' : Value} {r : Int32} {l5 : Nat} {l3 : Int32} {l4 : Int32} {ex : Int32 → xM → xM → Value → Option (Int32 × xS)} (hl5 : isSh l5) (hd : 63 ≤ d) (hex : ∀ (y6 : Int32) (w0 w1 w2 w3 w4 w5 w7 w8 : Option Value) (A V : xM) (cu : Value), ex y6 A V cu = some (r, A', V', c') → xw (xk_ro LL xs) d xk_109 136 [w0, w1, w2, w3, w4, w5, some (.int y6), w7, w8] [] (xh A V tx cu) (qI r (xh A' V' tx c'))) : ∀ (n : Nat) (l6 : Int32) (l7 : Int32) (z1 z2 z8 : Option Value) (A V : xM) (cu : Value), fX8_peopleBy_L63 l5 l3 l4 ex n l6 l7 A V cu = some (r, A', V', c') → xw (xk_ro LL xs) d xk_109 63 [some (.ref 64), z1, z2, some (.int l3), some (.int l4), some (.ref l5), some (.int l6), some (.int l7), z8] [] (xh A V tx cu) (qI r (xh A' V' tx c')) := by
  have hd0 : 60 ≤ d := by omega
  intro n
  induction n with
  | zero =>
    intro l6 l7 z1 z2 z8 A V cu e
    rw [fX8_peopleBy_L63] at e
    cases e
  | succ n ih =>
    intro l6 l7 z1 z2 z8 A V cu e
    rw [fX8_peopleBy_L63] at e
    rcases ite_ok e with ⟨h1, e⟩ | ⟨h1, e⟩
    · refine xw_y hd0 3 [1] rfl ⟨decide_eq_true h1, trivial⟩ ?_
      exact hex _ _ _ _ _ _ _ _ _ _ _ _ e
    · refine xw_y hd0 12 [0] rfl ⟨nt h1, trivial⟩ ?_
      obtain ⟨x2, e3, e⟩ := bI_ok e
      refine xw_call (k := 51) (j := 3) rfl (fun F => st_recv_sheet hl5 rfl F) rfl rfl rfl (sX5_hasRange hl5 (by omega) e3) ?_
      rintro _ _ ⟨rfl, rfl⟩
      rcases ite_ok e with ⟨h4, e⟩ | ⟨h4, e⟩
      · cases e
        exact xw_yr hd0 4 [0] rfl ⟨nnt h4, rfl, trivial⟩ ⟨rfl, rfl⟩
      · refine xw_y hd0 5 [1] rfl ⟨nt h4, trivial⟩ ?_
        obtain ⟨x5, e6, e⟩ := bI_ok e
        refine xw_call (k := 52) (j := 2) rfl (fun F => st_recv_sheet hl5 rfl F) rfl rfl rfl (sX5_at hl5 (by omega) e6) ?_
        rintro _ _ ⟨rfl, rfl⟩
        refine xw_y hd0 4 [] rfl trivial ?_
        obtain ⟨x7, e8, e⟩ := bI_ok e
        refine xw_call (k := 52) (j := 2) rfl (fun F => st_recv_sheet hl5 rfl F) rfl rfl rfl (sX5_at hl5 (by omega) e8) ?_
        rintro _ _ ⟨rfl, rfl⟩
        refine xw_y hd0 4 [] rfl trivial ?_
        obtain ⟨x9, e10, e⟩ := bI_ok e
        refine xw_call (k := 52) (j := 2) rfl (fun F => st_recv_sheet hl5 rfl F) rfl rfl rfl (sX5_at hl5 (by omega) e10) ?_
        rintro _ _ ⟨rfl, rfl⟩
        obtain ⟨x11, A12, V13, c14, e15, e⟩ := bX_ok e
        refine xw_call (k := 9) (j := 4) rfl (fun F => xm_c_ok (y_c_ok rfl) F) rfl rfl rfl (sX2_come (by omega) e15) ?_
        rintro _ _ ⟨rfl, rfl⟩
        rcases ite_ok e with ⟨h16, e⟩ | ⟨h16, e⟩
        · refine xw_y hd0 3 [1] rfl ⟨decide_eq_true h16, trivial⟩ ?_
          exact ih _ _ _ _ _ _ _ _ e
        · refine xw_y hd0 4 [0] rfl ⟨nt h16, trivial⟩ ?_
          exact ih _ _ _ _ _ _ _ _ e
set_option maxRecDepth 20000 in
set_option maxHeartbeats 4000000 in
theorem sX8_peopleBy {LL : Nat} {xs : Nat → Int32} {tx : List xh_T} {d : Nat} {A V : xM} {cu : Value} {A' V' : xM} {c' : Value} {r : Int32} {l1 l2 l3 l4 : Int32} (hd : 64 ≤ d) (e : fX8_peopleBy l1 l2 l3 l4 A V cu = some (r, A', V', c')) : xe (xk_ro LL xs) d 109 [.ref 64, .int l1, .int l2, .int l3, .int l4] (xh A V tx cu) (qI r (xh A' V' tx c')) := by
  obtain ⟨d, rfl⟩ : ∃ d1, d = d1 + 1 := ⟨d - 1, by omega⟩
  replace hd : 63 ≤ d := by omega
  have hd0 : 60 ≤ d := by omega
  refine xe_of (co := xk_109) (nl := 9) rfl rfl rfl ?_
  unfold fX8_peopleBy at e
  rcases ite_ok e with ⟨h17, e⟩ | ⟨h17, e⟩
  · cases e
    exact xw_yr hd0 10 [1, 1] rfl ⟨decide_eq_true h17, rfl, rfl, rfl, trivial⟩ ⟨rfl, rfl⟩
  · rcases ite_ok e with ⟨h18, e⟩ | ⟨h18, e⟩
    · cases e
      exact xw_yr hd0 13 [0, 1, 1] rfl ⟨nt h17, decide_eq_true h18, rfl, rfl, rfl, trivial⟩ ⟨rfl, rfl⟩
    · rcases ite_ok e with ⟨h19, e⟩ | ⟨h19, e⟩
      · cases e
        exact xw_yr hd0 16 [0, 0, 0, 1] rfl ⟨nt h17, nt h18, rfl, rfl, decide_eq_true h19, rfl, trivial⟩ ⟨rfl, rfl⟩
      · rcases ite_ok e with ⟨h20, e⟩ | ⟨h20, e⟩
        · cases e
          exact xw_yr hd0 19 [0, 0, 0, 0, 1] rfl ⟨nt h17, nt h18, rfl, rfl, nt h19, decide_eq_true h20, rfl, trivial⟩ ⟨rfl, rfl⟩
        · rcases ite_ok e with ⟨h21, e⟩ | ⟨h21, e⟩
          · cases e
            exact xw_yr hd0 21 [0, 0, 0, 0, 0, 1] rfl ⟨nt h17, nt h18, rfl, rfl, nt h19, nt h20, decide_eq_true h21, rfl, trivial⟩ ⟨rfl, rfl⟩
          · rcases ite_ok e with ⟨h22, e⟩ | ⟨h22, e⟩
            · refine xw_y hd0 23 [0, 0, 0, 0, 0, 0, 1] rfl ⟨nt h17, nt h18, rfl, rfl, nt h19, nt h20, nt h21, decide_eq_true h22, trivial⟩ ?_
              obtain ⟨h24, e⟩ := bC_ok e
              rcases ite_ok e with ⟨h25, e⟩ | ⟨h25, e⟩
              · refine xw_call (k := 120) (j := 2) rfl (fun F => xm_c_ok (y_c_ok rfl) F) rfl rfl rfl (sX8_rowOf_0 (by omega) h24 h25) ?_
                rintro _ _ ⟨rfl, rfl⟩
                cases e
                exact xw_yr hd0 6 [] rfl ⟨rfl, trivial⟩ ⟨rfl, rfl⟩
              · refine xw_call (k := 120) (j := 2) rfl (fun F => xm_c_ok (y_c_ok rfl) F) rfl rfl rfl (sX8_rowOf_1 (by omega) h24 h25) ?_
                rintro _ _ ⟨rfl, rfl⟩
                refine xw_y hd0 4 [] rfl trivial ?_
                refine st_get_sheet_1 (sh_of h24) rfl ?_
                rcases ite_ok e with ⟨h26, e⟩ | ⟨h26, e⟩
                · refine xw_y hd0 6 [1] rfl ⟨decide_eq_true h26, trivial⟩ ?_
                  refine slX8_peopleBy_L63 (sh_of h24) hd ?_ FU _ _ _ _ _ _ _ _ e
                  · intro l6_27 z28 z29 z30 z31 z32 z33 z34 z35 A36 V37 c38 e
                    cases e
                    exact xw_yr hd0 3 [] rfl ⟨rfl, trivial⟩ ⟨rfl, rfl⟩
                · cases e
                  exact xw_yr hd0 5 [0] rfl ⟨nt h26, rfl, trivial⟩ ⟨rfl, rfl⟩
            · cases e
              exact xw_yr hd0 24 [0, 0, 0, 0, 0, 0, 0] rfl ⟨nt h17, nt h18, rfl, rfl, nt h19, nt h20, nt h21, nt h22, rfl, trivial⟩ ⟨rfl, rfl⟩
set_option maxRecDepth 20000 in
set_option maxHeartbeats 4000000 in
theorem sX8_taken {LL : Nat} {xs : Nat → Int32} {tx : List xh_T} {d : Nat} {A V : xM} {cu : Value} {r : Int32} {l1 l2 : Int32} (hd : 62 ≤ d) (e : fX8_taken l1 l2 A V = some r) : xe (xk_ro LL xs) d 110 [.ref 64, .int l1, .int l2] (xh A V tx cu) (qI r (xh A V tx cu)) := by
  obtain ⟨d, rfl⟩ : ∃ d1, d = d1 + 1 := ⟨d - 1, by omega⟩
  replace hd : 61 ≤ d := by omega
  have hd0 : 60 ≤ d := by omega
  refine xe_of (co := xk_110) (nl := 4) rfl rfl rfl ?_
  unfold fX8_taken at e
  rcases ite_ok e with ⟨h1, e⟩ | ⟨h1, e⟩
  · cases e
    exact xw_yr hd0 5 [1] rfl ⟨decide_eq_true h1, rfl, trivial⟩ ⟨rfl, rfl⟩
  · rcases ite_ok e with ⟨h2, e⟩ | ⟨h2, e⟩
    · rcases ite_ok e with ⟨h3, e⟩ | ⟨h3, e⟩
      · cases e
        exact xw_yr hd0 10 [0, 1, 1] rfl ⟨nt h1, decide_eq_true h2, decide_eq_true h3, rfl, trivial⟩ ⟨rfl, rfl⟩
      · rcases ite_ok e with ⟨h4, e⟩ | ⟨h4, e⟩
        · rcases ite_ok e with ⟨h5, e⟩ | ⟨h5, e⟩
          · rcases ite_ok e with ⟨h6, e⟩ | ⟨h6, e⟩
            · cases e
              exact xw_yr hd0 29 [0, 1, 0, 1, 1, 1, 0] rfl ⟨nt h1, decide_eq_true h2, nt h3, decide_eq_true h4, decide_eq_true h5, decide_eq_true h6, rfl, rfl, rfl, trivial⟩ ⟨rfl, rfl⟩
            · rcases ite_ok e with ⟨h7, e⟩ | ⟨h7, e⟩
              · cases e
                exact xw_yr hd0 34 [0, 1, 0, 1, 1, 0, 1, 0] rfl ⟨nt h1, decide_eq_true h2, nt h3, decide_eq_true h4, decide_eq_true h5, nt h6, decide_eq_true h7, rfl, rfl, rfl, trivial⟩ ⟨rfl, rfl⟩
              · rcases ite_ok e with ⟨h8, e⟩ | ⟨h8, e⟩
                · cases e
                  exact xw_yr hd0 37 [0, 1, 0, 1, 1, 0, 0, 1, 0] rfl ⟨nt h1, decide_eq_true h2, nt h3, decide_eq_true h4, decide_eq_true h5, nt h6, nt h7, decide_eq_true h8, rfl, rfl, rfl, trivial⟩ ⟨rfl, rfl⟩
                · refine xw_y hd0 38 [0, 1, 0, 1, 1, 0, 0, 0, 1] rfl ⟨nt h1, decide_eq_true h2, nt h3, decide_eq_true h4, decide_eq_true h5, nt h6, nt h7, nt h8, rfl, rfl, trivial⟩ ?_
                  obtain ⟨x9, e10, e⟩ := bI_ok e
                  refine xw_call (k := 13) (j := 3) rfl (fun F => xm_c_ok (y_c_ok rfl) F) rfl rfl rfl (sX2_isOf (by omega) e10) ?_
                  rintro _ _ ⟨rfl, rfl⟩
                  rcases ite_ok e with ⟨h11, e⟩ | ⟨h11, e⟩
                  · cases e
                    exact xw_yr hd0 4 [1] rfl ⟨decide_eq_true h11, rfl, trivial⟩ ⟨rfl, rfl⟩
                  · cases e
                    exact xw_yr hd0 5 [0] rfl ⟨nt h11, rfl, trivial⟩ ⟨rfl, rfl⟩
          · rcases ite_ok e with ⟨h12, e⟩ | ⟨h12, e⟩
            · cases e
              exact xw_yr hd0 29 [0, 1, 0, 1, 0, 0, 1, 0] rfl ⟨nt h1, decide_eq_true h2, nt h3, decide_eq_true h4, nt h5, nt h3, decide_eq_true h12, rfl, rfl, rfl, trivial⟩ ⟨rfl, rfl⟩
            · rcases ite_ok e with ⟨h13, e⟩ | ⟨h13, e⟩
              · obtain ⟨h14, e⟩ := bC_ok e
                cases e
                exact xw_yr hd0 39 [0, 1, 0, 1, 0, 0, 0, 0, 1, 0] rfl ⟨nt h1, decide_eq_true h2, nt h3, decide_eq_true h4, nt h5, nt h3, nt h12, nt h5, rfl, rfl, nnt h13, h14, rfl, trivial⟩ ⟨rfl, rfl⟩
              · cases e
                exact xw_yr hd0 35 [0, 1, 0, 1, 0, 0, 0, 0, 1, 1] rfl ⟨nt h1, decide_eq_true h2, nt h3, decide_eq_true h4, nt h5, nt h3, nt h12, nt h5, rfl, rfl, nt h13, rfl, trivial⟩ ⟨rfl, rfl⟩
        · cases e
          exact xw_yr hd0 13 [0, 1, 0, 0] rfl ⟨nt h1, decide_eq_true h2, nt h3, nt h4, rfl, trivial⟩ ⟨rfl, rfl⟩
    · cases e
      exact xw_yr hd0 8 [0, 0] rfl ⟨nt h1, nt h2, rfl, trivial⟩ ⟨rfl, rfl⟩
