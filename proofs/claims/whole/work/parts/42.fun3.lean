def fX4_add (l1 : Int32) (A V : xM) (cu : Value) : Option (xS) := if (160 : Int32) ≤ (V 95 1) then (some (A, V, cu)) else (bC (xq_in (V 95 1) 160) (some ((aw A 96 (V 95 1) l1), (up2 V 95 1 ((V 95 1) + (1 : Int32))), cu)))
def fX4_spells_L20 (l1 : Nat) (A V : xM) (ex : Option (Int32)) : Nat → Int32 → Option (Int32)
  | 0, _ => none
  | n + 1, l2 => if (slen l1) ≤ l2 then (ex) else (bC (xq_in ((V 95 6) + l2) 160) (bC (xq_in l2 (xq_len.getD (l1 - 3) 0)) (if (A 96 ((V 95 6) + l2).toNatClampNeg) = (schr l1 l2.toNatClampNeg) then (fX4_spells_L20 l1 A V ex n (l2 + Int32.ofInt 1)) else (some (0 : Int32)))))
def fX4_spells (l1 : Nat) (A V : xM) : Option (Int32) := if ((V 95 7) - (V 95 6)) = (slen l1) then (fX4_spells_L20 l1 A V (some (1 : Int32)) FU (0 : Int32)) else (some (0 : Int32))
def fX4_wordToken (A V : xM) : Option (Int32) := bI (fX4_spells 4 A V) (fun x1 => if x1 = 0 then (bI (fX4_spells 5 A V) (fun x4 => if x4 = 0 then (bI (fX4_spells 6 A V) (fun x7 => if x7 = 0 then (bI (fX4_spells 7 A V) (fun x10 => if x10 = 0 then (bI (fX4_spells 8 A V) (fun x13 => if x13 = 0 then (bI (fX4_spells 9 A V) (fun x16 => if x16 = 0 then (bI (fX4_spells 10 A V) (fun x19 => if x19 = 0 then (bI (fX4_spells 11 A V) (fun x22 => if x22 = 0 then (bI (fX4_spells 12 A V) (fun x25 => if x25 = 0 then (bI (fX4_spells 13 A V) (fun x28 => if x28 = 0 then (bI (fX4_spells 14 A V) (fun x31 => if x31 = 0 then (bI (fX4_spells 15 A V) (fun x34 => if x34 = 0 then (some (0 : Int32)) else (some (14 : Int32)))) else (some (13 : Int32)))) else (some (12 : Int32)))) else (some (11 : Int32)))) else (some (10 : Int32)))) else (some (9 : Int32)))) else (some (8 : Int32)))) else (some (7 : Int32)))) else (some (6 : Int32)))) else (some (5 : Int32)))) else (some (4 : Int32)))) else (some (3 : Int32)))
def fX4_fail (A V : xM) (cu : Value) : Option (xS) := if (V 95 2) = (-1 : Int32) then (some (A, (up2 (up2 V 95 2 (V 95 6)) 95 5 (0 : Int32)), cu)) else (some (A, (up2 V 95 5 (0 : Int32)), cu))
def fX4_readWord_L0 (ex : xM → xM → Value → Option (xS)) : Nat → xM → xM → Value → Option (xS)
  | 0, _, _, _ => none
  | n + 1, A, V, cu => if (V 95 1) ≤ (V 95 7) then (ex  A V cu) else (bC (xq_in (V 95 7) 160) (if (A 96 (V 95 7).toNatClampNeg) < (97 : Int32) then (ex  A V cu) else (if (122 : Int32) < (A 96 (V 95 7).toNatClampNeg) then (ex  A V cu) else (fX4_readWord_L0 ex n  A (up2 V 95 7 ((V 95 7) + (1 : Int32))) cu))))
def fX4_readWord (A V : xM) (cu : Value) : Option (xS) := fX4_readWord_L0 (fun (A5 V6 : xM) (c7 : Value) => bI (fX4_wordToken A5 V6) (fun x8 => if ((up2 V6 95 5 x8) 95 5) = 0 then (bS (fX4_fail A5 (up2 V6 95 5 x8) c7) (fun A12 V13 c14 => some (A12, V13, c14))) else (some (A5, (up2 V6 95 5 x8), c7)))) FU  A V cu
def fX4_readNumber_L5 (ex : xM → xM → Value → Option (xS)) : Nat → xM → xM → Value → Option (xS)
  | 0, _, _, _ => none
  | n + 1, A, V, cu => if (V 95 1) ≤ (V 95 7) then (ex  A V cu) else (bC (xq_in (V 95 7) 160) (if (A 96 (V 95 7).toNatClampNeg) < (48 : Int32) then (ex  A V cu) else (if (57 : Int32) < (A 96 (V 95 7).toNatClampNeg) then (ex  A V cu) else (fX4_readNumber_L5 ex n  A (up2 (up2 V 95 8 ((((V 95 8) * (10 : Int32)) + (A 96 (V 95 7).toNatClampNeg)) - (48 : Int32))) 95 7 (((up2 V 95 8 ((((V 95 8) * (10 : Int32)) + (A 96 (V 95 7).toNatClampNeg)) - (48 : Int32))) 95 7) + (1 : Int32))) cu))))
def fX4_readNumber (A V : xM) (cu : Value) : Option (xS) := fX4_readNumber_L5 (fun (A5 V6 : xM) (c7 : Value) => if (((up2 V6 95 5 (2 : Int32)) 95 7) - ((up2 V6 95 5 (2 : Int32)) 95 6)) ≤ (4 : Int32) then (some (A5, (up2 V6 95 5 (2 : Int32)), c7)) else (bS (fX4_fail A5 (up2 V6 95 5 (2 : Int32)) c7) (fun A10 V11 c12 => some (A10, V11, c12)))) FU  A (up2 V 95 8 (0 : Int32)) cu
def fX4_readSign (A V : xM) (cu : Value) : Option (xS) := bC (xq_in (V 95 7) 160) (if ((up2 (up2 V 95 5 (A 96 (V 95 7).toNatClampNeg)) 95 7 (((up2 V 95 5 (A 96 (V 95 7).toNatClampNeg)) 95 7) + (1 : Int32))) 95 5) = (40 : Int32) then (if ((up2 (up2 V 95 5 (A 96 (V 95 7).toNatClampNeg)) 95 7 (((up2 V 95 5 (A 96 (V 95 7).toNatClampNeg)) 95 7) + (1 : Int32))) 95 5) = (43 : Int32) then (some (A, (up2 (up2 V 95 5 (A 96 (V 95 7).toNatClampNeg)) 95 7 (((up2 V 95 5 (A 96 (V 95 7).toNatClampNeg)) 95 7) + (1 : Int32))), cu)) else (if ((up2 (up2 V 95 5 (A 96 (V 95 7).toNatClampNeg)) 95 7 (((up2 V 95 5 (A 96 (V 95 7).toNatClampNeg)) 95 7) + (1 : Int32))) 95 5) = (45 : Int32) then (some (A, (up2 (up2 V 95 5 (A 96 (V 95 7).toNatClampNeg)) 95 7 (((up2 V 95 5 (A 96 (V 95 7).toNatClampNeg)) 95 7) + (1 : Int32))), cu)) else (if ((up2 (up2 V 95 5 (A 96 (V 95 7).toNatClampNeg)) 95 7 (((up2 V 95 5 (A 96 (V 95 7).toNatClampNeg)) 95 7) + (1 : Int32))) 95 5) = (42 : Int32) then (some (A, (up2 (up2 V 95 5 (A 96 (V 95 7).toNatClampNeg)) 95 7 (((up2 V 95 5 (A 96 (V 95 7).toNatClampNeg)) 95 7) + (1 : Int32))), cu)) else (some (A, (up2 (up2 V 95 5 (A 96 (V 95 7).toNatClampNeg)) 95 7 (((up2 V 95 5 (A 96 (V 95 7).toNatClampNeg)) 95 7) + (1 : Int32))), cu))))) else (if ((up2 (up2 V 95 5 (A 96 (V 95 7).toNatClampNeg)) 95 7 (((up2 V 95 5 (A 96 (V 95 7).toNatClampNeg)) 95 7) + (1 : Int32))) 95 5) = (41 : Int32) then (if ((up2 (up2 V 95 5 (A 96 (V 95 7).toNatClampNeg)) 95 7 (((up2 V 95 5 (A 96 (V 95 7).toNatClampNeg)) 95 7) + (1 : Int32))) 95 5) = (43 : Int32) then (some (A, (up2 (up2 V 95 5 (A 96 (V 95 7).toNatClampNeg)) 95 7 (((up2 V 95 5 (A 96 (V 95 7).toNatClampNeg)) 95 7) + (1 : Int32))), cu)) else (if ((up2 (up2 V 95 5 (A 96 (V 95 7).toNatClampNeg)) 95 7 (((up2 V 95 5 (A 96 (V 95 7).toNatClampNeg)) 95 7) + (1 : Int32))) 95 5) = (45 : Int32) then (some (A, (up2 (up2 V 95 5 (A 96 (V 95 7).toNatClampNeg)) 95 7 (((up2 V 95 5 (A 96 (V 95 7).toNatClampNeg)) 95 7) + (1 : Int32))), cu)) else (if ((up2 (up2 V 95 5 (A 96 (V 95 7).toNatClampNeg)) 95 7 (((up2 V 95 5 (A 96 (V 95 7).toNatClampNeg)) 95 7) + (1 : Int32))) 95 5) = (42 : Int32) then (some (A, (up2 (up2 V 95 5 (A 96 (V 95 7).toNatClampNeg)) 95 7 (((up2 V 95 5 (A 96 (V 95 7).toNatClampNeg)) 95 7) + (1 : Int32))), cu)) else (some (A, (up2 (up2 V 95 5 (A 96 (V 95 7).toNatClampNeg)) 95 7 (((up2 V 95 5 (A 96 (V 95 7).toNatClampNeg)) 95 7) + (1 : Int32))), cu))))) else (if ((up2 (up2 V 95 5 (A 96 (V 95 7).toNatClampNeg)) 95 7 (((up2 V 95 5 (A 96 (V 95 7).toNatClampNeg)) 95 7) + (1 : Int32))) 95 5) = (59 : Int32) then (if ((up2 (up2 V 95 5 (A 96 (V 95 7).toNatClampNeg)) 95 7 (((up2 V 95 5 (A 96 (V 95 7).toNatClampNeg)) 95 7) + (1 : Int32))) 95 5) = (43 : Int32) then (some (A, (up2 (up2 V 95 5 (A 96 (V 95 7).toNatClampNeg)) 95 7 (((up2 V 95 5 (A 96 (V 95 7).toNatClampNeg)) 95 7) + (1 : Int32))), cu)) else (if ((up2 (up2 V 95 5 (A 96 (V 95 7).toNatClampNeg)) 95 7 (((up2 V 95 5 (A 96 (V 95 7).toNatClampNeg)) 95 7) + (1 : Int32))) 95 5) = (45 : Int32) then (some (A, (up2 (up2 V 95 5 (A 96 (V 95 7).toNatClampNeg)) 95 7 (((up2 V 95 5 (A 96 (V 95 7).toNatClampNeg)) 95 7) + (1 : Int32))), cu)) else (if ((up2 (up2 V 95 5 (A 96 (V 95 7).toNatClampNeg)) 95 7 (((up2 V 95 5 (A 96 (V 95 7).toNatClampNeg)) 95 7) + (1 : Int32))) 95 5) = (42 : Int32) then (some (A, (up2 (up2 V 95 5 (A 96 (V 95 7).toNatClampNeg)) 95 7 (((up2 V 95 5 (A 96 (V 95 7).toNatClampNeg)) 95 7) + (1 : Int32))), cu)) else (some (A, (up2 (up2 V 95 5 (A 96 (V 95 7).toNatClampNeg)) 95 7 (((up2 V 95 5 (A 96 (V 95 7).toNatClampNeg)) 95 7) + (1 : Int32))), cu))))) else (if ((up2 (up2 V 95 5 (A 96 (V 95 7).toNatClampNeg)) 95 7 (((up2 V 95 5 (A 96 (V 95 7).toNatClampNeg)) 95 7) + (1 : Int32))) 95 5) = (43 : Int32) then (some (A, (up2 (up2 V 95 5 (A 96 (V 95 7).toNatClampNeg)) 95 7 (((up2 V 95 5 (A 96 (V 95 7).toNatClampNeg)) 95 7) + (1 : Int32))), cu)) else (if ((up2 (up2 V 95 5 (A 96 (V 95 7).toNatClampNeg)) 95 7 (((up2 V 95 5 (A 96 (V 95 7).toNatClampNeg)) 95 7) + (1 : Int32))) 95 5) = (45 : Int32) then (some (A, (up2 (up2 V 95 5 (A 96 (V 95 7).toNatClampNeg)) 95 7 (((up2 V 95 5 (A 96 (V 95 7).toNatClampNeg)) 95 7) + (1 : Int32))), cu)) else (if ((up2 (up2 V 95 5 (A 96 (V 95 7).toNatClampNeg)) 95 7 (((up2 V 95 5 (A 96 (V 95 7).toNatClampNeg)) 95 7) + (1 : Int32))) 95 5) = (42 : Int32) then (some (A, (up2 (up2 V 95 5 (A 96 (V 95 7).toNatClampNeg)) 95 7 (((up2 V 95 5 (A 96 (V 95 7).toNatClampNeg)) 95 7) + (1 : Int32))), cu)) else (if ((up2 (up2 V 95 5 (A 96 (V 95 7).toNatClampNeg)) 95 7 (((up2 V 95 5 (A 96 (V 95 7).toNatClampNeg)) 95 7) + (1 : Int32))) 95 5) = (60 : Int32) then (some (A, (up2 (up2 V 95 5 (A 96 (V 95 7).toNatClampNeg)) 95 7 (((up2 V 95 5 (A 96 (V 95 7).toNatClampNeg)) 95 7) + (1 : Int32))), cu)) else (if ((up2 (up2 V 95 5 (A 96 (V 95 7).toNatClampNeg)) 95 7 (((up2 V 95 5 (A 96 (V 95 7).toNatClampNeg)) 95 7) + (1 : Int32))) 95 5) = (61 : Int32) then (some (A, (up2 (up2 V 95 5 (A 96 (V 95 7).toNatClampNeg)) 95 7 (((up2 V 95 5 (A 96 (V 95 7).toNatClampNeg)) 95 7) + (1 : Int32))), cu)) else (bS (fX4_fail A (up2 (up2 V 95 5 (A 96 (V 95 7).toNatClampNeg)) 95 7 (((up2 V 95 5 (A 96 (V 95 7).toNatClampNeg)) 95 7) + (1 : Int32))) cu) (fun A20 V21 c22 => some (A20, V21, c22)))))))))))
def fX4_next_L0 (ex : xM → xM → Value → Option (xS)) : Nat → xM → xM → Value → Option (xS)
  | 0, _, _, _ => none
  | n + 1, A, V, cu => if (V 95 1) ≤ (V 95 7) then (ex  A V cu) else (bC (xq_in (V 95 7) 160) (if (A 96 (V 95 7).toNatClampNeg) = (32 : Int32) then (fX4_next_L0 ex n  A (up2 V 95 7 ((V 95 7) + (1 : Int32))) cu) else (if (A 96 (V 95 7).toNatClampNeg) = (10 : Int32) then (fX4_next_L0 ex n  A (up2 V 95 7 ((V 95 7) + (1 : Int32))) cu) else (ex  A V cu))))
def fX4_next (A V : xM) (cu : Value) : Option (xS) := fX4_next_L0 (fun (A5 V6 : xM) (c7 : Value) => if ((up2 V6 95 6 (V6 95 7)) 95 7) < ((up2 V6 95 6 (V6 95 7)) 95 1) then (bC (xq_in ((up2 V6 95 6 (V6 95 7)) 95 7) 160) (if (A5 96 ((up2 V6 95 6 (V6 95 7)) 95 7).toNatClampNeg) < (97 : Int32) then (if (A5 96 ((up2 V6 95 6 (V6 95 7)) 95 7).toNatClampNeg) < (48 : Int32) then (bS (fX4_readSign A5 (up2 V6 95 6 (V6 95 7)) c7) (fun A13 V14 c15 => some (A13, V14, c15))) else (if (57 : Int32) < (A5 96 ((up2 V6 95 6 (V6 95 7)) 95 7).toNatClampNeg) then (bS (fX4_readSign A5 (up2 V6 95 6 (V6 95 7)) c7) (fun A19 V20 c21 => some (A19, V20, c21))) else (bS (fX4_readNumber A5 (up2 V6 95 6 (V6 95 7)) c7) (fun A24 V25 c26 => some (A24, V25, c26))))) else (if (122 : Int32) < (A5 96 ((up2 V6 95 6 (V6 95 7)) 95 7).toNatClampNeg) then (if (A5 96 ((up2 V6 95 6 (V6 95 7)) 95 7).toNatClampNeg) < (48 : Int32) then (bS (fX4_readSign A5 (up2 V6 95 6 (V6 95 7)) c7) (fun A31 V32 c33 => some (A31, V32, c33))) else (if (57 : Int32) < (A5 96 ((up2 V6 95 6 (V6 95 7)) 95 7).toNatClampNeg) then (bS (fX4_readSign A5 (up2 V6 95 6 (V6 95 7)) c7) (fun A37 V38 c39 => some (A37, V38, c39))) else (bS (fX4_readNumber A5 (up2 V6 95 6 (V6 95 7)) c7) (fun A42 V43 c44 => some (A42, V43, c44))))) else (bS (fX4_readWord A5 (up2 V6 95 6 (V6 95 7)) c7) (fun A47 V48 c49 => some (A47, V48, c49)))))) else (some (A5, (up2 (up2 V6 95 6 (V6 95 7)) 95 5 (1 : Int32)), c7))) FU  A V cu
def fX4_expect (l1 : Int32) (A V : xM) (cu : Value) : Option (xS) := if (V 95 5) = l1 then (bS (fX4_next A V cu) (fun A3 V4 c5 => some (A3, V4, c5))) else (bS (fX4_fail A V cu) (fun A8 V9 c10 => some (A8, V9, c10)))
def fX4_step (l1 : Int32) (A V : xM) (cu : Value) : Option (xS) := if (160 : Int32) ≤ (V 95 4) then (some (A, V, cu)) else (bC (xq_in (V 95 4) 160) (some ((aw A 97 (V 95 4) l1), (up2 V 95 4 ((V 95 4) + (1 : Int32))), cu)))
def fX4_readSingle (rc : Nat → Int32 → xM → xM → Value → Option xS) (l1 : Int32) (A V : xM) (cu : Value) : Option (xS) := if (V 95 5) = (2 : Int32) then (bS (fX4_step (V 95 8) A V cu) (fun A3 V4 c5 => bS (fX4_next A3 V4 c5) (fun A8 V9 c10 => some (A8, V9, c10)))) else (if (V 95 5) < (3 : Int32) then (if (V 95 5) = (45 : Int32) then (if (5 : Int32) ≤ l1 then (if (V 95 5) = (40 : Int32) then (bS (fX4_fail A V cu) (fun A17 V18 c19 => some (A17, V18, c19))) else (bS (fX4_fail A V cu) (fun A22 V23 c24 => some (A22, V23, c24)))) else (bS (fX4_next A V cu) (fun A27 V28 c29 => bS (rc 36 (l1 + (1 : Int32)) A27 V28 c29) (fun A32 V33 c34 => bS (fX4_step (-15 : Int32) A32 V33 c34) (fun A37 V38 c39 => some (A37, V38, c39)))))) else (if (V 95 5) = (40 : Int32) then (if (5 : Int32) ≤ l1 then (bS (fX4_fail A V cu) (fun A44 V45 c46 => some (A44, V45, c46))) else (bS (fX4_next A V cu) (fun A49 V50 c51 => bS (rc 31 (l1 + (1 : Int32)) A49 V50 c51) (fun A54 V55 c56 => bS (fX4_expect (41 : Int32) A54 V55 c56) (fun A59 V60 c61 => some (A59, V60, c61)))))) else (bS (fX4_fail A V cu) (fun A64 V65 c66 => some (A64, V65, c66))))) else (if (8 : Int32) < (V 95 5) then (if (V 95 5) = (45 : Int32) then (if (5 : Int32) ≤ l1 then (if (V 95 5) = (40 : Int32) then (bS (fX4_fail A V cu) (fun A73 V74 c75 => some (A73, V74, c75))) else (bS (fX4_fail A V cu) (fun A78 V79 c80 => some (A78, V79, c80)))) else (bS (fX4_next A V cu) (fun A83 V84 c85 => bS (rc 36 (l1 + (1 : Int32)) A83 V84 c85) (fun A88 V89 c90 => bS (fX4_step (-15 : Int32) A88 V89 c90) (fun A93 V94 c95 => some (A93, V94, c95)))))) else (if (V 95 5) = (40 : Int32) then (if (5 : Int32) ≤ l1 then (bS (fX4_fail A V cu) (fun A100 V101 c102 => some (A100, V101, c102))) else (bS (fX4_next A V cu) (fun A105 V106 c107 => bS (rc 31 (l1 + (1 : Int32)) A105 V106 c107) (fun A110 V111 c112 => bS (fX4_expect (41 : Int32) A110 V111 c112) (fun A115 V116 c117 => some (A115, V116, c117)))))) else (bS (fX4_fail A V cu) (fun A120 V121 c122 => some (A120, V121, c122))))) else (bS (fX4_step (-(V 95 5)) A V cu) (fun A125 V126 c127 => bS (fX4_next A125 V126 c127) (fun A130 V131 c132 => some (A130, V131, c132))))))
def fX4_readTerm_L7 (rc : Nat → Int32 → xM → xM → Value → Option xS) (l1 : Int32) (ex : xM → xM → Value → Option (xS)) : Nat → Int32 → xM → xM → Value → Option (xS)
  | 0, _, _, _, _ => none
  | n + 1, l2, A, V, cu => if (160 : Int32) ≤ l2 then (ex  A V cu) else (if (V 95 5) = (42 : Int32) then (bS (fX4_next A V cu) (fun A4 V5 c6 => bS (rc 36 l1 A4 V5 c6) (fun A9 V10 c11 => bS (fX4_step (-42 : Int32) A9 V10 c11) (fun A14 V15 c16 => fX4_readTerm_L7 rc l1 ex n (l2 + Int32.ofInt 1) A14 V15 c16)))) else (ex  A V cu))
def fX4_readTerm (rc : Nat → Int32 → xM → xM → Value → Option xS) (l1 : Int32) (A V : xM) (cu : Value) : Option (xS) := bS (rc 36 l1 A V cu) (fun A19 V20 c21 => fX4_readTerm_L7 rc l1 (fun (A26 V27 : xM) (c28 : Value) => some (A26, V27, c28)) FU (0 : Int32) A19 V20 c21)
def fX4_readSum_L7 (rc : Nat → Int32 → xM → xM → Value → Option xS) (l1 : Int32) (ex : xM → xM → Value → Option (xS)) : Nat → Int32 → xM → xM → Value → Option (xS)
  | 0, _, _, _, _ => none
  | n + 1, l2, A, V, cu => if (160 : Int32) ≤ l2 then (ex  A V cu) else (if (V 95 5) = (43 : Int32) then (bS (fX4_next A V cu) (fun A4 V5 c6 => bS (rc 35 l1 A4 V5 c6) (fun A9 V10 c11 => bS (fX4_step (-(V 95 5)) A9 V10 c11) (fun A14 V15 c16 => fX4_readSum_L7 rc l1 ex n (l2 + Int32.ofInt 1) A14 V15 c16)))) else (if (V 95 5) = (45 : Int32) then (bS (fX4_next A V cu) (fun A20 V21 c22 => bS (rc 35 l1 A20 V21 c22) (fun A25 V26 c27 => bS (fX4_step (-(V 95 5)) A25 V26 c27) (fun A30 V31 c32 => fX4_readSum_L7 rc l1 ex n (l2 + Int32.ofInt 1) A30 V31 c32)))) else (ex  A V cu)))
def fX4_readSum (rc : Nat → Int32 → xM → xM → Value → Option xS) (l1 : Int32) (A V : xM) (cu : Value) : Option (xS) := bS (rc 35 l1 A V cu) (fun A35 V36 c37 => fX4_readSum_L7 rc l1 (fun (A43 V44 : xM) (c45 : Value) => some (A43, V44, c45)) FU (0 : Int32) A35 V36 c37)
def fX4_readNot (rc : Nat → Int32 → xM → xM → Value → Option xS) (l1 : Int32) (A V : xM) (cu : Value) : Option (xS) := if (V 95 5) = (14 : Int32) then (if l1 < (5 : Int32) then (bS (fX4_next A V cu) (fun A4 V5 c6 => bS (rc 33 (l1 + (1 : Int32)) A4 V5 c6) (fun A9 V10 c11 => bS (fX4_step (-14 : Int32) A9 V10 c11) (fun A14 V15 c16 => some (A14, V15, c16))))) else (bS (fX4_fail A V cu) (fun A19 V20 c21 => some (A19, V20, c21)))) else (bS (rc 34 l1 A V cu) (fun A24 V25 c26 => if (V25 95 5) = (60 : Int32) then (bS (fX4_next A24 V25 c26) (fun A30 V31 c32 => bS (rc 34 l1 A30 V31 c32) (fun A35 V36 c37 => bS (fX4_step (-(V25 95 5)) A35 V36 c37) (fun A40 V41 c42 => some (A40, V41, c42))))) else (if (V25 95 5) = (61 : Int32) then (bS (fX4_next A24 V25 c26) (fun A46 V47 c48 => bS (rc 34 l1 A46 V47 c48) (fun A51 V52 c53 => bS (fX4_step (-(V25 95 5)) A51 V52 c53) (fun A56 V57 c58 => some (A56, V57, c58))))) else (some (A24, V25, c26)))))
def fX4_readAnd_L7 (rc : Nat → Int32 → xM → xM → Value → Option xS) (l1 : Int32) (ex : xM → xM → Value → Option (xS)) : Nat → Int32 → xM → xM → Value → Option (xS)
  | 0, _, _, _, _ => none
  | n + 1, l2, A, V, cu => if (160 : Int32) ≤ l2 then (ex  A V cu) else (if (V 95 5) = (13 : Int32) then (bS (fX4_next A V cu) (fun A4 V5 c6 => bS (rc 33 l1 A4 V5 c6) (fun A9 V10 c11 => bS (fX4_step (-13 : Int32) A9 V10 c11) (fun A14 V15 c16 => fX4_readAnd_L7 rc l1 ex n (l2 + Int32.ofInt 1) A14 V15 c16)))) else (ex  A V cu))
def fX4_readAnd (rc : Nat → Int32 → xM → xM → Value → Option xS) (l1 : Int32) (A V : xM) (cu : Value) : Option (xS) := bS (rc 33 l1 A V cu) (fun A19 V20 c21 => fX4_readAnd_L7 rc l1 (fun (A26 V27 : xM) (c28 : Value) => some (A26, V27, c28)) FU (0 : Int32) A19 V20 c21)
def fX4_readOr_L7 (rc : Nat → Int32 → xM → xM → Value → Option xS) (l1 : Int32) (ex : xM → xM → Value → Option (xS)) : Nat → Int32 → xM → xM → Value → Option (xS)
  | 0, _, _, _, _ => none
  | n + 1, l2, A, V, cu => if (160 : Int32) ≤ l2 then (ex  A V cu) else (if (V 95 5) = (12 : Int32) then (bS (fX4_next A V cu) (fun A4 V5 c6 => bS (rc 32 l1 A4 V5 c6) (fun A9 V10 c11 => bS (fX4_step (-12 : Int32) A9 V10 c11) (fun A14 V15 c16 => fX4_readOr_L7 rc l1 ex n (l2 + Int32.ofInt 1) A14 V15 c16)))) else (ex  A V cu))
def fX4_readOr (rc : Nat → Int32 → xM → xM → Value → Option xS) (l1 : Int32) (A V : xM) (cu : Value) : Option (xS) := bS (rc 32 l1 A V cu) (fun A19 V20 c21 => fX4_readOr_L7 rc l1 (fun (A26 V27 : xM) (c28 : Value) => some (A26, V27, c28)) FU (0 : Int32) A19 V20 c21)
def fX4_readPart (rc : Nat → Int32 → xM → xM → Value → Option xS) (l1 : Int32) (A V : xM) (cu : Value) : Option (xS) := bS (fX4_expect l1 A V cu) (fun A2 V3 c4 => bS (rc 31 (0 : Int32) A2 V3 c4) (fun A7 V8 c9 => bS (fX4_expect (59 : Int32) A7 V8 c9) (fun A12 V13 c14 => some (A12, V13, c14))))
set_option maxRecDepth 20000 in
set_option maxHeartbeats 4000000 in
theorem sX4_add {LL : Nat} {xs : Nat → Int32} {tx : List xh_T} {d : Nat} {A V : xM} {cu : Value} {A' V' : xM} {c' : Value} {l1 : Int32} (hd : 61 ≤ d) (e : fX4_add l1 A V cu = some (A', V', c')) : xe (xk_ro LL xs) d 27 [.ref 95, .int l1] (xh A V tx cu) (qU (xh A' V' tx c')) := by
  obtain ⟨d, rfl⟩ : ∃ d1, d = d1 + 1 := ⟨d - 1, by omega⟩
  replace hd : 60 ≤ d := by omega
  have hd0 : 60 ≤ d := by omega
  refine xe_of (co := xk_27) (nl := 2) rfl rfl rfl ?_
  unfold fX4_add at e
  rcases ite_ok e with ⟨h1, e⟩ | ⟨h1, e⟩
  · cases e
    exact xw_yr hd0 6 [1] rfl ⟨decide_eq_true h1, trivial⟩ ⟨rfl, rfl⟩
  · obtain ⟨h2, e⟩ := bC_ok e
    cases e
    exact xw_yr hd0 18 [0] rfl ⟨nt h1, h2, rfl, trivial⟩ ⟨rfl, rfl⟩
set_option maxRecDepth 20000 in
set_option maxHeartbeats 4000000 in
theorem slX4_spells_L20 {LL : Nat} {xs : Nat → Int32} {tx : List xh_T} {d : Nat}{A V : xM} {cu : Value} {r : Int32} {l1 : Nat} {ex : Option (Int32)} (hl1 : isSt l1) (hd : 60 ≤ d) (hex : ∀ (w0 w1 w2 : Option Value), ex  = some r → xw (xk_ro LL xs) d xk_47 55 [w0, w1, w2] [] (xh A V tx cu) (qI r (xh A V tx cu))) : ∀ (n : Nat) (l2 : Int32), fX4_spells_L20 l1 A V ex n l2 = some r → xw (xk_ro LL xs) d xk_47 20 [some (.ref 95), some (.ref l1), some (.int l2)] [] (xh A V tx cu) (qI r (xh A V tx cu)) := by
  have hd0 : 60 ≤ d := by omega
  intro n
  induction n with
  | zero =>
    intro l2 e
    rw [fX4_spells_L20] at e
    cases e
  | succ n ih =>
    intro l2 e
    rw [fX4_spells_L20] at e
    refine xw_y hd0 2 [] rfl trivial ?_
    refine st_slen hd0 hl1 rfl rfl ?_
    rcases ite_ok e with ⟨h1, e⟩ | ⟨h1, e⟩
    · refine xw_y hd0 1 [1] rfl ⟨decide_eq_true h1, trivial⟩ ?_
      exact hex _ _ _ e
    · obtain ⟨h2, e⟩ := bC_ok e
      refine xw_y hd0 10 [0] rfl ⟨nt h1, h2, trivial⟩ ?_
      obtain ⟨h3, e⟩ := bC_ok e
      refine st_schr hd0 hl1 h3 rfl rfl ?_
      rcases ite_ok e with ⟨h4, e⟩ | ⟨h4, e⟩
      · refine xw_y hd0 3 [1] rfl ⟨decide_eq_true h4, trivial⟩ ?_
        exact ih _ e
      · cases e
        exact xw_yr hd0 4 [0] rfl ⟨nt h4, rfl, trivial⟩ ⟨rfl, rfl⟩
set_option maxRecDepth 20000 in
set_option maxHeartbeats 4000000 in
theorem sX4_spells {LL : Nat} {xs : Nat → Int32} {tx : List xh_T} {d : Nat} {A V : xM} {cu : Value} {r : Int32} {l1 : Nat} (hl1 : isSt l1) (hd : 61 ≤ d) (e : fX4_spells l1 A V = some r) : xe (xk_ro LL xs) d 47 [.ref 95, .ref l1] (xh A V tx cu) (qI r (xh A V tx cu)) := by
  obtain ⟨d, rfl⟩ : ∃ d1, d = d1 + 1 := ⟨d - 1, by omega⟩
  replace hd : 60 ≤ d := by omega
  have hd0 : 60 ≤ d := by omega
  refine xe_of (co := xk_47) (nl := 3) rfl rfl rfl ?_
  unfold fX4_spells at e
  refine xw_y hd0 6 [] rfl trivial ?_
  refine st_slen hd0 hl1 rfl rfl ?_
  rcases ite_ok e with ⟨h5, e⟩ | ⟨h5, e⟩
  · refine xw_y hd0 3 [1] rfl ⟨decide_eq_true h5, trivial⟩ ?_
    refine slX4_spells_L20 hl1 hd ?_ FU _ e
    · intro z6 z7 z8 e
      cases e
      exact xw_yr hd0 3 [] rfl ⟨rfl, trivial⟩ ⟨rfl, rfl⟩
  · cases e
    exact xw_yr hd0 4 [0] rfl ⟨nt h5, rfl, trivial⟩ ⟨rfl, rfl⟩
set_option maxRecDepth 20000 in
set_option maxHeartbeats 4000000 in
theorem sX4_wordToken {LL : Nat} {xs : Nat → Int32} {tx : List xh_T} {d : Nat} {A V : xM} {cu : Value} {r : Int32} (hd : 62 ≤ d) (e : fX4_wordToken A V = some r) : xe (xk_ro LL xs) d 46 [.ref 95] (xh A V tx cu) (qI r (xh A V tx cu)) := by
  obtain ⟨d, rfl⟩ : ∃ d1, d = d1 + 1 := ⟨d - 1, by omega⟩
  replace hd : 61 ≤ d := by omega
  have hd0 : 60 ≤ d := by omega
  refine xe_of (co := xk_46) (nl := 1) rfl rfl rfl ?_
  unfold fX4_wordToken at e
  refine xw_y hd0 2 [] rfl trivial ?_
  obtain ⟨x1, e2, e⟩ := bI_ok e
  refine xw_call (k := 47) (j := 2) rfl (fun F => xm_c_ok (y_c_ok rfl) F) rfl rfl rfl (sX4_spells ⟨by decide, by decide⟩ (by omega) e2) ?_
  rintro _ _ ⟨rfl, rfl⟩
  rcases ite_ok e with ⟨h3, e⟩ | ⟨h3, e⟩
  · refine xw_y hd0 3 [1] rfl ⟨decide_eq_true h3, trivial⟩ ?_
    obtain ⟨x4, e5, e⟩ := bI_ok e
    refine xw_call (k := 47) (j := 2) rfl (fun F => xm_c_ok (y_c_ok rfl) F) rfl rfl rfl (sX4_spells ⟨by decide, by decide⟩ (by omega) e5) ?_
    rintro _ _ ⟨rfl, rfl⟩
    rcases ite_ok e with ⟨h6, e⟩ | ⟨h6, e⟩
    · refine xw_y hd0 3 [1] rfl ⟨decide_eq_true h6, trivial⟩ ?_
      obtain ⟨x7, e8, e⟩ := bI_ok e
      refine xw_call (k := 47) (j := 2) rfl (fun F => xm_c_ok (y_c_ok rfl) F) rfl rfl rfl (sX4_spells ⟨by decide, by decide⟩ (by omega) e8) ?_
      rintro _ _ ⟨rfl, rfl⟩
      rcases ite_ok e with ⟨h9, e⟩ | ⟨h9, e⟩
      · refine xw_y hd0 3 [1] rfl ⟨decide_eq_true h9, trivial⟩ ?_
        obtain ⟨x10, e11, e⟩ := bI_ok e
        refine xw_call (k := 47) (j := 2) rfl (fun F => xm_c_ok (y_c_ok rfl) F) rfl rfl rfl (sX4_spells ⟨by decide, by decide⟩ (by omega) e11) ?_
        rintro _ _ ⟨rfl, rfl⟩
        rcases ite_ok e with ⟨h12, e⟩ | ⟨h12, e⟩
        · refine xw_y hd0 3 [1] rfl ⟨decide_eq_true h12, trivial⟩ ?_
          obtain ⟨x13, e14, e⟩ := bI_ok e
          refine xw_call (k := 47) (j := 2) rfl (fun F => xm_c_ok (y_c_ok rfl) F) rfl rfl rfl (sX4_spells ⟨by decide, by decide⟩ (by omega) e14) ?_
          rintro _ _ ⟨rfl, rfl⟩
          rcases ite_ok e with ⟨h15, e⟩ | ⟨h15, e⟩
          · refine xw_y hd0 3 [1] rfl ⟨decide_eq_true h15, trivial⟩ ?_
            obtain ⟨x16, e17, e⟩ := bI_ok e
            refine xw_call (k := 47) (j := 2) rfl (fun F => xm_c_ok (y_c_ok rfl) F) rfl rfl rfl (sX4_spells ⟨by decide, by decide⟩ (by omega) e17) ?_
            rintro _ _ ⟨rfl, rfl⟩
            rcases ite_ok e with ⟨h18, e⟩ | ⟨h18, e⟩
            · refine xw_y hd0 3 [1] rfl ⟨decide_eq_true h18, trivial⟩ ?_
              obtain ⟨x19, e20, e⟩ := bI_ok e
              refine xw_call (k := 47) (j := 2) rfl (fun F => xm_c_ok (y_c_ok rfl) F) rfl rfl rfl (sX4_spells ⟨by decide, by decide⟩ (by omega) e20) ?_
              rintro _ _ ⟨rfl, rfl⟩
              rcases ite_ok e with ⟨h21, e⟩ | ⟨h21, e⟩
              · refine xw_y hd0 3 [1] rfl ⟨decide_eq_true h21, trivial⟩ ?_
                obtain ⟨x22, e23, e⟩ := bI_ok e
                refine xw_call (k := 47) (j := 2) rfl (fun F => xm_c_ok (y_c_ok rfl) F) rfl rfl rfl (sX4_spells ⟨by decide, by decide⟩ (by omega) e23) ?_
                rintro _ _ ⟨rfl, rfl⟩
                rcases ite_ok e with ⟨h24, e⟩ | ⟨h24, e⟩
                · refine xw_y hd0 3 [1] rfl ⟨decide_eq_true h24, trivial⟩ ?_
                  obtain ⟨x25, e26, e⟩ := bI_ok e
                  refine xw_call (k := 47) (j := 2) rfl (fun F => xm_c_ok (y_c_ok rfl) F) rfl rfl rfl (sX4_spells ⟨by decide, by decide⟩ (by omega) e26) ?_
                  rintro _ _ ⟨rfl, rfl⟩
                  rcases ite_ok e with ⟨h27, e⟩ | ⟨h27, e⟩
                  · refine xw_y hd0 3 [1] rfl ⟨decide_eq_true h27, trivial⟩ ?_
                    obtain ⟨x28, e29, e⟩ := bI_ok e
                    refine xw_call (k := 47) (j := 2) rfl (fun F => xm_c_ok (y_c_ok rfl) F) rfl rfl rfl (sX4_spells ⟨by decide, by decide⟩ (by omega) e29) ?_
                    rintro _ _ ⟨rfl, rfl⟩
                    rcases ite_ok e with ⟨h30, e⟩ | ⟨h30, e⟩
                    · refine xw_y hd0 3 [1] rfl ⟨decide_eq_true h30, trivial⟩ ?_
                      obtain ⟨x31, e32, e⟩ := bI_ok e
                      refine xw_call (k := 47) (j := 2) rfl (fun F => xm_c_ok (y_c_ok rfl) F) rfl rfl rfl (sX4_spells ⟨by decide, by decide⟩ (by omega) e32) ?_
                      rintro _ _ ⟨rfl, rfl⟩
                      rcases ite_ok e with ⟨h33, e⟩ | ⟨h33, e⟩
                      · refine xw_y hd0 3 [1] rfl ⟨decide_eq_true h33, trivial⟩ ?_
                        obtain ⟨x34, e35, e⟩ := bI_ok e
                        refine xw_call (k := 47) (j := 2) rfl (fun F => xm_c_ok (y_c_ok rfl) F) rfl rfl rfl (sX4_spells ⟨by decide, by decide⟩ (by omega) e35) ?_
                        rintro _ _ ⟨rfl, rfl⟩
                        rcases ite_ok e with ⟨h36, e⟩ | ⟨h36, e⟩
                        · cases e
                          exact xw_yr hd0 4 [1] rfl ⟨decide_eq_true h36, rfl, trivial⟩ ⟨rfl, rfl⟩
                        · cases e
                          exact xw_yr hd0 5 [0] rfl ⟨nt h36, rfl, trivial⟩ ⟨rfl, rfl⟩
                      · cases e
                        exact xw_yr hd0 5 [0] rfl ⟨nt h33, rfl, trivial⟩ ⟨rfl, rfl⟩
                    · cases e
                      exact xw_yr hd0 5 [0] rfl ⟨nt h30, rfl, trivial⟩ ⟨rfl, rfl⟩
                  · cases e
                    exact xw_yr hd0 5 [0] rfl ⟨nt h27, rfl, trivial⟩ ⟨rfl, rfl⟩
                · cases e
                  exact xw_yr hd0 5 [0] rfl ⟨nt h24, rfl, trivial⟩ ⟨rfl, rfl⟩
              · cases e
                exact xw_yr hd0 5 [0] rfl ⟨nt h21, rfl, trivial⟩ ⟨rfl, rfl⟩
            · cases e
              exact xw_yr hd0 5 [0] rfl ⟨nt h18, rfl, trivial⟩ ⟨rfl, rfl⟩
          · cases e
            exact xw_yr hd0 5 [0] rfl ⟨nt h15, rfl, trivial⟩ ⟨rfl, rfl⟩
        · cases e
          exact xw_yr hd0 5 [0] rfl ⟨nt h12, rfl, trivial⟩ ⟨rfl, rfl⟩
      · cases e
        exact xw_yr hd0 5 [0] rfl ⟨nt h9, rfl, trivial⟩ ⟨rfl, rfl⟩
    · cases e
      exact xw_yr hd0 5 [0] rfl ⟨nt h6, rfl, trivial⟩ ⟨rfl, rfl⟩
  · cases e
    exact xw_yr hd0 5 [0] rfl ⟨nt h3, rfl, trivial⟩ ⟨rfl, rfl⟩
set_option maxRecDepth 20000 in
set_option maxHeartbeats 4000000 in
theorem sX4_fail {LL : Nat} {xs : Nat → Int32} {tx : List xh_T} {d : Nat} {A V : xM} {cu : Value} {A' V' : xM} {c' : Value} (hd : 61 ≤ d) (e : fX4_fail A V cu = some (A', V', c')) : xe (xk_ro LL xs) d 39 [.ref 95] (xh A V tx cu) (qU (xh A' V' tx c')) := by
  obtain ⟨d, rfl⟩ : ∃ d1, d = d1 + 1 := ⟨d - 1, by omega⟩
  replace hd : 60 ≤ d := by omega
  have hd0 : 60 ≤ d := by omega
  refine xe_of (co := xk_39) (nl := 1) rfl rfl rfl ?_
  unfold fX4_fail at e
  rcases ite_ok e with ⟨h1, e⟩ | ⟨h1, e⟩
  · cases e
    exact xw_yr hd0 13 [0] rfl ⟨nnt h1, rfl, rfl, trivial⟩ ⟨rfl, rfl⟩
  · cases e
    exact xw_yr hd0 9 [1] rfl ⟨nt h1, rfl, trivial⟩ ⟨rfl, rfl⟩
set_option maxRecDepth 20000 in
set_option maxHeartbeats 4000000 in
theorem slX4_readWord_L0 {LL : Nat} {xs : Nat → Int32} {tx : List xh_T} {d : Nat} {A' V' : xM} {c' : Value} {ex : xM → xM → Value → Option (xS)} (hd : 62 ≤ d) (hex : ∀ (A V : xM) (cu : Value), ex  A V cu = some (A', V', c') → xw (xk_ro LL xs) d xk_41 39 [some (.ref 95)] [] (xh A V tx cu) (qU (xh A' V' tx c'))) : ∀ (n : Nat) (A V : xM) (cu : Value), fX4_readWord_L0 ex n  A V cu = some (A', V', c') → xw (xk_ro LL xs) d xk_41 0 [some (.ref 95)] [] (xh A V tx cu) (qU (xh A' V' tx c')) := by
  have hd0 : 60 ≤ d := by omega
  intro n
  induction n with
  | zero =>
    intro A V cu e
    rw [fX4_readWord_L0] at e
    cases e
  | succ n ih =>
    intro A V cu e
    rw [fX4_readWord_L0] at e
    rcases ite_ok e with ⟨h1, e⟩ | ⟨h1, e⟩
    · refine xw_y hd0 5 [1] rfl ⟨decide_eq_true h1, trivial⟩ ?_
      exact hex _ _ _ e
    · obtain ⟨h2, e⟩ := bC_ok e
      rcases ite_ok e with ⟨h3, e⟩ | ⟨h3, e⟩
      · refine xw_y hd0 17 [0, 1, 1] rfl ⟨nt h1, h2, decide_eq_true h3, rfl, rfl, trivial⟩ ?_
        exact hex _ _ _ e
      · rcases ite_ok e with ⟨h4, e⟩ | ⟨h4, e⟩
        · refine xw_y hd0 20 [0, 0, 1, 1] rfl ⟨nt h1, h2, nt h3, decide_eq_true h4, rfl, rfl, trivial⟩ ?_
          exact hex _ _ _ e
        · refine xw_y hd0 28 [0, 0, 0, 0] rfl ⟨nt h1, h2, nt h3, nt h4, rfl, rfl, rfl, trivial⟩ ?_
          exact ih _ _ _ e
set_option maxRecDepth 20000 in
set_option maxHeartbeats 4000000 in
theorem sX4_readWord {LL : Nat} {xs : Nat → Int32} {tx : List xh_T} {d : Nat} {A V : xM} {cu : Value} {A' V' : xM} {c' : Value} (hd : 63 ≤ d) (e : fX4_readWord A V cu = some (A', V', c')) : xe (xk_ro LL xs) d 41 [.ref 95] (xh A V tx cu) (qU (xh A' V' tx c')) := by
  obtain ⟨d, rfl⟩ : ∃ d1, d = d1 + 1 := ⟨d - 1, by omega⟩
  replace hd : 62 ≤ d := by omega
  have hd0 : 60 ≤ d := by omega
  refine xe_of (co := xk_41) (nl := 1) rfl rfl rfl ?_
  unfold fX4_readWord at e
  refine slX4_readWord_L0 hd ?_ FU _ _ _ e
  · intro A5 V6 c7 e
    refine xw_y hd0 2 [] rfl trivial ?_
    obtain ⟨x8, e9, e⟩ := bI_ok e
    refine xw_call (k := 46) (j := 1) rfl (fun F => xm_c_ok (y_c_ok rfl) F) rfl rfl rfl (sX4_wordToken (by omega) e9) ?_
    rintro _ _ ⟨rfl, rfl⟩
    rcases ite_ok e with ⟨h10, e⟩ | ⟨h10, e⟩
    · refine xw_y hd0 5 [0] rfl ⟨rfl, nnt h10, trivial⟩ ?_
      obtain ⟨A12, V13, c14, e15, e⟩ := bS_ok e
      refine xw_call (k := 39) (j := 1) rfl (fun F => xm_c_ok (y_c_ok rfl) F) rfl rfl rfl (sX4_fail (by omega) e15) ?_
      rintro _ _ ⟨rfl, rfl⟩
      cases e
      exact xw_yr hd0 2 [] rfl trivial ⟨rfl, rfl⟩
    · cases e
      exact xw_yr hd0 6 [1] rfl ⟨rfl, nt h10, trivial⟩ ⟨rfl, rfl⟩
set_option maxRecDepth 20000 in
set_option maxHeartbeats 4000000 in
theorem slX4_readNumber_L5 {LL : Nat} {xs : Nat → Int32} {tx : List xh_T} {d : Nat} {A' V' : xM} {c' : Value} {ex : xM → xM → Value → Option (xS)} (hd : 61 ≤ d) (hex : ∀ (A V : xM) (cu : Value), ex  A V cu = some (A', V', c') → xw (xk_ro LL xs) d xk_42 68 [some (.ref 95)] [] (xh A V tx cu) (qU (xh A' V' tx c'))) : ∀ (n : Nat) (A V : xM) (cu : Value), fX4_readNumber_L5 ex n  A V cu = some (A', V', c') → xw (xk_ro LL xs) d xk_42 5 [some (.ref 95)] [] (xh A V tx cu) (qU (xh A' V' tx c')) := by
  have hd0 : 60 ≤ d := by omega
  intro n
  induction n with
  | zero =>
    intro A V cu e
    rw [fX4_readNumber_L5] at e
    cases e
  | succ n ih =>
    intro A V cu e
    rw [fX4_readNumber_L5] at e
    rcases ite_ok e with ⟨h1, e⟩ | ⟨h1, e⟩
    · refine xw_y hd0 5 [1] rfl ⟨decide_eq_true h1, trivial⟩ ?_
      exact hex _ _ _ e
    · obtain ⟨h2, e⟩ := bC_ok e
      rcases ite_ok e with ⟨h3, e⟩ | ⟨h3, e⟩
      · refine xw_y hd0 17 [0, 1, 1] rfl ⟨nt h1, h2, decide_eq_true h3, rfl, rfl, trivial⟩ ?_
        exact hex _ _ _ e
      · rcases ite_ok e with ⟨h4, e⟩ | ⟨h4, e⟩
        · refine xw_y hd0 20 [0, 0, 1, 1] rfl ⟨nt h1, h2, nt h3, decide_eq_true h4, rfl, rfl, trivial⟩ ?_
          exact hex _ _ _ e
        · refine xw_y hd0 42 [0, 0, 0, 0] rfl ⟨nt h1, h2, nt h3, nt h4, rfl, rfl, h2, rfl, rfl, trivial⟩ ?_
          exact ih _ _ _ e
set_option maxRecDepth 20000 in
set_option maxHeartbeats 4000000 in
theorem sX4_readNumber {LL : Nat} {xs : Nat → Int32} {tx : List xh_T} {d : Nat} {A V : xM} {cu : Value} {A' V' : xM} {c' : Value} (hd : 62 ≤ d) (e : fX4_readNumber A V cu = some (A', V', c')) : xe (xk_ro LL xs) d 42 [.ref 95] (xh A V tx cu) (qU (xh A' V' tx c')) := by
  obtain ⟨d, rfl⟩ : ∃ d1, d = d1 + 1 := ⟨d - 1, by omega⟩
  replace hd : 61 ≤ d := by omega
  have hd0 : 60 ≤ d := by omega
  refine xe_of (co := xk_42) (nl := 1) rfl rfl rfl ?_
  unfold fX4_readNumber at e
  refine xw_y hd0 3 [] rfl ⟨rfl, trivial⟩ ?_
  refine slX4_readNumber_L5 hd ?_ FU _ _ _ e
  · intro A5 V6 c7 e
    rcases ite_ok e with ⟨h8, e⟩ | ⟨h8, e⟩
    · cases e
      exact xw_yr hd0 12 [1] rfl ⟨rfl, decide_eq_true h8, trivial⟩ ⟨rfl, rfl⟩
    · refine xw_y hd0 11 [0] rfl ⟨rfl, nt h8, trivial⟩ ?_
      obtain ⟨A10, V11, c12, e13, e⟩ := bS_ok e
      refine xw_call (k := 39) (j := 1) rfl (fun F => xm_c_ok (y_c_ok rfl) F) rfl rfl rfl (sX4_fail (by omega) e13) ?_
      rintro _ _ ⟨rfl, rfl⟩
      cases e
      exact xw_yr hd0 2 [] rfl trivial ⟨rfl, rfl⟩
set_option maxRecDepth 20000 in
set_option maxHeartbeats 4000000 in
theorem sX4_readSign {LL : Nat} {xs : Nat → Int32} {tx : List xh_T} {d : Nat} {A V : xM} {cu : Value} {A' V' : xM} {c' : Value} (hd : 62 ≤ d) (e : fX4_readSign A V cu = some (A', V', c')) : xe (xk_ro LL xs) d 43 [.ref 95] (xh A V tx cu) (qU (xh A' V' tx c')) := by
  obtain ⟨d, rfl⟩ : ∃ d1, d = d1 + 1 := ⟨d - 1, by omega⟩
  replace hd : 61 ≤ d := by omega
  have hd0 : 60 ≤ d := by omega
  refine xe_of (co := xk_43) (nl := 3) rfl rfl rfl ?_
  unfold fX4_readSign at e
  obtain ⟨h1, e⟩ := bC_ok e
  rcases ite_ok e with ⟨h2, e⟩ | ⟨h2, e⟩
  · rcases ite_ok e with ⟨h3, e⟩ | ⟨h3, e⟩
    · cases e
      exact xw_yr hd0 31 [1, 1, 1] rfl ⟨h1, rfl, rfl, decide_eq_true h2, decide_eq_true h3, rfl, trivial⟩ ⟨rfl, rfl⟩
    · rcases ite_ok e with ⟨h4, e⟩ | ⟨h4, e⟩
      · cases e
        exact xw_yr hd0 35 [1, 0, 1, 1] rfl ⟨h1, rfl, rfl, decide_eq_true h2, nt h3, decide_eq_true h4, rfl, trivial⟩ ⟨rfl, rfl⟩
      · rcases ite_ok e with ⟨h5, e⟩ | ⟨h5, e⟩
        · cases e
          exact xw_yr hd0 39 [1, 0, 0, 0, 1] rfl ⟨h1, rfl, rfl, decide_eq_true h2, nt h3, nt h4, nnt h5, rfl, trivial⟩ ⟨rfl, rfl⟩
        · cases e
          exact xw_yr hd0 38 [1, 0, 0, 1, 1] rfl ⟨h1, rfl, rfl, decide_eq_true h2, nt h3, nt h4, nt h5, rfl, trivial⟩ ⟨rfl, rfl⟩
  · rcases ite_ok e with ⟨h6, e⟩ | ⟨h6, e⟩
    · rcases ite_ok e with ⟨h7, e⟩ | ⟨h7, e⟩
      · cases e
        exact xw_yr hd0 35 [0, 1, 1, 1] rfl ⟨h1, rfl, rfl, nt h2, decide_eq_true h6, decide_eq_true h7, rfl, trivial⟩ ⟨rfl, rfl⟩
      · rcases ite_ok e with ⟨h8, e⟩ | ⟨h8, e⟩
        · cases e
          exact xw_yr hd0 39 [0, 1, 0, 1, 1] rfl ⟨h1, rfl, rfl, nt h2, decide_eq_true h6, nt h7, decide_eq_true h8, rfl, trivial⟩ ⟨rfl, rfl⟩
        · rcases ite_ok e with ⟨h9, e⟩ | ⟨h9, e⟩
          · cases e
            exact xw_yr hd0 43 [0, 1, 0, 0, 0, 1] rfl ⟨h1, rfl, rfl, nt h2, decide_eq_true h6, nt h7, nt h8, nnt h9, rfl, trivial⟩ ⟨rfl, rfl⟩
          · cases e
            exact xw_yr hd0 42 [0, 1, 0, 0, 1, 1] rfl ⟨h1, rfl, rfl, nt h2, decide_eq_true h6, nt h7, nt h8, nt h9, rfl, trivial⟩ ⟨rfl, rfl⟩
    · rcases ite_ok e with ⟨h10, e⟩ | ⟨h10, e⟩
      · rcases ite_ok e with ⟨h11, e⟩ | ⟨h11, e⟩
        · cases e
          exact xw_yr hd0 39 [0, 0, 0, 1, 1] rfl ⟨h1, rfl, rfl, nt h2, nt h6, nnt h10, decide_eq_true h11, rfl, trivial⟩ ⟨rfl, rfl⟩
        · rcases ite_ok e with ⟨h12, e⟩ | ⟨h12, e⟩
          · cases e
            exact xw_yr hd0 43 [0, 0, 0, 0, 1, 1] rfl ⟨h1, rfl, rfl, nt h2, nt h6, nnt h10, nt h11, decide_eq_true h12, rfl, trivial⟩ ⟨rfl, rfl⟩
          · rcases ite_ok e with ⟨h13, e⟩ | ⟨h13, e⟩
            · cases e
              exact xw_yr hd0 47 [0, 0, 0, 0, 0, 0, 1] rfl ⟨h1, rfl, rfl, nt h2, nt h6, nnt h10, nt h11, nt h12, nnt h13, rfl, trivial⟩ ⟨rfl, rfl⟩
            · cases e
              exact xw_yr hd0 46 [0, 0, 0, 0, 0, 1, 1] rfl ⟨h1, rfl, rfl, nt h2, nt h6, nnt h10, nt h11, nt h12, nt h13, rfl, trivial⟩ ⟨rfl, rfl⟩
      · rcases ite_ok e with ⟨h14, e⟩ | ⟨h14, e⟩
        · cases e
          exact xw_yr hd0 40 [0, 0, 1, 1, 0, 1] rfl ⟨h1, rfl, rfl, nt h2, nt h6, nt h10, decide_eq_true h14, rfl, rfl, trivial⟩ ⟨rfl, rfl⟩
        · rcases ite_ok e with ⟨h15, e⟩ | ⟨h15, e⟩
          · cases e
            exact xw_yr hd0 44 [0, 0, 1, 0, 1, 0, 1] rfl ⟨h1, rfl, rfl, nt h2, nt h6, nt h10, nt h14, decide_eq_true h15, rfl, rfl, trivial⟩ ⟨rfl, rfl⟩
          · rcases ite_ok e with ⟨h16, e⟩ | ⟨h16, e⟩
            · cases e
              exact xw_yr hd0 48 [0, 0, 1, 0, 0, 0, 0, 1] rfl ⟨h1, rfl, rfl, nt h2, nt h6, nt h10, nt h14, nt h15, nnt h16, rfl, rfl, trivial⟩ ⟨rfl, rfl⟩
            · rcases ite_ok e with ⟨h17, e⟩ | ⟨h17, e⟩
              · cases e
                exact xw_yr hd0 51 [0, 0, 1, 0, 0, 1, 0, 0, 1] rfl ⟨h1, rfl, rfl, nt h2, nt h6, nt h10, nt h14, nt h15, nt h16, rfl, rfl, decide_eq_true h17, trivial⟩ ⟨rfl, rfl⟩
              · rcases ite_ok e with ⟨h18, e⟩ | ⟨h18, e⟩
                · cases e
                  exact xw_yr hd0 55 [0, 0, 1, 0, 0, 1, 0, 0, 0, 1] rfl ⟨h1, rfl, rfl, nt h2, nt h6, nt h10, nt h14, nt h15, nt h16, rfl, rfl, nt h17, decide_eq_true h18, trivial⟩ ⟨rfl, rfl⟩
                · refine xw_y hd0 54 [0, 0, 1, 0, 0, 1, 0, 0, 0, 0] rfl ⟨h1, rfl, rfl, nt h2, nt h6, nt h10, nt h14, nt h15, nt h16, rfl, rfl, nt h17, nt h18, trivial⟩ ?_
                  obtain ⟨A20, V21, c22, e23, e⟩ := bS_ok e
                  refine xw_call (k := 39) (j := 1) rfl (fun F => xm_c_ok (y_c_ok rfl) F) rfl rfl rfl (sX4_fail (by omega) e23) ?_
                  rintro _ _ ⟨rfl, rfl⟩
                  cases e
                  exact xw_yr hd0 2 [] rfl trivial ⟨rfl, rfl⟩
set_option maxRecDepth 20000 in
set_option maxHeartbeats 4000000 in
theorem slX4_next_L0 {LL : Nat} {xs : Nat → Int32} {tx : List xh_T} {d : Nat} {A' V' : xM} {c' : Value} {ex : xM → xM → Value → Option (xS)} (hd : 63 ≤ d) (hex : ∀ (A V : xM) (cu : Value), ex  A V cu = some (A', V', c') → xw (xk_ro LL xs) d xk_40 52 [some (.ref 95)] [] (xh A V tx cu) (qU (xh A' V' tx c'))) : ∀ (n : Nat) (A V : xM) (cu : Value), fX4_next_L0 ex n  A V cu = some (A', V', c') → xw (xk_ro LL xs) d xk_40 0 [some (.ref 95)] [] (xh A V tx cu) (qU (xh A' V' tx c')) := by
  have hd0 : 60 ≤ d := by omega
  intro n
  induction n with
  | zero =>
    intro A V cu e
    rw [fX4_next_L0] at e
    cases e
  | succ n ih =>
    intro A V cu e
    rw [fX4_next_L0] at e
    rcases ite_ok e with ⟨h1, e⟩ | ⟨h1, e⟩
    · refine xw_y hd0 5 [1] rfl ⟨decide_eq_true h1, trivial⟩ ?_
      exact hex _ _ _ e
    · obtain ⟨h2, e⟩ := bC_ok e
      rcases ite_ok e with ⟨h3, e⟩ | ⟨h3, e⟩
      · refine xw_y hd0 19 [0, 1] rfl ⟨nt h1, h2, decide_eq_true h3, rfl, trivial⟩ ?_
        exact ih _ _ _ e
      · rcases ite_ok e with ⟨h4, e⟩ | ⟨h4, e⟩
        · refine xw_y hd0 26 [0, 0, 0] rfl ⟨nt h1, h2, nt h3, h2, nnt h4, rfl, trivial⟩ ?_
          exact ih _ _ _ e
        · refine xw_y hd0 19 [0, 0, 1] rfl ⟨nt h1, h2, nt h3, h2, nt h4, trivial⟩ ?_
          exact hex _ _ _ e
set_option maxRecDepth 20000 in
set_option maxHeartbeats 4000000 in
theorem sX4_next {LL : Nat} {xs : Nat → Int32} {tx : List xh_T} {d : Nat} {A V : xM} {cu : Value} {A' V' : xM} {c' : Value} (hd : 64 ≤ d) (e : fX4_next A V cu = some (A', V', c')) : xe (xk_ro LL xs) d 40 [.ref 95] (xh A V tx cu) (qU (xh A' V' tx c')) := by
  obtain ⟨d, rfl⟩ : ∃ d1, d = d1 + 1 := ⟨d - 1, by omega⟩
  replace hd : 63 ≤ d := by omega
  have hd0 : 60 ≤ d := by omega
  refine xe_of (co := xk_40) (nl := 1) rfl rfl rfl ?_
  unfold fX4_next at e
  refine slX4_next_L0 hd ?_ FU _ _ _ e
  · intro A5 V6 c7 e
    rcases ite_ok e with ⟨h8, e⟩ | ⟨h8, e⟩
    · obtain ⟨h9, e⟩ := bC_ok e
      rcases ite_ok e with ⟨h10, e⟩ | ⟨h10, e⟩
      · rcases ite_ok e with ⟨h11, e⟩ | ⟨h11, e⟩
        · refine xw_y hd0 34 [1, 1, 1, 1, 1] rfl ⟨rfl, decide_eq_true h8, h9, decide_eq_true h10, rfl, rfl, h9, decide_eq_true h11, rfl, rfl, trivial⟩ ?_
          obtain ⟨A13, V14, c15, e16, e⟩ := bS_ok e
          refine xw_call (k := 43) (j := 1) rfl (fun F => xm_c_ok (y_c_ok rfl) F) rfl rfl rfl (sX4_readSign (by omega) e16) ?_
          rintro _ _ ⟨rfl, rfl⟩
          cases e
          exact xw_yr hd0 2 [] rfl trivial ⟨rfl, rfl⟩
        · rcases ite_ok e with ⟨h17, e⟩ | ⟨h17, e⟩
          · refine xw_y hd0 37 [1, 1, 1, 0, 1, 1] rfl ⟨rfl, decide_eq_true h8, h9, decide_eq_true h10, rfl, rfl, h9, nt h11, decide_eq_true h17, rfl, rfl, trivial⟩ ?_
            obtain ⟨A19, V20, c21, e22, e⟩ := bS_ok e
            refine xw_call (k := 43) (j := 1) rfl (fun F => xm_c_ok (y_c_ok rfl) F) rfl rfl rfl (sX4_readSign (by omega) e22) ?_
            rintro _ _ ⟨rfl, rfl⟩
            cases e
            exact xw_yr hd0 2 [] rfl trivial ⟨rfl, rfl⟩
          · refine xw_y hd0 38 [1, 1, 1, 0, 0, 0] rfl ⟨rfl, decide_eq_true h8, h9, decide_eq_true h10, rfl, rfl, h9, nt h11, nt h17, rfl, rfl, trivial⟩ ?_
            obtain ⟨A24, V25, c26, e27, e⟩ := bS_ok e
            refine xw_call (k := 42) (j := 1) rfl (fun F => xm_c_ok (y_c_ok rfl) F) rfl rfl rfl (sX4_readNumber (by omega) e27) ?_
            rintro _ _ ⟨rfl, rfl⟩
            cases e
            exact xw_yr hd0 3 [] rfl trivial ⟨rfl, rfl⟩
      · rcases ite_ok e with ⟨h28, e⟩ | ⟨h28, e⟩
        · rcases ite_ok e with ⟨h29, e⟩ | ⟨h29, e⟩
          · refine xw_y hd0 37 [1, 0, 1, 1, 1, 1] rfl ⟨rfl, decide_eq_true h8, h9, nt h10, decide_eq_true h28, rfl, rfl, h9, decide_eq_true h29, rfl, rfl, trivial⟩ ?_
            obtain ⟨A31, V32, c33, e34, e⟩ := bS_ok e
            refine xw_call (k := 43) (j := 1) rfl (fun F => xm_c_ok (y_c_ok rfl) F) rfl rfl rfl (sX4_readSign (by omega) e34) ?_
            rintro _ _ ⟨rfl, rfl⟩
            cases e
            exact xw_yr hd0 2 [] rfl trivial ⟨rfl, rfl⟩
          · rcases ite_ok e with ⟨h35, e⟩ | ⟨h35, e⟩
            · refine xw_y hd0 40 [1, 0, 1, 1, 0, 1, 1] rfl ⟨rfl, decide_eq_true h8, h9, nt h10, decide_eq_true h28, rfl, rfl, h9, nt h29, decide_eq_true h35, rfl, rfl, trivial⟩ ?_
              obtain ⟨A37, V38, c39, e40, e⟩ := bS_ok e
              refine xw_call (k := 43) (j := 1) rfl (fun F => xm_c_ok (y_c_ok rfl) F) rfl rfl rfl (sX4_readSign (by omega) e40) ?_
              rintro _ _ ⟨rfl, rfl⟩
              cases e
              exact xw_yr hd0 2 [] rfl trivial ⟨rfl, rfl⟩
            · refine xw_y hd0 41 [1, 0, 1, 1, 0, 0, 0] rfl ⟨rfl, decide_eq_true h8, h9, nt h10, decide_eq_true h28, rfl, rfl, h9, nt h29, nt h35, rfl, rfl, trivial⟩ ?_
              obtain ⟨A42, V43, c44, e45, e⟩ := bS_ok e
              refine xw_call (k := 42) (j := 1) rfl (fun F => xm_c_ok (y_c_ok rfl) F) rfl rfl rfl (sX4_readNumber (by omega) e45) ?_
              rintro _ _ ⟨rfl, rfl⟩
              cases e
              exact xw_yr hd0 3 [] rfl trivial ⟨rfl, rfl⟩
        · refine xw_y hd0 26 [1, 0, 0, 0] rfl ⟨rfl, decide_eq_true h8, h9, nt h10, nt h28, rfl, rfl, trivial⟩ ?_
          obtain ⟨A47, V48, c49, e50, e⟩ := bS_ok e
          refine xw_call (k := 41) (j := 1) rfl (fun F => xm_c_ok (y_c_ok rfl) F) rfl rfl rfl (sX4_readWord (by omega) e50) ?_
          rintro _ _ ⟨rfl, rfl⟩
          cases e
          exact xw_yr hd0 3 [] rfl trivial ⟨rfl, rfl⟩
    · cases e
      exact xw_yr hd0 15 [0] rfl ⟨rfl, nt h8, rfl, trivial⟩ ⟨rfl, rfl⟩
set_option maxRecDepth 20000 in
set_option maxHeartbeats 4000000 in
theorem sX4_expect {LL : Nat} {xs : Nat → Int32} {tx : List xh_T} {d : Nat} {A V : xM} {cu : Value} {A' V' : xM} {c' : Value} {l1 : Int32} (hd : 65 ≤ d) (e : fX4_expect l1 A V cu = some (A', V', c')) : xe (xk_ro LL xs) d 38 [.ref 95, .int l1] (xh A V tx cu) (qU (xh A' V' tx c')) := by
  obtain ⟨d, rfl⟩ : ∃ d1, d = d1 + 1 := ⟨d - 1, by omega⟩
  replace hd : 64 ≤ d := by omega
  have hd0 : 60 ≤ d := by omega
  refine xe_of (co := xk_38) (nl := 2) rfl rfl rfl ?_
  unfold fX4_expect at e
  rcases ite_ok e with ⟨h1, e⟩ | ⟨h1, e⟩
  · refine xw_y hd0 5 [0] rfl ⟨nnt h1, trivial⟩ ?_
    obtain ⟨A3, V4, c5, e6, e⟩ := bS_ok e
    refine xw_call (k := 40) (j := 1) rfl (fun F => xm_c_ok (y_c_ok rfl) F) rfl rfl rfl (sX4_next (by omega) e6) ?_
    rintro _ _ ⟨rfl, rfl⟩
    cases e
    exact xw_yr hd0 3 [] rfl trivial ⟨rfl, rfl⟩
  · refine xw_y hd0 5 [1] rfl ⟨nt h1, trivial⟩ ?_
    obtain ⟨A8, V9, c10, e11, e⟩ := bS_ok e
    refine xw_call (k := 39) (j := 1) rfl (fun F => xm_c_ok (y_c_ok rfl) F) rfl rfl rfl (sX4_fail (by omega) e11) ?_
    rintro _ _ ⟨rfl, rfl⟩
    cases e
    exact xw_yr hd0 2 [] rfl trivial ⟨rfl, rfl⟩
set_option maxRecDepth 20000 in
set_option maxHeartbeats 4000000 in
theorem sX4_step {LL : Nat} {xs : Nat → Int32} {tx : List xh_T} {d : Nat} {A V : xM} {cu : Value} {A' V' : xM} {c' : Value} {l1 : Int32} (hd : 61 ≤ d) (e : fX4_step l1 A V cu = some (A', V', c')) : xe (xk_ro LL xs) d 37 [.ref 95, .int l1] (xh A V tx cu) (qU (xh A' V' tx c')) := by
  obtain ⟨d, rfl⟩ : ∃ d1, d = d1 + 1 := ⟨d - 1, by omega⟩
  replace hd : 60 ≤ d := by omega
  have hd0 : 60 ≤ d := by omega
  refine xe_of (co := xk_37) (nl := 2) rfl rfl rfl ?_
  unfold fX4_step at e
  rcases ite_ok e with ⟨h1, e⟩ | ⟨h1, e⟩
  · cases e
    exact xw_yr hd0 6 [1] rfl ⟨decide_eq_true h1, trivial⟩ ⟨rfl, rfl⟩
  · obtain ⟨h2, e⟩ := bC_ok e
    cases e
    exact xw_yr hd0 18 [0] rfl ⟨nt h1, h2, rfl, trivial⟩ ⟨rfl, rfl⟩
set_option maxRecDepth 20000 in
set_option maxHeartbeats 4000000 in
theorem sX4_readSingle {LL : Nat} {xs : Nat → Int32} {tx : List xh_T} {d : Nat} {A V : xM} {cu : Value} {A' V' : xM} {c' : Value} {l1 : Int32} {rc : Nat → Int32 → xM → xM → Value → Option xS} (hrc : ∀ (k : Nat) (l : Int32) (A V : xM) (cu : Value) (A' V' : xM) (c' : Value), rc k l A V cu = some (A', V', c') → xe (xk_ro LL xs) d k [.ref 95, .int l] (xh A V tx cu) (qU (xh A' V' tx c'))) (hd : 65 ≤ d) (e : fX4_readSingle rc l1 A V cu = some (A', V', c')) : xe (xk_ro LL xs) (d + 1) 36 [.ref 95, .int l1] (xh A V tx cu) (qU (xh A' V' tx c')) := by
  have hd0 : 60 ≤ d := by omega
  refine xe_of (co := xk_36) (nl := 2) rfl rfl rfl ?_
  unfold fX4_readSingle at e
  rcases ite_ok e with ⟨h1, e⟩ | ⟨h1, e⟩
  · refine xw_y hd0 7 [0] rfl ⟨nnt h1, trivial⟩ ?_
    obtain ⟨A3, V4, c5, e6, e⟩ := bS_ok e
    refine xw_call (k := 37) (j := 2) rfl (fun F => xm_c_ok (y_c_ok rfl) F) rfl rfl rfl (sX4_step (by omega) e6) ?_
    rintro _ _ ⟨rfl, rfl⟩
    refine xw_y hd0 1 [] rfl trivial ?_
    obtain ⟨A8, V9, c10, e11, e⟩ := bS_ok e
    refine xw_call (k := 40) (j := 1) rfl (fun F => xm_c_ok (y_c_ok rfl) F) rfl rfl rfl (sX4_next (by omega) e11) ?_
    rintro _ _ ⟨rfl, rfl⟩
    cases e
    exact xw_yr hd0 3 [] rfl trivial ⟨rfl, rfl⟩
  · rcases ite_ok e with ⟨h12, e⟩ | ⟨h12, e⟩
    · rcases ite_ok e with ⟨h13, e⟩ | ⟨h13, e⟩
      · rcases ite_ok e with ⟨h14, e⟩ | ⟨h14, e⟩
        · rcases ite_ok e with ⟨h15, e⟩ | ⟨h15, e⟩
          · refine xw_y hd0 23 [1, 1, 0, 1, 0, 1] rfl ⟨nt h1, decide_eq_true h12, nnt h13, decide_eq_true h14, nnt h15, decide_eq_true h14, trivial⟩ ?_
            obtain ⟨A17, V18, c19, e20, e⟩ := bS_ok e
            refine xw_call (k := 39) (j := 1) rfl (fun F => xm_c_ok (y_c_ok rfl) F) rfl rfl rfl (sX4_fail (by omega) e20) ?_
            rintro _ _ ⟨rfl, rfl⟩
            cases e
            exact xw_yr hd0 2 [] rfl trivial ⟨rfl, rfl⟩
          · refine xw_y hd0 20 [1, 1, 0, 1, 1] rfl ⟨nt h1, decide_eq_true h12, nnt h13, decide_eq_true h14, nt h15, trivial⟩ ?_
            obtain ⟨A22, V23, c24, e25, e⟩ := bS_ok e
            refine xw_call (k := 39) (j := 1) rfl (fun F => xm_c_ok (y_c_ok rfl) F) rfl rfl rfl (sX4_fail (by omega) e25) ?_
            rintro _ _ ⟨rfl, rfl⟩
            cases e
            exact xw_yr hd0 2 [] rfl trivial ⟨rfl, rfl⟩
        · refine xw_y hd0 16 [1, 1, 0, 0] rfl ⟨nt h1, decide_eq_true h12, nnt h13, nt h14, trivial⟩ ?_
          obtain ⟨A27, V28, c29, e30, e⟩ := bS_ok e
          refine xw_call (k := 40) (j := 1) rfl (fun F => xm_c_ok (y_c_ok rfl) F) rfl rfl rfl (sX4_next (by omega) e30) ?_
          rintro _ _ ⟨rfl, rfl⟩
          refine xw_y hd0 4 [] rfl trivial ?_
          obtain ⟨A32, V33, c34, e35, e⟩ := bS_ok e
          refine xw_call (k := 36) (j := 2) rfl (fun F => xm_c_ok (y_c_ok rfl) F) rfl rfl rfl (hrc _ _ _ _ _ _ _ _ e35) ?_
          rintro _ _ ⟨rfl, rfl⟩
          refine xw_y hd0 2 [] rfl trivial ?_
          obtain ⟨A37, V38, c39, e40, e⟩ := bS_ok e
          refine xw_call (k := 37) (j := 2) rfl (fun F => xm_c_ok (y_c_ok rfl) F) rfl rfl rfl (sX4_step (by omega) e40) ?_
          rintro _ _ ⟨rfl, rfl⟩
          cases e
          exact xw_yr hd0 3 [] rfl trivial ⟨rfl, rfl⟩
      · rcases ite_ok e with ⟨h41, e⟩ | ⟨h41, e⟩
        · rcases ite_ok e with ⟨h42, e⟩ | ⟨h42, e⟩
          · refine xw_y hd0 20 [1, 1, 1, 0, 1] rfl ⟨nt h1, decide_eq_true h12, nt h13, nnt h41, decide_eq_true h42, trivial⟩ ?_
            obtain ⟨A44, V45, c46, e47, e⟩ := bS_ok e
            refine xw_call (k := 39) (j := 1) rfl (fun F => xm_c_ok (y_c_ok rfl) F) rfl rfl rfl (sX4_fail (by omega) e47) ?_
            rintro _ _ ⟨rfl, rfl⟩
            cases e
            exact xw_yr hd0 2 [] rfl trivial ⟨rfl, rfl⟩
          · refine xw_y hd0 20 [1, 1, 1, 0, 0] rfl ⟨nt h1, decide_eq_true h12, nt h13, nnt h41, nt h42, trivial⟩ ?_
            obtain ⟨A49, V50, c51, e52, e⟩ := bS_ok e
            refine xw_call (k := 40) (j := 1) rfl (fun F => xm_c_ok (y_c_ok rfl) F) rfl rfl rfl (sX4_next (by omega) e52) ?_
            rintro _ _ ⟨rfl, rfl⟩
            refine xw_y hd0 4 [] rfl trivial ?_
            obtain ⟨A54, V55, c56, e57, e⟩ := bS_ok e
            refine xw_call (k := 31) (j := 2) rfl (fun F => xm_c_ok (y_c_ok rfl) F) rfl rfl rfl (hrc _ _ _ _ _ _ _ _ e57) ?_
            rintro _ _ ⟨rfl, rfl⟩
            refine xw_y hd0 2 [] rfl trivial ?_
            obtain ⟨A59, V60, c61, e62, e⟩ := bS_ok e
            refine xw_call (k := 38) (j := 2) rfl (fun F => xm_c_ok (y_c_ok rfl) F) rfl rfl rfl (sX4_expect (by omega) e62) ?_
            rintro _ _ ⟨rfl, rfl⟩
            cases e
            exact xw_yr hd0 3 [] rfl trivial ⟨rfl, rfl⟩
        · refine xw_y hd0 17 [1, 1, 1, 1] rfl ⟨nt h1, decide_eq_true h12, nt h13, nt h41, trivial⟩ ?_
          obtain ⟨A64, V65, c66, e67, e⟩ := bS_ok e
          refine xw_call (k := 39) (j := 1) rfl (fun F => xm_c_ok (y_c_ok rfl) F) rfl rfl rfl (sX4_fail (by omega) e67) ?_
          rintro _ _ ⟨rfl, rfl⟩
          cases e
          exact xw_yr hd0 2 [] rfl trivial ⟨rfl, rfl⟩
    · rcases ite_ok e with ⟨h68, e⟩ | ⟨h68, e⟩
      · rcases ite_ok e with ⟨h69, e⟩ | ⟨h69, e⟩
        · rcases ite_ok e with ⟨h70, e⟩ | ⟨h70, e⟩
          · rcases ite_ok e with ⟨h71, e⟩ | ⟨h71, e⟩
            · refine xw_y hd0 27 [1, 0, 1, 0, 1, 0, 1] rfl ⟨nt h1, nt h12, decide_eq_true h68, nnt h69, decide_eq_true h70, nnt h71, decide_eq_true h70, trivial⟩ ?_
              obtain ⟨A73, V74, c75, e76, e⟩ := bS_ok e
              refine xw_call (k := 39) (j := 1) rfl (fun F => xm_c_ok (y_c_ok rfl) F) rfl rfl rfl (sX4_fail (by omega) e76) ?_
              rintro _ _ ⟨rfl, rfl⟩
              cases e
              exact xw_yr hd0 2 [] rfl trivial ⟨rfl, rfl⟩
            · refine xw_y hd0 24 [1, 0, 1, 0, 1, 1] rfl ⟨nt h1, nt h12, decide_eq_true h68, nnt h69, decide_eq_true h70, nt h71, trivial⟩ ?_
              obtain ⟨A78, V79, c80, e81, e⟩ := bS_ok e
              refine xw_call (k := 39) (j := 1) rfl (fun F => xm_c_ok (y_c_ok rfl) F) rfl rfl rfl (sX4_fail (by omega) e81) ?_
              rintro _ _ ⟨rfl, rfl⟩
              cases e
              exact xw_yr hd0 2 [] rfl trivial ⟨rfl, rfl⟩
          · refine xw_y hd0 20 [1, 0, 1, 0, 0] rfl ⟨nt h1, nt h12, decide_eq_true h68, nnt h69, nt h70, trivial⟩ ?_
            obtain ⟨A83, V84, c85, e86, e⟩ := bS_ok e
            refine xw_call (k := 40) (j := 1) rfl (fun F => xm_c_ok (y_c_ok rfl) F) rfl rfl rfl (sX4_next (by omega) e86) ?_
            rintro _ _ ⟨rfl, rfl⟩
            refine xw_y hd0 4 [] rfl trivial ?_
            obtain ⟨A88, V89, c90, e91, e⟩ := bS_ok e
            refine xw_call (k := 36) (j := 2) rfl (fun F => xm_c_ok (y_c_ok rfl) F) rfl rfl rfl (hrc _ _ _ _ _ _ _ _ e91) ?_
            rintro _ _ ⟨rfl, rfl⟩
            refine xw_y hd0 2 [] rfl trivial ?_
            obtain ⟨A93, V94, c95, e96, e⟩ := bS_ok e
            refine xw_call (k := 37) (j := 2) rfl (fun F => xm_c_ok (y_c_ok rfl) F) rfl rfl rfl (sX4_step (by omega) e96) ?_
            rintro _ _ ⟨rfl, rfl⟩
            cases e
            exact xw_yr hd0 3 [] rfl trivial ⟨rfl, rfl⟩
        · rcases ite_ok e with ⟨h97, e⟩ | ⟨h97, e⟩
          · rcases ite_ok e with ⟨h98, e⟩ | ⟨h98, e⟩
            · refine xw_y hd0 24 [1, 0, 1, 1, 0, 1] rfl ⟨nt h1, nt h12, decide_eq_true h68, nt h69, nnt h97, decide_eq_true h98, trivial⟩ ?_
              obtain ⟨A100, V101, c102, e103, e⟩ := bS_ok e
              refine xw_call (k := 39) (j := 1) rfl (fun F => xm_c_ok (y_c_ok rfl) F) rfl rfl rfl (sX4_fail (by omega) e103) ?_
              rintro _ _ ⟨rfl, rfl⟩
              cases e
              exact xw_yr hd0 2 [] rfl trivial ⟨rfl, rfl⟩
            · refine xw_y hd0 24 [1, 0, 1, 1, 0, 0] rfl ⟨nt h1, nt h12, decide_eq_true h68, nt h69, nnt h97, nt h98, trivial⟩ ?_
              obtain ⟨A105, V106, c107, e108, e⟩ := bS_ok e
              refine xw_call (k := 40) (j := 1) rfl (fun F => xm_c_ok (y_c_ok rfl) F) rfl rfl rfl (sX4_next (by omega) e108) ?_
              rintro _ _ ⟨rfl, rfl⟩
              refine xw_y hd0 4 [] rfl trivial ?_
              obtain ⟨A110, V111, c112, e113, e⟩ := bS_ok e
              refine xw_call (k := 31) (j := 2) rfl (fun F => xm_c_ok (y_c_ok rfl) F) rfl rfl rfl (hrc _ _ _ _ _ _ _ _ e113) ?_
              rintro _ _ ⟨rfl, rfl⟩
              refine xw_y hd0 2 [] rfl trivial ?_
              obtain ⟨A115, V116, c117, e118, e⟩ := bS_ok e
              refine xw_call (k := 38) (j := 2) rfl (fun F => xm_c_ok (y_c_ok rfl) F) rfl rfl rfl (sX4_expect (by omega) e118) ?_
              rintro _ _ ⟨rfl, rfl⟩
              cases e
              exact xw_yr hd0 3 [] rfl trivial ⟨rfl, rfl⟩
          · refine xw_y hd0 21 [1, 0, 1, 1, 1] rfl ⟨nt h1, nt h12, decide_eq_true h68, nt h69, nt h97, trivial⟩ ?_
            obtain ⟨A120, V121, c122, e123, e⟩ := bS_ok e
            refine xw_call (k := 39) (j := 1) rfl (fun F => xm_c_ok (y_c_ok rfl) F) rfl rfl rfl (sX4_fail (by omega) e123) ?_
            rintro _ _ ⟨rfl, rfl⟩
            cases e
            exact xw_yr hd0 2 [] rfl trivial ⟨rfl, rfl⟩
      · refine xw_y hd0 16 [1, 0, 0] rfl ⟨nt h1, nt h12, nt h68, trivial⟩ ?_
        obtain ⟨A125, V126, c127, e128, e⟩ := bS_ok e
        refine xw_call (k := 37) (j := 2) rfl (fun F => xm_c_ok (y_c_ok rfl) F) rfl rfl rfl (sX4_step (by omega) e128) ?_
        rintro _ _ ⟨rfl, rfl⟩
        refine xw_y hd0 1 [] rfl trivial ?_
        obtain ⟨A130, V131, c132, e133, e⟩ := bS_ok e
        refine xw_call (k := 40) (j := 1) rfl (fun F => xm_c_ok (y_c_ok rfl) F) rfl rfl rfl (sX4_next (by omega) e133) ?_
        rintro _ _ ⟨rfl, rfl⟩
        cases e
        exact xw_yr hd0 3 [] rfl trivial ⟨rfl, rfl⟩
set_option maxRecDepth 20000 in
set_option maxHeartbeats 4000000 in
theorem slX4_readTerm_L7 {LL : Nat} {xs : Nat → Int32} {tx : List xh_T} {d : Nat} {A' V' : xM} {c' : Value} {l1 : Int32} {ex : xM → xM → Value → Option (xS)} {rc : Nat → Int32 → xM → xM → Value → Option xS} (hrc : ∀ (k : Nat) (l : Int32) (A V : xM) (cu : Value) (A' V' : xM) (c' : Value), rc k l A V cu = some (A', V', c') → xe (xk_ro LL xs) d k [.ref 95, .int l] (xh A V tx cu) (qU (xh A' V' tx c')))  (hd : 64 ≤ d) (hex : ∀ (w0 w1 w2 : Option Value) (A V : xM) (cu : Value), ex  A V cu = some (A', V', c') → xw (xk_ro LL xs) d xk_35 44 [w0, w1, w2] [] (xh A V tx cu) (qU (xh A' V' tx c'))) : ∀ (n : Nat) (l2 : Int32) (A V : xM) (cu : Value), fX4_readTerm_L7 rc l1 ex n l2 A V cu = some (A', V', c') → xw (xk_ro LL xs) d xk_35 7 [some (.ref 95), some (.int l1), some (.int l2)] [] (xh A V tx cu) (qU (xh A' V' tx c')) := by
  have hd0 : 60 ≤ d := by omega
  intro n
  induction n with
  | zero =>
    intro l2 A V cu e
    rw [fX4_readTerm_L7] at e
    cases e
  | succ n ih =>
    intro l2 A V cu e
    rw [fX4_readTerm_L7] at e
    rcases ite_ok e with ⟨h1, e⟩ | ⟨h1, e⟩
    · refine xw_y hd0 3 [1] rfl ⟨decide_eq_true h1, trivial⟩ ?_
      exact hex _ _ _ _ _ _ e
    · rcases ite_ok e with ⟨h2, e⟩ | ⟨h2, e⟩
      · refine xw_y hd0 8 [0, 0] rfl ⟨nt h1, nnt h2, trivial⟩ ?_
        obtain ⟨A4, V5, c6, e7, e⟩ := bS_ok e
        refine xw_call (k := 40) (j := 1) rfl (fun F => xm_c_ok (y_c_ok rfl) F) rfl rfl rfl (sX4_next (by omega) e7) ?_
        rintro _ _ ⟨rfl, rfl⟩
        refine xw_y hd0 2 [] rfl trivial ?_
        obtain ⟨A9, V10, c11, e12, e⟩ := bS_ok e
        refine xw_call (k := 36) (j := 2) rfl (fun F => xm_c_ok (y_c_ok rfl) F) rfl rfl rfl (hrc _ _ _ _ _ _ _ _ e12) ?_
        rintro _ _ ⟨rfl, rfl⟩
        refine xw_y hd0 2 [] rfl trivial ?_
        obtain ⟨A14, V15, c16, e17, e⟩ := bS_ok e
        refine xw_call (k := 37) (j := 2) rfl (fun F => xm_c_ok (y_c_ok rfl) F) rfl rfl rfl (sX4_step (by omega) e17) ?_
        rintro _ _ ⟨rfl, rfl⟩
        refine xw_y hd0 2 [] rfl trivial ?_
        exact ih _ _ _ _ e
      · refine xw_y hd0 7 [0, 1] rfl ⟨nt h1, nt h2, trivial⟩ ?_
        exact hex _ _ _ _ _ _ e
set_option maxRecDepth 20000 in
set_option maxHeartbeats 4000000 in
theorem sX4_readTerm {LL : Nat} {xs : Nat → Int32} {tx : List xh_T} {d : Nat} {A V : xM} {cu : Value} {A' V' : xM} {c' : Value} {l1 : Int32} {rc : Nat → Int32 → xM → xM → Value → Option xS} (hrc : ∀ (k : Nat) (l : Int32) (A V : xM) (cu : Value) (A' V' : xM) (c' : Value), rc k l A V cu = some (A', V', c') → xe (xk_ro LL xs) d k [.ref 95, .int l] (xh A V tx cu) (qU (xh A' V' tx c'))) (hd : 64 ≤ d) (e : fX4_readTerm rc l1 A V cu = some (A', V', c')) : xe (xk_ro LL xs) (d + 1) 35 [.ref 95, .int l1] (xh A V tx cu) (qU (xh A' V' tx c')) := by
  have hd0 : 60 ≤ d := by omega
  refine xe_of (co := xk_35) (nl := 3) rfl rfl rfl ?_
  unfold fX4_readTerm at e
  refine xw_y hd0 2 [] rfl trivial ?_
  obtain ⟨A19, V20, c21, e22, e⟩ := bS_ok e
  refine xw_call (k := 36) (j := 2) rfl (fun F => xm_c_ok (y_c_ok rfl) F) rfl rfl rfl (hrc _ _ _ _ _ _ _ _ e22) ?_
  rintro _ _ ⟨rfl, rfl⟩
  refine xw_y hd0 2 [] rfl trivial ?_
  refine slX4_readTerm_L7 hrc hd ?_ FU _ _ _ _ e
  · intro z23 z24 z25 A26 V27 c28 e
    cases e
    exact xw_yr hd0 2 [] rfl trivial ⟨rfl, rfl⟩
set_option maxRecDepth 20000 in
set_option maxHeartbeats 4000000 in
theorem slX4_readSum_L7 {LL : Nat} {xs : Nat → Int32} {tx : List xh_T} {d : Nat} {A' V' : xM} {c' : Value} {l1 : Int32} {ex : xM → xM → Value → Option (xS)} {rc : Nat → Int32 → xM → xM → Value → Option xS} (hrc : ∀ (k : Nat) (l : Int32) (A V : xM) (cu : Value) (A' V' : xM) (c' : Value), rc k l A V cu = some (A', V', c') → xe (xk_ro LL xs) d k [.ref 95, .int l] (xh A V tx cu) (qU (xh A' V' tx c')))  (hd : 64 ≤ d) (hex : ∀ (w0 w1 w2 w3 : Option Value) (A V : xM) (cu : Value), ex  A V cu = some (A', V', c') → xw (xk_ro LL xs) d xk_34 58 [w0, w1, w2, w3] [] (xh A V tx cu) (qU (xh A' V' tx c'))) : ∀ (n : Nat) (l2 : Int32) (z3 : Option Value) (A V : xM) (cu : Value), fX4_readSum_L7 rc l1 ex n l2 A V cu = some (A', V', c') → xw (xk_ro LL xs) d xk_34 7 [some (.ref 95), some (.int l1), some (.int l2), z3] [] (xh A V tx cu) (qU (xh A' V' tx c')) := by
  have hd0 : 60 ≤ d := by omega
  intro n
  induction n with
  | zero =>
    intro l2 z3 A V cu e
    rw [fX4_readSum_L7] at e
    cases e
  | succ n ih =>
    intro l2 z3 A V cu e
    rw [fX4_readSum_L7] at e
    rcases ite_ok e with ⟨h1, e⟩ | ⟨h1, e⟩
    · refine xw_y hd0 3 [1] rfl ⟨decide_eq_true h1, trivial⟩ ?_
      exact hex _ _ _ _ _ _ _ e
    · rcases ite_ok e with ⟨h2, e⟩ | ⟨h2, e⟩
      · refine xw_y hd0 11 [0, 1] rfl ⟨nt h1, decide_eq_true h2, trivial⟩ ?_
        obtain ⟨A4, V5, c6, e7, e⟩ := bS_ok e
        refine xw_call (k := 40) (j := 1) rfl (fun F => xm_c_ok (y_c_ok rfl) F) rfl rfl rfl (sX4_next (by omega) e7) ?_
        rintro _ _ ⟨rfl, rfl⟩
        refine xw_y hd0 2 [] rfl trivial ?_
        obtain ⟨A9, V10, c11, e12, e⟩ := bS_ok e
        refine xw_call (k := 35) (j := 2) rfl (fun F => xm_c_ok (y_c_ok rfl) F) rfl rfl rfl (hrc _ _ _ _ _ _ _ _ e12) ?_
        rintro _ _ ⟨rfl, rfl⟩
        refine xw_y hd0 3 [] rfl trivial ?_
        obtain ⟨A14, V15, c16, e17, e⟩ := bS_ok e
        refine xw_call (k := 37) (j := 2) rfl (fun F => xm_c_ok (y_c_ok rfl) F) rfl rfl rfl (sX4_step (by omega) e17) ?_
        rintro _ _ ⟨rfl, rfl⟩
        refine xw_y hd0 2 [] rfl trivial ?_
        exact ih _ _ _ _ _ e
      · rcases ite_ok e with ⟨h18, e⟩ | ⟨h18, e⟩
        · refine xw_y hd0 15 [0, 0, 0] rfl ⟨nt h1, nt h2, nnt h18, trivial⟩ ?_
          obtain ⟨A20, V21, c22, e23, e⟩ := bS_ok e
          refine xw_call (k := 40) (j := 1) rfl (fun F => xm_c_ok (y_c_ok rfl) F) rfl rfl rfl (sX4_next (by omega) e23) ?_
          rintro _ _ ⟨rfl, rfl⟩
          refine xw_y hd0 2 [] rfl trivial ?_
          obtain ⟨A25, V26, c27, e28, e⟩ := bS_ok e
          refine xw_call (k := 35) (j := 2) rfl (fun F => xm_c_ok (y_c_ok rfl) F) rfl rfl rfl (hrc _ _ _ _ _ _ _ _ e28) ?_
          rintro _ _ ⟨rfl, rfl⟩
          refine xw_y hd0 3 [] rfl trivial ?_
          obtain ⟨A30, V31, c32, e33, e⟩ := bS_ok e
          refine xw_call (k := 37) (j := 2) rfl (fun F => xm_c_ok (y_c_ok rfl) F) rfl rfl rfl (sX4_step (by omega) e33) ?_
          rintro _ _ ⟨rfl, rfl⟩
          refine xw_y hd0 2 [] rfl trivial ?_
          exact ih _ _ _ _ _ e
        · refine xw_y hd0 11 [0, 0, 1] rfl ⟨nt h1, nt h2, nt h18, trivial⟩ ?_
          exact hex _ _ _ _ _ _ _ e
set_option maxRecDepth 20000 in
set_option maxHeartbeats 4000000 in
theorem sX4_readSum {LL : Nat} {xs : Nat → Int32} {tx : List xh_T} {d : Nat} {A V : xM} {cu : Value} {A' V' : xM} {c' : Value} {l1 : Int32} {rc : Nat → Int32 → xM → xM → Value → Option xS} (hrc : ∀ (k : Nat) (l : Int32) (A V : xM) (cu : Value) (A' V' : xM) (c' : Value), rc k l A V cu = some (A', V', c') → xe (xk_ro LL xs) d k [.ref 95, .int l] (xh A V tx cu) (qU (xh A' V' tx c'))) (hd : 64 ≤ d) (e : fX4_readSum rc l1 A V cu = some (A', V', c')) : xe (xk_ro LL xs) (d + 1) 34 [.ref 95, .int l1] (xh A V tx cu) (qU (xh A' V' tx c')) := by
  have hd0 : 60 ≤ d := by omega
  refine xe_of (co := xk_34) (nl := 4) rfl rfl rfl ?_
  unfold fX4_readSum at e
  refine xw_y hd0 2 [] rfl trivial ?_
  obtain ⟨A35, V36, c37, e38, e⟩ := bS_ok e
  refine xw_call (k := 35) (j := 2) rfl (fun F => xm_c_ok (y_c_ok rfl) F) rfl rfl rfl (hrc _ _ _ _ _ _ _ _ e38) ?_
  rintro _ _ ⟨rfl, rfl⟩
  refine xw_y hd0 2 [] rfl trivial ?_
  refine slX4_readSum_L7 hrc hd ?_ FU _ _ _ _ _ e
  · intro z39 z40 z41 z42 A43 V44 c45 e
    cases e
    exact xw_yr hd0 2 [] rfl trivial ⟨rfl, rfl⟩
set_option maxRecDepth 20000 in
set_option maxHeartbeats 4000000 in
theorem sX4_readNot {LL : Nat} {xs : Nat → Int32} {tx : List xh_T} {d : Nat} {A V : xM} {cu : Value} {A' V' : xM} {c' : Value} {l1 : Int32} {rc : Nat → Int32 → xM → xM → Value → Option xS} (hrc : ∀ (k : Nat) (l : Int32) (A V : xM) (cu : Value) (A' V' : xM) (c' : Value), rc k l A V cu = some (A', V', c') → xe (xk_ro LL xs) d k [.ref 95, .int l] (xh A V tx cu) (qU (xh A' V' tx c'))) (hd : 64 ≤ d) (e : fX4_readNot rc l1 A V cu = some (A', V', c')) : xe (xk_ro LL xs) (d + 1) 33 [.ref 95, .int l1] (xh A V tx cu) (qU (xh A' V' tx c')) := by
  have hd0 : 60 ≤ d := by omega
  refine xe_of (co := xk_33) (nl := 3) rfl rfl rfl ?_
  unfold fX4_readNot at e
  rcases ite_ok e with ⟨h1, e⟩ | ⟨h1, e⟩
  · rcases ite_ok e with ⟨h2, e⟩ | ⟨h2, e⟩
    · refine xw_y hd0 8 [0, 1] rfl ⟨nnt h1, decide_eq_true h2, trivial⟩ ?_
      obtain ⟨A4, V5, c6, e7, e⟩ := bS_ok e
      refine xw_call (k := 40) (j := 1) rfl (fun F => xm_c_ok (y_c_ok rfl) F) rfl rfl rfl (sX4_next (by omega) e7) ?_
      rintro _ _ ⟨rfl, rfl⟩
      refine xw_y hd0 4 [] rfl trivial ?_
      obtain ⟨A9, V10, c11, e12, e⟩ := bS_ok e
      refine xw_call (k := 33) (j := 2) rfl (fun F => xm_c_ok (y_c_ok rfl) F) rfl rfl rfl (hrc _ _ _ _ _ _ _ _ e12) ?_
      rintro _ _ ⟨rfl, rfl⟩
      refine xw_y hd0 2 [] rfl trivial ?_
      obtain ⟨A14, V15, c16, e17, e⟩ := bS_ok e
      refine xw_call (k := 37) (j := 2) rfl (fun F => xm_c_ok (y_c_ok rfl) F) rfl rfl rfl (sX4_step (by omega) e17) ?_
      rintro _ _ ⟨rfl, rfl⟩
      cases e
      exact xw_yr hd0 2 [] rfl trivial ⟨rfl, rfl⟩
    · refine xw_y hd0 8 [0, 0] rfl ⟨nnt h1, nt h2, trivial⟩ ?_
      obtain ⟨A19, V20, c21, e22, e⟩ := bS_ok e
      refine xw_call (k := 39) (j := 1) rfl (fun F => xm_c_ok (y_c_ok rfl) F) rfl rfl rfl (sX4_fail (by omega) e22) ?_
      rintro _ _ ⟨rfl, rfl⟩
      cases e
      exact xw_yr hd0 2 [] rfl trivial ⟨rfl, rfl⟩
  · refine xw_y hd0 6 [1] rfl ⟨nt h1, trivial⟩ ?_
    obtain ⟨A24, V25, c26, e27, e⟩ := bS_ok e
    refine xw_call (k := 34) (j := 2) rfl (fun F => xm_c_ok (y_c_ok rfl) F) rfl rfl rfl (hrc _ _ _ _ _ _ _ _ e27) ?_
    rintro _ _ ⟨rfl, rfl⟩
    rcases ite_ok e with ⟨h28, e⟩ | ⟨h28, e⟩
    · refine xw_y hd0 8 [1] rfl ⟨decide_eq_true h28, trivial⟩ ?_
      obtain ⟨A30, V31, c32, e33, e⟩ := bS_ok e
      refine xw_call (k := 40) (j := 1) rfl (fun F => xm_c_ok (y_c_ok rfl) F) rfl rfl rfl (sX4_next (by omega) e33) ?_
      rintro _ _ ⟨rfl, rfl⟩
      refine xw_y hd0 2 [] rfl trivial ?_
      obtain ⟨A35, V36, c37, e38, e⟩ := bS_ok e
      refine xw_call (k := 34) (j := 2) rfl (fun F => xm_c_ok (y_c_ok rfl) F) rfl rfl rfl (hrc _ _ _ _ _ _ _ _ e38) ?_
      rintro _ _ ⟨rfl, rfl⟩
      refine xw_y hd0 3 [] rfl trivial ?_
      obtain ⟨A40, V41, c42, e43, e⟩ := bS_ok e
      refine xw_call (k := 37) (j := 2) rfl (fun F => xm_c_ok (y_c_ok rfl) F) rfl rfl rfl (sX4_step (by omega) e43) ?_
      rintro _ _ ⟨rfl, rfl⟩
      cases e
      exact xw_yr hd0 2 [] rfl trivial ⟨rfl, rfl⟩
    · rcases ite_ok e with ⟨h44, e⟩ | ⟨h44, e⟩
      · refine xw_y hd0 12 [0, 0] rfl ⟨nt h28, nnt h44, trivial⟩ ?_
        obtain ⟨A46, V47, c48, e49, e⟩ := bS_ok e
        refine xw_call (k := 40) (j := 1) rfl (fun F => xm_c_ok (y_c_ok rfl) F) rfl rfl rfl (sX4_next (by omega) e49) ?_
        rintro _ _ ⟨rfl, rfl⟩
        refine xw_y hd0 2 [] rfl trivial ?_
        obtain ⟨A51, V52, c53, e54, e⟩ := bS_ok e
        refine xw_call (k := 34) (j := 2) rfl (fun F => xm_c_ok (y_c_ok rfl) F) rfl rfl rfl (hrc _ _ _ _ _ _ _ _ e54) ?_
        rintro _ _ ⟨rfl, rfl⟩
        refine xw_y hd0 3 [] rfl trivial ?_
        obtain ⟨A56, V57, c58, e59, e⟩ := bS_ok e
        refine xw_call (k := 37) (j := 2) rfl (fun F => xm_c_ok (y_c_ok rfl) F) rfl rfl rfl (sX4_step (by omega) e59) ?_
        rintro _ _ ⟨rfl, rfl⟩
        cases e
        exact xw_yr hd0 2 [] rfl trivial ⟨rfl, rfl⟩
      · cases e
        exact xw_yr hd0 10 [0, 1] rfl ⟨nt h28, nt h44, trivial⟩ ⟨rfl, rfl⟩
set_option maxRecDepth 20000 in
set_option maxHeartbeats 4000000 in
theorem slX4_readAnd_L7 {LL : Nat} {xs : Nat → Int32} {tx : List xh_T} {d : Nat} {A' V' : xM} {c' : Value} {l1 : Int32} {ex : xM → xM → Value → Option (xS)} {rc : Nat → Int32 → xM → xM → Value → Option xS} (hrc : ∀ (k : Nat) (l : Int32) (A V : xM) (cu : Value) (A' V' : xM) (c' : Value), rc k l A V cu = some (A', V', c') → xe (xk_ro LL xs) d k [.ref 95, .int l] (xh A V tx cu) (qU (xh A' V' tx c')))  (hd : 64 ≤ d) (hex : ∀ (w0 w1 w2 : Option Value) (A V : xM) (cu : Value), ex  A V cu = some (A', V', c') → xw (xk_ro LL xs) d xk_32 44 [w0, w1, w2] [] (xh A V tx cu) (qU (xh A' V' tx c'))) : ∀ (n : Nat) (l2 : Int32) (A V : xM) (cu : Value), fX4_readAnd_L7 rc l1 ex n l2 A V cu = some (A', V', c') → xw (xk_ro LL xs) d xk_32 7 [some (.ref 95), some (.int l1), some (.int l2)] [] (xh A V tx cu) (qU (xh A' V' tx c')) := by
  have hd0 : 60 ≤ d := by omega
  intro n
  induction n with
  | zero =>
    intro l2 A V cu e
    rw [fX4_readAnd_L7] at e
    cases e
  | succ n ih =>
    intro l2 A V cu e
    rw [fX4_readAnd_L7] at e
    rcases ite_ok e with ⟨h1, e⟩ | ⟨h1, e⟩
    · refine xw_y hd0 3 [1] rfl ⟨decide_eq_true h1, trivial⟩ ?_
      exact hex _ _ _ _ _ _ e
    · rcases ite_ok e with ⟨h2, e⟩ | ⟨h2, e⟩
      · refine xw_y hd0 8 [0, 0] rfl ⟨nt h1, nnt h2, trivial⟩ ?_
        obtain ⟨A4, V5, c6, e7, e⟩ := bS_ok e
        refine xw_call (k := 40) (j := 1) rfl (fun F => xm_c_ok (y_c_ok rfl) F) rfl rfl rfl (sX4_next (by omega) e7) ?_
        rintro _ _ ⟨rfl, rfl⟩
        refine xw_y hd0 2 [] rfl trivial ?_
        obtain ⟨A9, V10, c11, e12, e⟩ := bS_ok e
        refine xw_call (k := 33) (j := 2) rfl (fun F => xm_c_ok (y_c_ok rfl) F) rfl rfl rfl (hrc _ _ _ _ _ _ _ _ e12) ?_
        rintro _ _ ⟨rfl, rfl⟩
        refine xw_y hd0 2 [] rfl trivial ?_
        obtain ⟨A14, V15, c16, e17, e⟩ := bS_ok e
        refine xw_call (k := 37) (j := 2) rfl (fun F => xm_c_ok (y_c_ok rfl) F) rfl rfl rfl (sX4_step (by omega) e17) ?_
        rintro _ _ ⟨rfl, rfl⟩
        refine xw_y hd0 2 [] rfl trivial ?_
        exact ih _ _ _ _ e
      · refine xw_y hd0 7 [0, 1] rfl ⟨nt h1, nt h2, trivial⟩ ?_
        exact hex _ _ _ _ _ _ e
set_option maxRecDepth 20000 in
set_option maxHeartbeats 4000000 in
theorem sX4_readAnd {LL : Nat} {xs : Nat → Int32} {tx : List xh_T} {d : Nat} {A V : xM} {cu : Value} {A' V' : xM} {c' : Value} {l1 : Int32} {rc : Nat → Int32 → xM → xM → Value → Option xS} (hrc : ∀ (k : Nat) (l : Int32) (A V : xM) (cu : Value) (A' V' : xM) (c' : Value), rc k l A V cu = some (A', V', c') → xe (xk_ro LL xs) d k [.ref 95, .int l] (xh A V tx cu) (qU (xh A' V' tx c'))) (hd : 64 ≤ d) (e : fX4_readAnd rc l1 A V cu = some (A', V', c')) : xe (xk_ro LL xs) (d + 1) 32 [.ref 95, .int l1] (xh A V tx cu) (qU (xh A' V' tx c')) := by
  have hd0 : 60 ≤ d := by omega
  refine xe_of (co := xk_32) (nl := 3) rfl rfl rfl ?_
  unfold fX4_readAnd at e
  refine xw_y hd0 2 [] rfl trivial ?_
  obtain ⟨A19, V20, c21, e22, e⟩ := bS_ok e
  refine xw_call (k := 33) (j := 2) rfl (fun F => xm_c_ok (y_c_ok rfl) F) rfl rfl rfl (hrc _ _ _ _ _ _ _ _ e22) ?_
  rintro _ _ ⟨rfl, rfl⟩
  refine xw_y hd0 2 [] rfl trivial ?_
  refine slX4_readAnd_L7 hrc hd ?_ FU _ _ _ _ e
  · intro z23 z24 z25 A26 V27 c28 e
    cases e
    exact xw_yr hd0 2 [] rfl trivial ⟨rfl, rfl⟩
set_option maxRecDepth 20000 in
set_option maxHeartbeats 4000000 in
theorem slX4_readOr_L7 {LL : Nat} {xs : Nat → Int32} {tx : List xh_T} {d : Nat} {A' V' : xM} {c' : Value} {l1 : Int32} {ex : xM → xM → Value → Option (xS)} {rc : Nat → Int32 → xM → xM → Value → Option xS} (hrc : ∀ (k : Nat) (l : Int32) (A V : xM) (cu : Value) (A' V' : xM) (c' : Value), rc k l A V cu = some (A', V', c') → xe (xk_ro LL xs) d k [.ref 95, .int l] (xh A V tx cu) (qU (xh A' V' tx c')))  (hd : 64 ≤ d) (hex : ∀ (w0 w1 w2 : Option Value) (A V : xM) (cu : Value), ex  A V cu = some (A', V', c') → xw (xk_ro LL xs) d xk_31 44 [w0, w1, w2] [] (xh A V tx cu) (qU (xh A' V' tx c'))) : ∀ (n : Nat) (l2 : Int32) (A V : xM) (cu : Value), fX4_readOr_L7 rc l1 ex n l2 A V cu = some (A', V', c') → xw (xk_ro LL xs) d xk_31 7 [some (.ref 95), some (.int l1), some (.int l2)] [] (xh A V tx cu) (qU (xh A' V' tx c')) := by
  have hd0 : 60 ≤ d := by omega
  intro n
  induction n with
  | zero =>
    intro l2 A V cu e
    rw [fX4_readOr_L7] at e
    cases e
  | succ n ih =>
    intro l2 A V cu e
    rw [fX4_readOr_L7] at e
    rcases ite_ok e with ⟨h1, e⟩ | ⟨h1, e⟩
    · refine xw_y hd0 3 [1] rfl ⟨decide_eq_true h1, trivial⟩ ?_
      exact hex _ _ _ _ _ _ e
    · rcases ite_ok e with ⟨h2, e⟩ | ⟨h2, e⟩
      · refine xw_y hd0 8 [0, 0] rfl ⟨nt h1, nnt h2, trivial⟩ ?_
        obtain ⟨A4, V5, c6, e7, e⟩ := bS_ok e
        refine xw_call (k := 40) (j := 1) rfl (fun F => xm_c_ok (y_c_ok rfl) F) rfl rfl rfl (sX4_next (by omega) e7) ?_
        rintro _ _ ⟨rfl, rfl⟩
        refine xw_y hd0 2 [] rfl trivial ?_
        obtain ⟨A9, V10, c11, e12, e⟩ := bS_ok e
        refine xw_call (k := 32) (j := 2) rfl (fun F => xm_c_ok (y_c_ok rfl) F) rfl rfl rfl (hrc _ _ _ _ _ _ _ _ e12) ?_
        rintro _ _ ⟨rfl, rfl⟩
        refine xw_y hd0 2 [] rfl trivial ?_
        obtain ⟨A14, V15, c16, e17, e⟩ := bS_ok e
        refine xw_call (k := 37) (j := 2) rfl (fun F => xm_c_ok (y_c_ok rfl) F) rfl rfl rfl (sX4_step (by omega) e17) ?_
        rintro _ _ ⟨rfl, rfl⟩
        refine xw_y hd0 2 [] rfl trivial ?_
        exact ih _ _ _ _ e
      · refine xw_y hd0 7 [0, 1] rfl ⟨nt h1, nt h2, trivial⟩ ?_
        exact hex _ _ _ _ _ _ e
set_option maxRecDepth 20000 in
set_option maxHeartbeats 4000000 in
theorem sX4_readOr {LL : Nat} {xs : Nat → Int32} {tx : List xh_T} {d : Nat} {A V : xM} {cu : Value} {A' V' : xM} {c' : Value} {l1 : Int32} {rc : Nat → Int32 → xM → xM → Value → Option xS} (hrc : ∀ (k : Nat) (l : Int32) (A V : xM) (cu : Value) (A' V' : xM) (c' : Value), rc k l A V cu = some (A', V', c') → xe (xk_ro LL xs) d k [.ref 95, .int l] (xh A V tx cu) (qU (xh A' V' tx c'))) (hd : 64 ≤ d) (e : fX4_readOr rc l1 A V cu = some (A', V', c')) : xe (xk_ro LL xs) (d + 1) 31 [.ref 95, .int l1] (xh A V tx cu) (qU (xh A' V' tx c')) := by
  have hd0 : 60 ≤ d := by omega
  refine xe_of (co := xk_31) (nl := 3) rfl rfl rfl ?_
  unfold fX4_readOr at e
  refine xw_y hd0 2 [] rfl trivial ?_
  obtain ⟨A19, V20, c21, e22, e⟩ := bS_ok e
  refine xw_call (k := 32) (j := 2) rfl (fun F => xm_c_ok (y_c_ok rfl) F) rfl rfl rfl (hrc _ _ _ _ _ _ _ _ e22) ?_
  rintro _ _ ⟨rfl, rfl⟩
  refine xw_y hd0 2 [] rfl trivial ?_
  refine slX4_readOr_L7 hrc hd ?_ FU _ _ _ _ e
  · intro z23 z24 z25 A26 V27 c28 e
    cases e
    exact xw_yr hd0 2 [] rfl trivial ⟨rfl, rfl⟩
set_option maxRecDepth 20000 in
set_option maxHeartbeats 4000000 in
theorem sX4_readPart {LL : Nat} {xs : Nat → Int32} {tx : List xh_T} {d : Nat} {A V : xM} {cu : Value} {A' V' : xM} {c' : Value} {l1 : Int32} {rc : Nat → Int32 → xM → xM → Value → Option xS} (hrc : ∀ (k : Nat) (l : Int32) (A V : xM) (cu : Value) (A' V' : xM) (c' : Value), rc k l A V cu = some (A', V', c') → xe (xk_ro LL xs) d k [.ref 95, .int l] (xh A V tx cu) (qU (xh A' V' tx c'))) (hd : 65 ≤ d) (e : fX4_readPart rc l1 A V cu = some (A', V', c')) : xe (xk_ro LL xs) (d + 1) 30 [.ref 95, .int l1] (xh A V tx cu) (qU (xh A' V' tx c')) := by
  have hd0 : 60 ≤ d := by omega
  refine xe_of (co := xk_30) (nl := 2) rfl rfl rfl ?_
  unfold fX4_readPart at e
  refine xw_y hd0 2 [] rfl trivial ?_
  obtain ⟨A2, V3, c4, e5, e⟩ := bS_ok e
  refine xw_call (k := 38) (j := 2) rfl (fun F => xm_c_ok (y_c_ok rfl) F) rfl rfl rfl (sX4_expect (by omega) e5) ?_
  rintro _ _ ⟨rfl, rfl⟩
  refine xw_y hd0 2 [] rfl trivial ?_
  obtain ⟨A7, V8, c9, e10, e⟩ := bS_ok e
  refine xw_call (k := 31) (j := 2) rfl (fun F => xm_c_ok (y_c_ok rfl) F) rfl rfl rfl (hrc _ _ _ _ _ _ _ _ e10) ?_
  rintro _ _ ⟨rfl, rfl⟩
  refine xw_y hd0 2 [] rfl trivial ?_
  obtain ⟨A12, V13, c14, e15, e⟩ := bS_ok e
  refine xw_call (k := 38) (j := 2) rfl (fun F => xm_c_ok (y_c_ok rfl) F) rfl rfl rfl (sX4_expect (by omega) e15) ?_
  rintro _ _ ⟨rfl, rfl⟩
  cases e
  exact xw_yr hd0 2 [] rfl trivial ⟨rfl, rfl⟩
/-- the six that call each other, by their numbers, to a depth -/
def fRd : Nat → Nat → Int32 → xM → xM → Value → Option xS
  | 0, _, _, _, _, _ => none
  | n + 1, k, l, A, V, cu => if k = 31 then fX4_readOr (fRd n) l A V cu else if k = 32 then fX4_readAnd (fRd n) l A V cu else if k = 33 then fX4_readNot (fRd n) l A V cu else if k = 34 then fX4_readSum (fRd n) l A V cu else if k = 35 then fX4_readTerm (fRd n) l A V cu else if k = 36 then fX4_readSingle (fRd n) l A V cu else none
theorem sRd {LL : Nat} {xs : Nat → Int32} {tx : List xh_T} : ∀ (n d : Nat), 70 + n ≤ d → ∀ (k : Nat) (l : Int32) (A V : xM) (cu : Value) (A' V' : xM) (c' : Value), fRd n k l A V cu = some (A', V', c') → xe (xk_ro LL xs) d k [.ref 95, .int l] (xh A V tx cu) (qU (xh A' V' tx c'))
  | 0, d, hd, k, l, A, V, cu, A', V', c', e => by
    rw [fRd] at e
    cases e
  | n + 1, d, hd, k, l, A, V, cu, A', V', c', e => by
    obtain ⟨d, rfl⟩ : ∃ d1, d = d1 + 1 := ⟨d - 1, by omega⟩
    have ih := sRd (LL := LL) (xs := xs) (tx := tx) n d (by omega)
    rw [fRd] at e
    rcases ite_ok e with ⟨rfl, e⟩ | ⟨-, e⟩
    · exact sX4_readOr ih (by omega) e
    rcases ite_ok e with ⟨rfl, e⟩ | ⟨-, e⟩
    · exact sX4_readAnd ih (by omega) e
    rcases ite_ok e with ⟨rfl, e⟩ | ⟨-, e⟩
    · exact sX4_readNot ih (by omega) e
    rcases ite_ok e with ⟨rfl, e⟩ | ⟨-, e⟩
    · exact sX4_readSum ih (by omega) e
    rcases ite_ok e with ⟨rfl, e⟩ | ⟨-, e⟩
    · exact sX4_readTerm ih (by omega) e
    rcases ite_ok e with ⟨rfl, e⟩ | ⟨-, e⟩
    · exact sX4_readSingle ih (by omega) e
    cases e
