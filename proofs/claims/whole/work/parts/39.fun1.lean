def fX1_amount (l0 : Nat) (l1 : Int32) (l2 : Int32) (A V : xM) : Option (Int32) := bC (xq_in l2 6) (if ((A (l0 + 3) l2.toNatClampNeg) &&& ((1 : Int32) <<< (l1 &&& 31))) = 0 then (if ((A (l0 + 1) l2.toNatClampNeg) &&& ((1 : Int32) <<< (l1 &&& 31))) = 0 then (if ((A (l0 + 2) l2.toNatClampNeg) &&& ((1 : Int32) <<< (l1 &&& 31))) = 0 then (some (0 : Int32)) else (some (1 : Int32))) else (some (2 : Int32))) else (some (3 : Int32)))
def fX1_who (l0 : Nat) (l1 : Int32) (l2 : Int32) (A V : xM) : Option (Int32) := if l2 = 0 then (bC (xq_in l1 6) (some (A (l0 + 1) l1.toNatClampNeg))) else (if l2 = (1 : Int32) then (bC (xq_in l1 6) (some (A (l0 + 2) l1.toNatClampNeg))) else (bC (xq_in l1 6) (some (A (l0 + 3) l1.toNatClampNeg))))
def fX1_takeOf_L2 (l0 : Nat) (l2 : Nat) (l1 : Int32) (ex : xM → xM → Value → Option (xS)) : Nat → Int32 → xM → xM → Value → Option (xS)
  | 0, _, _, _, _ => none
  | n + 1, l3, A, V, cu => if (6 : Int32) ≤ l3 then (ex  A V cu) else (bC (xq_in l3 6) (fX1_takeOf_L2 l0 l2 l1 ex n (l3 + Int32.ofInt 1) (aw (aw (aw A (l0 + 1) l3 (((A (l0 + 1) l3.toNatClampNeg) &&& (l1 ^^^ (-1 : Int32))) ||| ((A (l2 + 1) l3.toNatClampNeg) &&& l1))) (l0 + 2) l3 ((((aw A (l0 + 1) l3 (((A (l0 + 1) l3.toNatClampNeg) &&& (l1 ^^^ (-1 : Int32))) ||| ((A (l2 + 1) l3.toNatClampNeg) &&& l1))) (l0 + 2) l3.toNatClampNeg) &&& (l1 ^^^ (-1 : Int32))) ||| (((aw A (l0 + 1) l3 (((A (l0 + 1) l3.toNatClampNeg) &&& (l1 ^^^ (-1 : Int32))) ||| ((A (l2 + 1) l3.toNatClampNeg) &&& l1))) (l2 + 2) l3.toNatClampNeg) &&& l1))) (l0 + 3) l3 ((((aw (aw A (l0 + 1) l3 (((A (l0 + 1) l3.toNatClampNeg) &&& (l1 ^^^ (-1 : Int32))) ||| ((A (l2 + 1) l3.toNatClampNeg) &&& l1))) (l0 + 2) l3 ((((aw A (l0 + 1) l3 (((A (l0 + 1) l3.toNatClampNeg) &&& (l1 ^^^ (-1 : Int32))) ||| ((A (l2 + 1) l3.toNatClampNeg) &&& l1))) (l0 + 2) l3.toNatClampNeg) &&& (l1 ^^^ (-1 : Int32))) ||| (((aw A (l0 + 1) l3 (((A (l0 + 1) l3.toNatClampNeg) &&& (l1 ^^^ (-1 : Int32))) ||| ((A (l2 + 1) l3.toNatClampNeg) &&& l1))) (l2 + 2) l3.toNatClampNeg) &&& l1))) (l0 + 3) l3.toNatClampNeg) &&& (l1 ^^^ (-1 : Int32))) ||| (((aw (aw A (l0 + 1) l3 (((A (l0 + 1) l3.toNatClampNeg) &&& (l1 ^^^ (-1 : Int32))) ||| ((A (l2 + 1) l3.toNatClampNeg) &&& l1))) (l0 + 2) l3 ((((aw A (l0 + 1) l3 (((A (l0 + 1) l3.toNatClampNeg) &&& (l1 ^^^ (-1 : Int32))) ||| ((A (l2 + 1) l3.toNatClampNeg) &&& l1))) (l0 + 2) l3.toNatClampNeg) &&& (l1 ^^^ (-1 : Int32))) ||| (((aw A (l0 + 1) l3 (((A (l0 + 1) l3.toNatClampNeg) &&& (l1 ^^^ (-1 : Int32))) ||| ((A (l2 + 1) l3.toNatClampNeg) &&& l1))) (l2 + 2) l3.toNatClampNeg) &&& l1))) (l2 + 3) l3.toNatClampNeg) &&& l1))) V cu))
def fX1_takeOf (l0 : Nat) (l2 : Nat) (l1 : Int32) (A V : xM) (cu : Value) : Option (xS) := fX1_takeOf_L2 l0 l2 l1 (fun (A7 V8 : xM) (c9 : Value) => some (A7, V8, c9)) FU (0 : Int32) A V cu
def fX1_take (l0 : Nat) (l1 : Nat) (A V : xM) (cu : Value) : Option (xS) := bS (fX1_takeOf l0 l1 (-1 : Int32) A V cu) (fun A2 V3 c4 => some (A2, V3, c4))
def fX2_knowsThen (l0 : Int32) (l1 : Int32) (l2 : Int32) (A V : xM) : Option (Int32) := if l0 = (3 : Int32) then (some l2) else (if l0 = (4 : Int32) then (if l1 = 0 then (some (l2 + (1 : Int32))) else (some l2)) else (if l0 = (5 : Int32) then (if l1 = 0 then (some (l2 + (1 : Int32))) else (some l2)) else (if l1 = 0 then (some (2 : Int32)) else (if l2 = (1 : Int32) then (some (2 : Int32)) else (some (1 : Int32))))))
def fX2_note_L6 (l1 : Int32) (l2 : Int32) (ex : xM → xM → Value → Option (xS)) : Nat → Int32 → xM → xM → Value → Option (xS)
  | 0, _, _, _, _ => none
  | n + 1, l3, A, V, cu => if (5 : Int32) < l3 then (ex  A V cu) else (bC (xq_in l1 5) (if (A 66 l1.toNatClampNeg) = (2 : Int32) then (fX2_note_L6 l1 l2 ex n (l3 + Int32.ofInt 1) A V cu) else (if (A 66 l1.toNatClampNeg) = (1 : Int32) then (if (A 68 l1.toNatClampNeg) < (l3 - (1 : Int32)) then (fX2_note_L6 l1 l2 ex n (l3 + Int32.ofInt 1) A V cu) else (bC (xq_in l3 6) (fX2_note_L6 l1 l2 ex n (l3 + Int32.ofInt 1) (aw A 69 l3 ((A 69 l3.toNatClampNeg) ||| l2)) V cu))) else (bC (xq_in l3 6) (fX2_note_L6 l1 l2 ex n (l3 + Int32.ofInt 1) (aw A 69 l3 ((A 69 l3.toNatClampNeg) ||| l2)) V cu)))))
def fX2_note_L50 (l1 : Int32) (l2 : Int32) (ex : xM → xM → Value → Option (xS)) : Nat → Int32 → xM → xM → Value → Option (xS)
  | 0, _, _, _, _ => none
  | n + 1, l3, A, V, cu => if (4 : Int32) ≤ l3 then (ex  A V cu) else (bC (xq_in l1 5) (bI (fX2_knowsThen (A 66 l1.toNatClampNeg) (l3 >>> ((1 : Int32) &&& 31)) (l3 &&& (1 : Int32)) A V) (fun x10 => if x10 = (2 : Int32) then (bC (xq_in l3 4) (fX2_note_L50 l1 l2 ex n (l3 + Int32.ofInt 1) (aw A 70 l3 ((A 70 l3.toNatClampNeg) ||| l2)) V cu)) else (if x10 = (1 : Int32) then (bC (xq_in l3 4) (fX2_note_L50 l1 l2 ex n (l3 + Int32.ofInt 1) (aw A 71 l3 ((A 71 l3.toNatClampNeg) ||| l2)) V cu)) else (fX2_note_L50 l1 l2 ex n (l3 + Int32.ofInt 1) A V cu)))))
def fX2_note (l1 : Int32) (A V : xM) (cu : Value) : Option (xS) := fX2_note_L6 l1 ((1 : Int32) <<< (l1 &&& 31)) (fun (A18 V19 : xM) (c20 : Value) => fX2_note_L50 l1 ((1 : Int32) <<< (l1 &&& 31)) (fun (A23 V24 : xM) (c25 : Value) => bC (xq_in l1 5) (if (A23 66 l1.toNatClampNeg) = (5 : Int32) then (some (A23, (up2 V24 65 7 ((V24 65 7) ||| ((1 : Int32) <<< (l1 &&& 31)))), c25)) else (some (A23, V24, c25)))) FU (0 : Int32) A18 V19 c20) FU (1 : Int32) A V cu
def fX2_come (l1 : Int32) (l2 : Int32) (l3 : Int32) (A V : xM) (cu : Value) : Option (Int32 × xS) := if l1 < 0 then (some ((-2 : Int32), A, V, cu)) else (if (6 : Int32) ≤ l1 then (some ((-2 : Int32), A, V, cu)) else (if l2 < 0 then (some ((-2 : Int32), A, V, cu)) else (if l2 ≤ (100 : Int32) then (if l3 < 0 then (some ((-2 : Int32), A, V, cu)) else (if l3 ≤ (9 : Int32) then (if (V 65 3) < (5 : Int32) then (bC (xq_in (V 65 3) 5) (bS (fX2_note (V 65 3) (aw (aw (aw A 66 (V 65 3) l1) 67 (V 65 3) l2) 68 (V 65 3) l3) V cu) (fun A10 V11 c12 => some ((((up2 V11 65 3 ((V11 65 3) + (1 : Int32))) 65 3) - (1 : Int32)), A10, (up2 V11 65 3 ((V11 65 3) + (1 : Int32))), c12)))) else (some ((-4 : Int32), A, V, cu))) else (some ((-2 : Int32), A, V, cu)))) else (some ((-2 : Int32), A, V, cu)))))
def fX2_isOf_L10 (l2 : Int32) (A V : xM) (ex : Option (Int32)) : Nat → Int32 → Int32 → Option (Int32)
  | 0, _, _ => none
  | n + 1, l3, l4 => if (6 : Int32) ≤ l4 then (ex) else (if l3 < 0 then (ex) else (if (6 : Int32) ≤ l3 then (ex) else (if l3 = l2 then (some (1 : Int32)) else (bC (xq_in l3 6) (fX2_isOf_L10 l2 A V ex n (xk_above.getD l3.toNatClampNeg 0) (l4 + Int32.ofInt 1))))))
def fX2_isOf (l1 : Int32) (l2 : Int32) (A V : xM) : Option (Int32) := bC (xq_in l1 5) (fX2_isOf_L10 l2 A V (some (0 : Int32)) FU (A 66 l1.toNatClampNeg) (0 : Int32))
def fX2_singers (l1 : Int32) (l2 : Int32) (A V : xM) : Option (Int32) := if l2 < 0 then (some (0 : Int32)) else (if l2 ≤ (5 : Int32) then (bC (xq_in l2 6) (some (l1 &&& (A 69 l2.toNatClampNeg)))) else (some (0 : Int32)))
def fX2_wholeOf (l1 : Int32) (l2 : Int32) (l3 : Int32) (A V : xM) : Option (Int32) := bC (xq_in (l2 * (2 : Int32)) 4) (bC (xq_in ((l2 * (2 : Int32)) + (1 : Int32)) 4) (some (((l1 &&& (l3 ^^^ (-1 : Int32))) &&& (A 70 (l2 * (2 : Int32)).toNatClampNeg)) ||| ((l1 &&& l3) &&& (A 70 ((l2 * (2 : Int32)) + (1 : Int32)).toNatClampNeg)))))
def fX2_halfOf (l1 : Int32) (l2 : Int32) (l3 : Int32) (A V : xM) : Option (Int32) := bC (xq_in (l2 * (2 : Int32)) 4) (bC (xq_in ((l2 * (2 : Int32)) + (1 : Int32)) 4) (some (((l1 &&& (l3 ^^^ (-1 : Int32))) &&& (A 71 (l2 * (2 : Int32)).toNatClampNeg)) ||| ((l1 &&& l3) &&& (A 71 ((l2 * (2 : Int32)) + (1 : Int32)).toNatClampNeg)))))
def fJ6_bitCount_0f7a4 (l0 : Int32) (A V : xM) : Option (Int32) := some ((((((((l0 - (((l0.toUInt32 >>> ((1 : Int32).toUInt32 &&& Int32.toUInt32 31)).toInt32) &&& (1431655765 : Int32))) &&& (858993459 : Int32)) + ((((l0 - (((l0.toUInt32 >>> ((1 : Int32).toUInt32 &&& Int32.toUInt32 31)).toInt32) &&& (1431655765 : Int32))).toUInt32 >>> ((2 : Int32).toUInt32 &&& Int32.toUInt32 31)).toInt32) &&& (858993459 : Int32))) + (((((l0 - (((l0.toUInt32 >>> ((1 : Int32).toUInt32 &&& Int32.toUInt32 31)).toInt32) &&& (1431655765 : Int32))) &&& (858993459 : Int32)) + ((((l0 - (((l0.toUInt32 >>> ((1 : Int32).toUInt32 &&& Int32.toUInt32 31)).toInt32) &&& (1431655765 : Int32))).toUInt32 >>> ((2 : Int32).toUInt32 &&& Int32.toUInt32 31)).toInt32) &&& (858993459 : Int32))).toUInt32 >>> ((4 : Int32).toUInt32 &&& Int32.toUInt32 31)).toInt32)) &&& (252645135 : Int32)) + (((((((l0 - (((l0.toUInt32 >>> ((1 : Int32).toUInt32 &&& Int32.toUInt32 31)).toInt32) &&& (1431655765 : Int32))) &&& (858993459 : Int32)) + ((((l0 - (((l0.toUInt32 >>> ((1 : Int32).toUInt32 &&& Int32.toUInt32 31)).toInt32) &&& (1431655765 : Int32))).toUInt32 >>> ((2 : Int32).toUInt32 &&& Int32.toUInt32 31)).toInt32) &&& (858993459 : Int32))) + (((((l0 - (((l0.toUInt32 >>> ((1 : Int32).toUInt32 &&& Int32.toUInt32 31)).toInt32) &&& (1431655765 : Int32))) &&& (858993459 : Int32)) + ((((l0 - (((l0.toUInt32 >>> ((1 : Int32).toUInt32 &&& Int32.toUInt32 31)).toInt32) &&& (1431655765 : Int32))).toUInt32 >>> ((2 : Int32).toUInt32 &&& Int32.toUInt32 31)).toInt32) &&& (858993459 : Int32))).toUInt32 >>> ((4 : Int32).toUInt32 &&& Int32.toUInt32 31)).toInt32)) &&& (252645135 : Int32)).toUInt32 >>> ((8 : Int32).toUInt32 &&& Int32.toUInt32 31)).toInt32)) + ((((((((l0 - (((l0.toUInt32 >>> ((1 : Int32).toUInt32 &&& Int32.toUInt32 31)).toInt32) &&& (1431655765 : Int32))) &&& (858993459 : Int32)) + ((((l0 - (((l0.toUInt32 >>> ((1 : Int32).toUInt32 &&& Int32.toUInt32 31)).toInt32) &&& (1431655765 : Int32))).toUInt32 >>> ((2 : Int32).toUInt32 &&& Int32.toUInt32 31)).toInt32) &&& (858993459 : Int32))) + (((((l0 - (((l0.toUInt32 >>> ((1 : Int32).toUInt32 &&& Int32.toUInt32 31)).toInt32) &&& (1431655765 : Int32))) &&& (858993459 : Int32)) + ((((l0 - (((l0.toUInt32 >>> ((1 : Int32).toUInt32 &&& Int32.toUInt32 31)).toInt32) &&& (1431655765 : Int32))).toUInt32 >>> ((2 : Int32).toUInt32 &&& Int32.toUInt32 31)).toInt32) &&& (858993459 : Int32))).toUInt32 >>> ((4 : Int32).toUInt32 &&& Int32.toUInt32 31)).toInt32)) &&& (252645135 : Int32)) + (((((((l0 - (((l0.toUInt32 >>> ((1 : Int32).toUInt32 &&& Int32.toUInt32 31)).toInt32) &&& (1431655765 : Int32))) &&& (858993459 : Int32)) + ((((l0 - (((l0.toUInt32 >>> ((1 : Int32).toUInt32 &&& Int32.toUInt32 31)).toInt32) &&& (1431655765 : Int32))).toUInt32 >>> ((2 : Int32).toUInt32 &&& Int32.toUInt32 31)).toInt32) &&& (858993459 : Int32))) + (((((l0 - (((l0.toUInt32 >>> ((1 : Int32).toUInt32 &&& Int32.toUInt32 31)).toInt32) &&& (1431655765 : Int32))) &&& (858993459 : Int32)) + ((((l0 - (((l0.toUInt32 >>> ((1 : Int32).toUInt32 &&& Int32.toUInt32 31)).toInt32) &&& (1431655765 : Int32))).toUInt32 >>> ((2 : Int32).toUInt32 &&& Int32.toUInt32 31)).toInt32) &&& (858993459 : Int32))).toUInt32 >>> ((4 : Int32).toUInt32 &&& Int32.toUInt32 31)).toInt32)) &&& (252645135 : Int32)).toUInt32 >>> ((8 : Int32).toUInt32 &&& Int32.toUInt32 31)).toInt32)).toUInt32 >>> ((16 : Int32).toUInt32 &&& Int32.toUInt32 31)).toInt32)) &&& (63 : Int32))
def fJ7_fill_53178_L5 (l0 : Nat) (l1 : Int32) (l3 : Int32) (ex : xM → xM → Value → Option (xS)) : Nat → Int32 → xM → xM → Value → Option (xS)
  | 0, _, _, _, _ => none
  | n + 1, l2, A, V, cu => if l3 ≤ l2 then (ex  A V cu) else (bC (xq_in l2 (ysz l0)) (fJ7_fill_53178_L5 l0 l1 l3 ex n (l2 + Int32.ofInt 1) (aw A l0 l2 l1) V cu))
def fJ7_fill_53178 (l0 : Nat) (l1 : Int32) (A V : xM) (cu : Value) : Option (xS) := fJ7_fill_53178_L5 l0 l1 (Int32.ofNat (ysz l0)) (fun (A7 V8 : xM) (c9 : Value) => some (A7, V8, c9)) FU (0 : Int32) A V cu
def fX5_has (l0 : Nat) (l1 : Int32) (A V : xM) : Option (Int32) := if l1 < 0 then (some (0 : Int32)) else (if (V l0 2) ≤ l1 then (some (0 : Int32)) else (some (1 : Int32)))
def fX5_hasRange (l0 : Nat) (l1 : Int32) (l2 : Int32) (A V : xM) : Option (Int32) := if l2 < 0 then (some (0 : Int32)) else (if l1 < 0 then (some (0 : Int32)) else (if (V l0 2) < l2 then (some (0 : Int32)) else (if ((V l0 2) - l2) < l1 then (some (0 : Int32)) else (some (1 : Int32)))))
def fX5_at (l0 : Nat) (l1 : Int32) (A V : xM) : Option (Int32) := bI (fX5_has l0 l1 A V) (fun x1 => if x1 = 0 then (some (0 : Int32)) else (bC (xq_in l1 40) (some (A (l0 + 1) l1.toNatClampNeg))))
def fX5_put (l0 : Nat) (l1 : Int32) (l2 : Int32) (A V : xM) (cu : Value) : Option (xS) := bI (fX5_has l0 l1 A V) (fun x1 => if x1 = 0 then (some (A, V, cu)) else (if (V l0 1) = 0 then (bC (xq_in l1 40) (some ((aw A (l0 + 1) l1 l2.toInt8.toInt32), V, cu))) else (if (V l0 1) = (1 : Int32) then (bC (xq_in l1 40) (some ((aw A (l0 + 1) l1 l2.toInt16.toInt32), V, cu))) else (bC (xq_in l1 40) (some ((aw A (l0 + 1) l1 l2), V, cu))))))
def fX5_become (l0 : Nat) (l1 : Int32) (l2 : Int32) (A V : xM) (cu : Value) : Option (xS) := if l2 < 0 then (bS (fJ7_fill_53178 (l0 + 1) (0 : Int32) A (up2 (up2 V l0 1 l1) l0 2 (0 : Int32)) cu) (fun A3 V4 c5 => some (A3, V4, c5))) else (if l2 ≤ (40 : Int32) then (bS (fJ7_fill_53178 (l0 + 1) (0 : Int32) A (up2 (up2 V l0 1 l1) l0 2 l2) cu) (fun A9 V10 c11 => some (A9, V10, c11))) else (bS (fJ7_fill_53178 (l0 + 1) (0 : Int32) A (up2 (up2 V l0 1 l1) l0 2 (0 : Int32)) cu) (fun A14 V15 c16 => some (A14, V15, c16))))
set_option maxRecDepth 20000 in
set_option maxHeartbeats 4000000 in
theorem sX1_amount_77 {LL : Nat} {xs : Nat → Int32} {tx : List xh_T} {d : Nat} {A V : xM} {cu : Value} {r : Int32} {l1 l2 : Int32} (hd : 61 ≤ d) (e : fX1_amount 77 l1 l2 A V = some r) : xe (xk_ro LL xs) d 2 [.ref 77, .int l1, .int l2] (xh A V tx cu) (qI r (xh A V tx cu)) := by
  obtain ⟨d, rfl⟩ : ∃ d1, d = d1 + 1 := ⟨d - 1, by omega⟩
  replace hd : 60 ≤ d := by omega
  have hd0 : 60 ≤ d := by omega
  refine xe_of (co := xk_2) (nl := 4) rfl rfl rfl ?_
  unfold fX1_amount at e
  obtain ⟨h1, e⟩ := bC_ok e
  rcases ite_ok e with ⟨h2, e⟩ | ⟨h2, e⟩
  · rcases ite_ok e with ⟨h3, e⟩ | ⟨h3, e⟩
    · rcases ite_ok e with ⟨h4, e⟩ | ⟨h4, e⟩
      · cases e
        exact xw_yr hd0 28 [1, 1, 1] rfl ⟨h1, decide_eq_true h2, h1, decide_eq_true h3, h1, decide_eq_true h4, rfl, trivial⟩ ⟨rfl, rfl⟩
      · cases e
        exact xw_yr hd0 29 [1, 1, 0] rfl ⟨h1, decide_eq_true h2, h1, decide_eq_true h3, h1, nt h4, rfl, trivial⟩ ⟨rfl, rfl⟩
    · cases e
      exact xw_yr hd0 21 [1, 0] rfl ⟨h1, decide_eq_true h2, h1, nt h3, rfl, trivial⟩ ⟨rfl, rfl⟩
  · cases e
    exact xw_yr hd0 14 [0] rfl ⟨h1, nt h2, rfl, trivial⟩ ⟨rfl, rfl⟩
set_option maxRecDepth 20000 in
set_option maxHeartbeats 4000000 in
theorem sX1_who_77 {LL : Nat} {xs : Nat → Int32} {tx : List xh_T} {d : Nat} {A V : xM} {cu : Value} {r : Int32} {l1 l2 : Int32} (hd : 61 ≤ d) (e : fX1_who 77 l1 l2 A V = some r) : xe (xk_ro LL xs) d 4 [.ref 77, .int l1, .int l2] (xh A V tx cu) (qI r (xh A V tx cu)) := by
  obtain ⟨d, rfl⟩ : ∃ d1, d = d1 + 1 := ⟨d - 1, by omega⟩
  replace hd : 60 ≤ d := by omega
  have hd0 : 60 ≤ d := by omega
  refine xe_of (co := xk_4) (nl := 3) rfl rfl rfl ?_
  unfold fX1_who at e
  rcases ite_ok e with ⟨h1, e⟩ | ⟨h1, e⟩
  · obtain ⟨h2, e⟩ := bC_ok e
    cases e
    exact xw_yr hd0 9 [0] rfl ⟨nnt h1, h2, rfl, trivial⟩ ⟨rfl, rfl⟩
  · rcases ite_ok e with ⟨h3, e⟩ | ⟨h3, e⟩
    · obtain ⟨h4, e⟩ := bC_ok e
      cases e
      exact xw_yr hd0 12 [1, 0] rfl ⟨nt h1, nnt h3, h4, rfl, trivial⟩ ⟨rfl, rfl⟩
    · obtain ⟨h5, e⟩ := bC_ok e
      cases e
      exact xw_yr hd0 11 [1, 1] rfl ⟨nt h1, nt h3, h5, rfl, trivial⟩ ⟨rfl, rfl⟩
set_option maxRecDepth 20000 in
set_option maxHeartbeats 4000000 in
theorem slX1_takeOf_L2_77_73 {LL : Nat} {xs : Nat → Int32} {tx : List xh_T} {d : Nat} {A' V' : xM} {c' : Value} {l1 : Int32} {ex : xM → xM → Value → Option (xS)} (hd : 60 ≤ d) (hex : ∀ (w0 w1 w2 w3 : Option Value) (A V : xM) (cu : Value), ex  A V cu = some (A', V', c') → xw (xk_ro LL xs) d xk_6 89 [w0, w1, w2, w3] [] (xh A V tx cu) (qU (xh A' V' tx c'))) : ∀ (n : Nat) (l3 : Int32) (A V : xM) (cu : Value), fX1_takeOf_L2 77 73 l1 ex n l3 A V cu = some (A', V', c') → xw (xk_ro LL xs) d xk_6 2 [some (.ref 77), some (.int l1), some (.ref 73), some (.int l3)] [] (xh A V tx cu) (qU (xh A' V' tx c')) := by
  have hd0 : 60 ≤ d := by omega
  intro n
  induction n with
  | zero =>
    intro l3 A V cu e
    rw [fX1_takeOf_L2] at e
    cases e
  | succ n ih =>
    intro l3 A V cu e
    rw [fX1_takeOf_L2] at e
    rcases ite_ok e with ⟨h1, e⟩ | ⟨h1, e⟩
    · refine xw_y hd0 3 [1] rfl ⟨decide_eq_true h1, trivial⟩ ?_
      exact hex _ _ _ _ _ _ _ e
    · obtain ⟨h2, e⟩ := bC_ok e
      refine xw_y hd0 62 [0] rfl ⟨nt h1, h2, h2, h2, h2, h2, h2, h2, h2, h2, trivial⟩ ?_
      exact ih _ _ _ _ e
set_option maxRecDepth 20000 in
set_option maxHeartbeats 4000000 in
theorem sX1_takeOf_77_73 {LL : Nat} {xs : Nat → Int32} {tx : List xh_T} {d : Nat} {A V : xM} {cu : Value} {A' V' : xM} {c' : Value} {l1 : Int32} (hd : 61 ≤ d) (e : fX1_takeOf 77 73 l1 A V cu = some (A', V', c')) : xe (xk_ro LL xs) d 6 [.ref 77, .int l1, .ref 73] (xh A V tx cu) (qU (xh A' V' tx c')) := by
  obtain ⟨d, rfl⟩ : ∃ d1, d = d1 + 1 := ⟨d - 1, by omega⟩
  replace hd : 60 ≤ d := by omega
  have hd0 : 60 ≤ d := by omega
  refine xe_of (co := xk_6) (nl := 4) rfl rfl rfl ?_
  unfold fX1_takeOf at e
  refine xw_y hd0 2 [] rfl trivial ?_
  refine slX1_takeOf_L2_77_73 hd ?_ FU _ _ _ _ e
  · intro z3 z4 z5 z6 A7 V8 c9 e
    cases e
    exact xw_yr hd0 2 [] rfl trivial ⟨rfl, rfl⟩
set_option maxRecDepth 20000 in
set_option maxHeartbeats 4000000 in
theorem slX1_takeOf_L2_85_73 {LL : Nat} {xs : Nat → Int32} {tx : List xh_T} {d : Nat} {A' V' : xM} {c' : Value} {l1 : Int32} {ex : xM → xM → Value → Option (xS)} (hd : 60 ≤ d) (hex : ∀ (w0 w1 w2 w3 : Option Value) (A V : xM) (cu : Value), ex  A V cu = some (A', V', c') → xw (xk_ro LL xs) d xk_6 89 [w0, w1, w2, w3] [] (xh A V tx cu) (qU (xh A' V' tx c'))) : ∀ (n : Nat) (l3 : Int32) (A V : xM) (cu : Value), fX1_takeOf_L2 85 73 l1 ex n l3 A V cu = some (A', V', c') → xw (xk_ro LL xs) d xk_6 2 [some (.ref 85), some (.int l1), some (.ref 73), some (.int l3)] [] (xh A V tx cu) (qU (xh A' V' tx c')) := by
  have hd0 : 60 ≤ d := by omega
  intro n
  induction n with
  | zero =>
    intro l3 A V cu e
    rw [fX1_takeOf_L2] at e
    cases e
  | succ n ih =>
    intro l3 A V cu e
    rw [fX1_takeOf_L2] at e
    rcases ite_ok e with ⟨h1, e⟩ | ⟨h1, e⟩
    · refine xw_y hd0 3 [1] rfl ⟨decide_eq_true h1, trivial⟩ ?_
      exact hex _ _ _ _ _ _ _ e
    · obtain ⟨h2, e⟩ := bC_ok e
      refine xw_y hd0 62 [0] rfl ⟨nt h1, h2, h2, h2, h2, h2, h2, h2, h2, h2, trivial⟩ ?_
      exact ih _ _ _ _ e
set_option maxRecDepth 20000 in
set_option maxHeartbeats 4000000 in
theorem sX1_takeOf_85_73 {LL : Nat} {xs : Nat → Int32} {tx : List xh_T} {d : Nat} {A V : xM} {cu : Value} {A' V' : xM} {c' : Value} {l1 : Int32} (hd : 61 ≤ d) (e : fX1_takeOf 85 73 l1 A V cu = some (A', V', c')) : xe (xk_ro LL xs) d 6 [.ref 85, .int l1, .ref 73] (xh A V tx cu) (qU (xh A' V' tx c')) := by
  obtain ⟨d, rfl⟩ : ∃ d1, d = d1 + 1 := ⟨d - 1, by omega⟩
  replace hd : 60 ≤ d := by omega
  have hd0 : 60 ≤ d := by omega
  refine xe_of (co := xk_6) (nl := 4) rfl rfl rfl ?_
  unfold fX1_takeOf at e
  refine xw_y hd0 2 [] rfl trivial ?_
  refine slX1_takeOf_L2_85_73 hd ?_ FU _ _ _ _ e
  · intro z3 z4 z5 z6 A7 V8 c9 e
    cases e
    exact xw_yr hd0 2 [] rfl trivial ⟨rfl, rfl⟩
set_option maxRecDepth 20000 in
set_option maxHeartbeats 4000000 in
theorem slX1_takeOf_L2_116_73 {LL : Nat} {xs : Nat → Int32} {tx : List xh_T} {d : Nat} {A' V' : xM} {c' : Value} {l1 : Int32} {ex : xM → xM → Value → Option (xS)} (hd : 60 ≤ d) (hex : ∀ (w0 w1 w2 w3 : Option Value) (A V : xM) (cu : Value), ex  A V cu = some (A', V', c') → xw (xk_ro LL xs) d xk_6 89 [w0, w1, w2, w3] [] (xh A V tx cu) (qU (xh A' V' tx c'))) : ∀ (n : Nat) (l3 : Int32) (A V : xM) (cu : Value), fX1_takeOf_L2 116 73 l1 ex n l3 A V cu = some (A', V', c') → xw (xk_ro LL xs) d xk_6 2 [some (.ref 116), some (.int l1), some (.ref 73), some (.int l3)] [] (xh A V tx cu) (qU (xh A' V' tx c')) := by
  have hd0 : 60 ≤ d := by omega
  intro n
  induction n with
  | zero =>
    intro l3 A V cu e
    rw [fX1_takeOf_L2] at e
    cases e
  | succ n ih =>
    intro l3 A V cu e
    rw [fX1_takeOf_L2] at e
    rcases ite_ok e with ⟨h1, e⟩ | ⟨h1, e⟩
    · refine xw_y hd0 3 [1] rfl ⟨decide_eq_true h1, trivial⟩ ?_
      exact hex _ _ _ _ _ _ _ e
    · obtain ⟨h2, e⟩ := bC_ok e
      refine xw_y hd0 62 [0] rfl ⟨nt h1, h2, h2, h2, h2, h2, h2, h2, h2, h2, trivial⟩ ?_
      exact ih _ _ _ _ e
set_option maxRecDepth 20000 in
set_option maxHeartbeats 4000000 in
theorem sX1_takeOf_116_73 {LL : Nat} {xs : Nat → Int32} {tx : List xh_T} {d : Nat} {A V : xM} {cu : Value} {A' V' : xM} {c' : Value} {l1 : Int32} (hd : 61 ≤ d) (e : fX1_takeOf 116 73 l1 A V cu = some (A', V', c')) : xe (xk_ro LL xs) d 6 [.ref 116, .int l1, .ref 73] (xh A V tx cu) (qU (xh A' V' tx c')) := by
  obtain ⟨d, rfl⟩ : ∃ d1, d = d1 + 1 := ⟨d - 1, by omega⟩
  replace hd : 60 ≤ d := by omega
  have hd0 : 60 ≤ d := by omega
  refine xe_of (co := xk_6) (nl := 4) rfl rfl rfl ?_
  unfold fX1_takeOf at e
  refine xw_y hd0 2 [] rfl trivial ?_
  refine slX1_takeOf_L2_116_73 hd ?_ FU _ _ _ _ e
  · intro z3 z4 z5 z6 A7 V8 c9 e
    cases e
    exact xw_yr hd0 2 [] rfl trivial ⟨rfl, rfl⟩
set_option maxRecDepth 20000 in
set_option maxHeartbeats 4000000 in
theorem slX1_takeOf_L2_73_116 {LL : Nat} {xs : Nat → Int32} {tx : List xh_T} {d : Nat} {A' V' : xM} {c' : Value} {l1 : Int32} {ex : xM → xM → Value → Option (xS)} (hd : 60 ≤ d) (hex : ∀ (w0 w1 w2 w3 : Option Value) (A V : xM) (cu : Value), ex  A V cu = some (A', V', c') → xw (xk_ro LL xs) d xk_6 89 [w0, w1, w2, w3] [] (xh A V tx cu) (qU (xh A' V' tx c'))) : ∀ (n : Nat) (l3 : Int32) (A V : xM) (cu : Value), fX1_takeOf_L2 73 116 l1 ex n l3 A V cu = some (A', V', c') → xw (xk_ro LL xs) d xk_6 2 [some (.ref 73), some (.int l1), some (.ref 116), some (.int l3)] [] (xh A V tx cu) (qU (xh A' V' tx c')) := by
  have hd0 : 60 ≤ d := by omega
  intro n
  induction n with
  | zero =>
    intro l3 A V cu e
    rw [fX1_takeOf_L2] at e
    cases e
  | succ n ih =>
    intro l3 A V cu e
    rw [fX1_takeOf_L2] at e
    rcases ite_ok e with ⟨h1, e⟩ | ⟨h1, e⟩
    · refine xw_y hd0 3 [1] rfl ⟨decide_eq_true h1, trivial⟩ ?_
      exact hex _ _ _ _ _ _ _ e
    · obtain ⟨h2, e⟩ := bC_ok e
      refine xw_y hd0 62 [0] rfl ⟨nt h1, h2, h2, h2, h2, h2, h2, h2, h2, h2, trivial⟩ ?_
      exact ih _ _ _ _ e
set_option maxRecDepth 20000 in
set_option maxHeartbeats 4000000 in
theorem sX1_takeOf_73_116 {LL : Nat} {xs : Nat → Int32} {tx : List xh_T} {d : Nat} {A V : xM} {cu : Value} {A' V' : xM} {c' : Value} {l1 : Int32} (hd : 61 ≤ d) (e : fX1_takeOf 73 116 l1 A V cu = some (A', V', c')) : xe (xk_ro LL xs) d 6 [.ref 73, .int l1, .ref 116] (xh A V tx cu) (qU (xh A' V' tx c')) := by
  obtain ⟨d, rfl⟩ : ∃ d1, d = d1 + 1 := ⟨d - 1, by omega⟩
  replace hd : 60 ≤ d := by omega
  have hd0 : 60 ≤ d := by omega
  refine xe_of (co := xk_6) (nl := 4) rfl rfl rfl ?_
  unfold fX1_takeOf at e
  refine xw_y hd0 2 [] rfl trivial ?_
  refine slX1_takeOf_L2_73_116 hd ?_ FU _ _ _ _ e
  · intro z3 z4 z5 z6 A7 V8 c9 e
    cases e
    exact xw_yr hd0 2 [] rfl trivial ⟨rfl, rfl⟩
set_option maxRecDepth 20000 in
set_option maxHeartbeats 4000000 in
theorem sX1_take_77_73 {LL : Nat} {xs : Nat → Int32} {tx : List xh_T} {d : Nat} {A V : xM} {cu : Value} {A' V' : xM} {c' : Value} (hd : 62 ≤ d) (e : fX1_take 77 73 A V cu = some (A', V', c')) : xe (xk_ro LL xs) d 5 [.ref 77, .ref 73] (xh A V tx cu) (qU (xh A' V' tx c')) := by
  obtain ⟨d, rfl⟩ : ∃ d1, d = d1 + 1 := ⟨d - 1, by omega⟩
  replace hd : 61 ≤ d := by omega
  have hd0 : 60 ≤ d := by omega
  refine xe_of (co := xk_5) (nl := 2) rfl rfl rfl ?_
  unfold fX1_take at e
  refine xw_y hd0 3 [] rfl trivial ?_
  obtain ⟨A2, V3, c4, e5, e⟩ := bS_ok e
  refine xw_call (k := 6) (j := 3) rfl (fun F => xm_c_ok (y_c_ok rfl) F) rfl rfl rfl (sX1_takeOf_77_73 (by omega) e5) ?_
  rintro _ _ ⟨rfl, rfl⟩
  cases e
  exact xw_yr hd0 2 [] rfl trivial ⟨rfl, rfl⟩
set_option maxRecDepth 20000 in
set_option maxHeartbeats 4000000 in
theorem sX1_take_85_73 {LL : Nat} {xs : Nat → Int32} {tx : List xh_T} {d : Nat} {A V : xM} {cu : Value} {A' V' : xM} {c' : Value} (hd : 62 ≤ d) (e : fX1_take 85 73 A V cu = some (A', V', c')) : xe (xk_ro LL xs) d 5 [.ref 85, .ref 73] (xh A V tx cu) (qU (xh A' V' tx c')) := by
  obtain ⟨d, rfl⟩ : ∃ d1, d = d1 + 1 := ⟨d - 1, by omega⟩
  replace hd : 61 ≤ d := by omega
  have hd0 : 60 ≤ d := by omega
  refine xe_of (co := xk_5) (nl := 2) rfl rfl rfl ?_
  unfold fX1_take at e
  refine xw_y hd0 3 [] rfl trivial ?_
  obtain ⟨A2, V3, c4, e5, e⟩ := bS_ok e
  refine xw_call (k := 6) (j := 3) rfl (fun F => xm_c_ok (y_c_ok rfl) F) rfl rfl rfl (sX1_takeOf_85_73 (by omega) e5) ?_
  rintro _ _ ⟨rfl, rfl⟩
  cases e
  exact xw_yr hd0 2 [] rfl trivial ⟨rfl, rfl⟩
set_option maxRecDepth 20000 in
set_option maxHeartbeats 4000000 in
theorem sX1_take_116_73 {LL : Nat} {xs : Nat → Int32} {tx : List xh_T} {d : Nat} {A V : xM} {cu : Value} {A' V' : xM} {c' : Value} (hd : 62 ≤ d) (e : fX1_take 116 73 A V cu = some (A', V', c')) : xe (xk_ro LL xs) d 5 [.ref 116, .ref 73] (xh A V tx cu) (qU (xh A' V' tx c')) := by
  obtain ⟨d, rfl⟩ : ∃ d1, d = d1 + 1 := ⟨d - 1, by omega⟩
  replace hd : 61 ≤ d := by omega
  have hd0 : 60 ≤ d := by omega
  refine xe_of (co := xk_5) (nl := 2) rfl rfl rfl ?_
  unfold fX1_take at e
  refine xw_y hd0 3 [] rfl trivial ?_
  obtain ⟨A2, V3, c4, e5, e⟩ := bS_ok e
  refine xw_call (k := 6) (j := 3) rfl (fun F => xm_c_ok (y_c_ok rfl) F) rfl rfl rfl (sX1_takeOf_116_73 (by omega) e5) ?_
  rintro _ _ ⟨rfl, rfl⟩
  cases e
  exact xw_yr hd0 2 [] rfl trivial ⟨rfl, rfl⟩
set_option maxRecDepth 20000 in
set_option maxHeartbeats 4000000 in
theorem sX2_knowsThen {LL : Nat} {xs : Nat → Int32} {tx : List xh_T} {d : Nat} {A V : xM} {cu : Value} {r : Int32} {l0 l1 l2 : Int32} (hd : 61 ≤ d) (e : fX2_knowsThen l0 l1 l2 A V = some r) : xe (xk_ro LL xs) d 12 [.int l0, .int l1, .int l2] (xh A V tx cu) (qI r (xh A V tx cu)) := by
  obtain ⟨d, rfl⟩ : ∃ d1, d = d1 + 1 := ⟨d - 1, by omega⟩
  replace hd : 60 ≤ d := by omega
  have hd0 : 60 ≤ d := by omega
  refine xe_of (co := xk_12) (nl := 3) rfl rfl rfl ?_
  unfold fX2_knowsThen at e
  rcases ite_ok e with ⟨h1, e⟩ | ⟨h1, e⟩
  · cases e
    exact xw_yr hd0 6 [0] rfl ⟨nnt h1, rfl, trivial⟩ ⟨rfl, rfl⟩
  · rcases ite_ok e with ⟨h2, e⟩ | ⟨h2, e⟩
    · rcases ite_ok e with ⟨h3, e⟩ | ⟨h3, e⟩
      · cases e
        exact xw_yr hd0 14 [1, 1, 0] rfl ⟨nt h1, decide_eq_true h2, nnt h3, rfl, trivial⟩ ⟨rfl, rfl⟩
      · cases e
        exact xw_yr hd0 11 [1, 1, 1] rfl ⟨nt h1, decide_eq_true h2, nt h3, rfl, trivial⟩ ⟨rfl, rfl⟩
    · rcases ite_ok e with ⟨h4, e⟩ | ⟨h4, e⟩
      · rcases ite_ok e with ⟨h5, e⟩ | ⟨h5, e⟩
        · cases e
          exact xw_yr hd0 17 [1, 0, 0, 0] rfl ⟨nt h1, nt h2, nnt h4, nnt h5, rfl, trivial⟩ ⟨rfl, rfl⟩
        · cases e
          exact xw_yr hd0 14 [1, 0, 0, 1] rfl ⟨nt h1, nt h2, nnt h4, nt h5, rfl, trivial⟩ ⟨rfl, rfl⟩
      · rcases ite_ok e with ⟨h6, e⟩ | ⟨h6, e⟩
        · cases e
          exact xw_yr hd0 15 [1, 0, 1, 1] rfl ⟨nt h1, nt h2, nt h4, decide_eq_true h6, rfl, trivial⟩ ⟨rfl, rfl⟩
        · rcases ite_ok e with ⟨h7, e⟩ | ⟨h7, e⟩
          · cases e
            exact xw_yr hd0 18 [1, 0, 1, 0, 0] rfl ⟨nt h1, nt h2, nt h4, nt h6, nnt h7, rfl, trivial⟩ ⟨rfl, rfl⟩
          · cases e
            exact xw_yr hd0 17 [1, 0, 1, 0, 1] rfl ⟨nt h1, nt h2, nt h4, nt h6, nt h7, rfl, trivial⟩ ⟨rfl, rfl⟩
set_option maxRecDepth 20000 in
set_option maxHeartbeats 4000000 in
theorem slX2_note_L6 {LL : Nat} {xs : Nat → Int32} {tx : List xh_T} {d : Nat} {A' V' : xM} {c' : Value} {l1 : Int32} {l2 : Int32} {ex : xM → xM → Value → Option (xS)} (hd : 61 ≤ d) (hex : ∀ (w3 w4 : Option Value) (A V : xM) (cu : Value), ex  A V cu = some (A', V', c') → xw (xk_ro LL xs) d xk_10 48 [some (.ref 65), some (.int l1), some (.int l2), w3, w4] [] (xh A V tx cu) (qU (xh A' V' tx c'))) : ∀ (n : Nat) (l3 : Int32) (z4 : Option Value) (A V : xM) (cu : Value), fX2_note_L6 l1 l2 ex n l3 A V cu = some (A', V', c') → xw (xk_ro LL xs) d xk_10 6 [some (.ref 65), some (.int l1), some (.int l2), some (.int l3), z4] [] (xh A V tx cu) (qU (xh A' V' tx c')) := by
  have hd0 : 60 ≤ d := by omega
  intro n
  induction n with
  | zero =>
    intro l3 z4 A V cu e
    rw [fX2_note_L6] at e
    cases e
  | succ n ih =>
    intro l3 z4 A V cu e
    rw [fX2_note_L6] at e
    rcases ite_ok e with ⟨h1, e⟩ | ⟨h1, e⟩
    · refine xw_y hd0 3 [1] rfl ⟨decide_eq_true h1, trivial⟩ ?_
      exact hex _ _ _ _ _ e
    · obtain ⟨h2, e⟩ := bC_ok e
      rcases ite_ok e with ⟨h3, e⟩ | ⟨h3, e⟩
      · refine xw_y hd0 23 [0, 0, 1] rfl ⟨nt h1, h2, h2, nnt h3, rfl, rfl, trivial⟩ ?_
        exact ih _ _ _ _ _ e
      · rcases ite_ok e with ⟨h4, e⟩ | ⟨h4, e⟩
        · rcases ite_ok e with ⟨h5, e⟩ | ⟨h5, e⟩
          · refine xw_y hd0 29 [0, 1, 0, 1, 1] rfl ⟨nt h1, h2, h2, nt h3, nnt h4, decide_eq_true h5, rfl, rfl, trivial⟩ ?_
            exact ih _ _ _ _ _ e
          · obtain ⟨h6, e⟩ := bC_ok e
            refine xw_y hd0 38 [0, 1, 0, 0, 0] rfl ⟨nt h1, h2, h2, nt h3, nnt h4, nt h5, rfl, rfl, h6, h6, trivial⟩ ?_
            exact ih _ _ _ _ _ e
        · obtain ⟨h7, e⟩ := bC_ok e
          refine xw_y hd0 35 [0, 1, 1, 0] rfl ⟨nt h1, h2, h2, nt h3, nt h4, rfl, rfl, h7, h7, trivial⟩ ?_
          exact ih _ _ _ _ _ e
set_option maxRecDepth 20000 in
set_option maxHeartbeats 4000000 in
theorem slX2_note_L50 {LL : Nat} {xs : Nat → Int32} {tx : List xh_T} {d : Nat} {A' V' : xM} {c' : Value} {l1 : Int32} {l2 : Int32} {ex : xM → xM → Value → Option (xS)} (hd : 61 ≤ d) (hex : ∀ (w3 w4 : Option Value) (A V : xM) (cu : Value), ex  A V cu = some (A', V', c') → xw (xk_ro LL xs) d xk_10 113 [some (.ref 65), some (.int l1), some (.int l2), w3, w4] [] (xh A V tx cu) (qU (xh A' V' tx c'))) : ∀ (n : Nat) (l3 : Int32) (z4 : Option Value) (A V : xM) (cu : Value), fX2_note_L50 l1 l2 ex n l3 A V cu = some (A', V', c') → xw (xk_ro LL xs) d xk_10 50 [some (.ref 65), some (.int l1), some (.int l2), some (.int l3), z4] [] (xh A V tx cu) (qU (xh A' V' tx c')) := by
  have hd0 : 60 ≤ d := by omega
  intro n
  induction n with
  | zero =>
    intro l3 z4 A V cu e
    rw [fX2_note_L50] at e
    cases e
  | succ n ih =>
    intro l3 z4 A V cu e
    rw [fX2_note_L50] at e
    rcases ite_ok e with ⟨h8, e⟩ | ⟨h8, e⟩
    · refine xw_y hd0 3 [1] rfl ⟨decide_eq_true h8, trivial⟩ ?_
      exact hex _ _ _ _ _ e
    · obtain ⟨h9, e⟩ := bC_ok e
      refine xw_y hd0 13 [0] rfl ⟨nt h8, h9, trivial⟩ ?_
      obtain ⟨x10, e11, e⟩ := bI_ok e
      refine xw_call (k := 12) (j := 3) rfl (fun F => xm_c_ok (y_c_ok rfl) F) rfl rfl rfl (sX2_knowsThen (by omega) e11) ?_
      rintro _ _ ⟨rfl, rfl⟩
      rcases ite_ok e with ⟨h12, e⟩ | ⟨h12, e⟩
      · obtain ⟨h13, e⟩ := bC_ok e
        refine xw_y hd0 15 [0] rfl ⟨nnt h12, h13, h13, trivial⟩ ?_
        exact ih _ _ _ _ _ e
      · rcases ite_ok e with ⟨h14, e⟩ | ⟨h14, e⟩
        · obtain ⟨h15, e⟩ := bC_ok e
          refine xw_y hd0 17 [1, 0] rfl ⟨nt h12, nnt h14, h15, h15, trivial⟩ ?_
          exact ih _ _ _ _ _ e
        · refine xw_y hd0 9 [1, 1] rfl ⟨nt h12, nt h14, trivial⟩ ?_
          exact ih _ _ _ _ _ e
set_option maxRecDepth 20000 in
set_option maxHeartbeats 4000000 in
theorem sX2_note {LL : Nat} {xs : Nat → Int32} {tx : List xh_T} {d : Nat} {A V : xM} {cu : Value} {A' V' : xM} {c' : Value} {l1 : Int32} (hd : 62 ≤ d) (e : fX2_note l1 A V cu = some (A', V', c')) : xe (xk_ro LL xs) d 10 [.ref 65, .int l1] (xh A V tx cu) (qU (xh A' V' tx c')) := by
  obtain ⟨d, rfl⟩ : ∃ d1, d = d1 + 1 := ⟨d - 1, by omega⟩
  replace hd : 61 ≤ d := by omega
  have hd0 : 60 ≤ d := by omega
  refine xe_of (co := xk_10) (nl := 5) rfl rfl rfl ?_
  unfold fX2_note at e
  refine xw_y hd0 6 [] rfl trivial ?_
  refine slX2_note_L6 hd ?_ FU _ _ _ _ _ e
  · intro z16 z17 A18 V19 c20 e
    refine xw_y hd0 2 [] rfl trivial ?_
    refine slX2_note_L50 hd ?_ FU _ _ _ _ _ e
    · intro z21 z22 A23 V24 c25 e
      obtain ⟨h26, e⟩ := bC_ok e
      rcases ite_ok e with ⟨h27, e⟩ | ⟨h27, e⟩
      · cases e
        exact xw_yr hd0 14 [0] rfl ⟨h26, nnt h27, rfl, trivial⟩ ⟨rfl, rfl⟩
      · cases e
        exact xw_yr hd0 8 [1] rfl ⟨h26, nt h27, trivial⟩ ⟨rfl, rfl⟩
set_option maxRecDepth 20000 in
set_option maxHeartbeats 4000000 in
theorem sX2_come {LL : Nat} {xs : Nat → Int32} {tx : List xh_T} {d : Nat} {A V : xM} {cu : Value} {A' V' : xM} {c' : Value} {r : Int32} {l1 l2 l3 : Int32} (hd : 63 ≤ d) (e : fX2_come l1 l2 l3 A V cu = some (r, A', V', c')) : xe (xk_ro LL xs) d 9 [.ref 65, .int l1, .int l2, .int l3] (xh A V tx cu) (qI r (xh A' V' tx c')) := by
  obtain ⟨d, rfl⟩ : ∃ d1, d = d1 + 1 := ⟨d - 1, by omega⟩
  replace hd : 62 ≤ d := by omega
  have hd0 : 60 ≤ d := by omega
  refine xe_of (co := xk_9) (nl := 4) rfl rfl rfl ?_
  unfold fX2_come at e
  rcases ite_ok e with ⟨h1, e⟩ | ⟨h1, e⟩
  · cases e
    exact xw_yr hd0 5 [1] rfl ⟨decide_eq_true h1, rfl, trivial⟩ ⟨rfl, rfl⟩
  · rcases ite_ok e with ⟨h2, e⟩ | ⟨h2, e⟩
    · cases e
      exact xw_yr hd0 8 [0, 1] rfl ⟨nt h1, decide_eq_true h2, rfl, trivial⟩ ⟨rfl, rfl⟩
    · rcases ite_ok e with ⟨h3, e⟩ | ⟨h3, e⟩
      · cases e
        exact xw_yr hd0 10 [0, 0, 1] rfl ⟨nt h1, nt h2, decide_eq_true h3, rfl, trivial⟩ ⟨rfl, rfl⟩
      · rcases ite_ok e with ⟨h4, e⟩ | ⟨h4, e⟩
        · rcases ite_ok e with ⟨h5, e⟩ | ⟨h5, e⟩
          · cases e
            exact xw_yr hd0 15 [0, 0, 0, 1, 1] rfl ⟨nt h1, nt h2, nt h3, decide_eq_true h4, decide_eq_true h5, rfl, trivial⟩ ⟨rfl, rfl⟩
          · rcases ite_ok e with ⟨h6, e⟩ | ⟨h6, e⟩
            · rcases ite_ok e with ⟨h7, e⟩ | ⟨h7, e⟩
              · obtain ⟨h8, e⟩ := bC_ok e
                refine xw_y hd0 40 [0, 0, 0, 1, 0, 1, 1] rfl ⟨nt h1, nt h2, nt h3, decide_eq_true h4, nt h5, decide_eq_true h6, decide_eq_true h7, h8, h8, h8, trivial⟩ ?_
                obtain ⟨A10, V11, c12, e13, e⟩ := bS_ok e
                refine xw_call (k := 10) (j := 2) rfl (fun F => xm_c_ok (y_c_ok rfl) F) rfl rfl rfl (sX2_note (by omega) e13) ?_
                rintro _ _ ⟨rfl, rfl⟩
                cases e
                exact xw_yr hd0 12 [] rfl ⟨rfl, rfl, trivial⟩ ⟨rfl, rfl⟩
              · cases e
                exact xw_yr hd0 22 [0, 0, 0, 1, 0, 1, 0] rfl ⟨nt h1, nt h2, nt h3, decide_eq_true h4, nt h5, decide_eq_true h6, nt h7, rfl, trivial⟩ ⟨rfl, rfl⟩
            · cases e
              exact xw_yr hd0 18 [0, 0, 0, 1, 0, 0] rfl ⟨nt h1, nt h2, nt h3, decide_eq_true h4, nt h5, nt h6, rfl, trivial⟩ ⟨rfl, rfl⟩
        · cases e
          exact xw_yr hd0 13 [0, 0, 0, 0] rfl ⟨nt h1, nt h2, nt h3, nt h4, rfl, trivial⟩ ⟨rfl, rfl⟩
set_option maxRecDepth 20000 in
set_option maxHeartbeats 4000000 in
theorem slX2_isOf_L10 {LL : Nat} {xs : Nat → Int32} {tx : List xh_T} {d : Nat}{A V : xM} {cu : Value} {r : Int32} {l2 : Int32} {ex : Option (Int32)} (hd : 60 ≤ d) (hex : ∀ (w0 w1 w2 w3 w4 : Option Value), ex  = some r → xw (xk_ro LL xs) d xk_13 46 [w0, w1, w2, w3, w4] [] (xh A V tx cu) (qI r (xh A V tx cu))) : ∀ (n : Nat) (l3 : Int32) (l4 : Int32) (z0 z1 : Option Value), fX2_isOf_L10 l2 A V ex n l3 l4 = some r → xw (xk_ro LL xs) d xk_13 10 [z0, z1, some (.int l2), some (.int l3), some (.int l4)] [] (xh A V tx cu) (qI r (xh A V tx cu)) := by
  have hd0 : 60 ≤ d := by omega
  intro n
  induction n with
  | zero =>
    intro l3 l4 z0 z1 e
    rw [fX2_isOf_L10] at e
    cases e
  | succ n ih =>
    intro l3 l4 z0 z1 e
    rw [fX2_isOf_L10] at e
    rcases ite_ok e with ⟨h1, e⟩ | ⟨h1, e⟩
    · refine xw_y hd0 3 [1] rfl ⟨decide_eq_true h1, trivial⟩ ?_
      exact hex _ _ _ _ _ e
    · rcases ite_ok e with ⟨h2, e⟩ | ⟨h2, e⟩
      · refine xw_y hd0 5 [0, 1] rfl ⟨nt h1, decide_eq_true h2, trivial⟩ ?_
        exact hex _ _ _ _ _ e
      · rcases ite_ok e with ⟨h3, e⟩ | ⟨h3, e⟩
        · refine xw_y hd0 8 [0, 0, 1] rfl ⟨nt h1, nt h2, decide_eq_true h3, trivial⟩ ?_
          exact hex _ _ _ _ _ e
        · rcases ite_ok e with ⟨h4, e⟩ | ⟨h4, e⟩
          · cases e
            exact xw_yr hd0 14 [0, 0, 0, 0] rfl ⟨nt h1, nt h2, nt h3, nnt h4, rfl, trivial⟩ ⟨rfl, rfl⟩
          · obtain ⟨h5, e⟩ := bC_ok e
            refine xw_y hd0 17 [0, 0, 0, 1] rfl ⟨nt h1, nt h2, nt h3, nt h4, h5, trivial⟩ ?_
            exact ih _ _ _ _ e
set_option maxRecDepth 20000 in
set_option maxHeartbeats 4000000 in
theorem sX2_isOf {LL : Nat} {xs : Nat → Int32} {tx : List xh_T} {d : Nat} {A V : xM} {cu : Value} {r : Int32} {l1 l2 : Int32} (hd : 61 ≤ d) (e : fX2_isOf l1 l2 A V = some r) : xe (xk_ro LL xs) d 13 [.ref 65, .int l1, .int l2] (xh A V tx cu) (qI r (xh A V tx cu)) := by
  obtain ⟨d, rfl⟩ : ∃ d1, d = d1 + 1 := ⟨d - 1, by omega⟩
  replace hd : 60 ≤ d := by omega
  have hd0 : 60 ≤ d := by omega
  refine xe_of (co := xk_13) (nl := 5) rfl rfl rfl ?_
  unfold fX2_isOf at e
  obtain ⟨h6, e⟩ := bC_ok e
  refine xw_y hd0 7 [] rfl ⟨h6, trivial⟩ ?_
  refine slX2_isOf_L10 hd ?_ FU _ _ _ _ e
  · intro z7 z8 z9 z10 z11 e
    cases e
    exact xw_yr hd0 3 [] rfl ⟨rfl, trivial⟩ ⟨rfl, rfl⟩
set_option maxRecDepth 20000 in
set_option maxHeartbeats 4000000 in
theorem sX2_singers {LL : Nat} {xs : Nat → Int32} {tx : List xh_T} {d : Nat} {A V : xM} {cu : Value} {r : Int32} {l1 l2 : Int32} (hd : 61 ≤ d) (e : fX2_singers l1 l2 A V = some r) : xe (xk_ro LL xs) d 14 [.ref 65, .int l1, .int l2] (xh A V tx cu) (qI r (xh A V tx cu)) := by
  obtain ⟨d, rfl⟩ : ∃ d1, d = d1 + 1 := ⟨d - 1, by omega⟩
  replace hd : 60 ≤ d := by omega
  have hd0 : 60 ≤ d := by omega
  refine xe_of (co := xk_14) (nl := 3) rfl rfl rfl ?_
  unfold fX2_singers at e
  rcases ite_ok e with ⟨h1, e⟩ | ⟨h1, e⟩
  · cases e
    exact xw_yr hd0 6 [1] rfl ⟨decide_eq_true h1, rfl, trivial⟩ ⟨rfl, rfl⟩
  · rcases ite_ok e with ⟨h2, e⟩ | ⟨h2, e⟩
    · obtain ⟨h3, e⟩ := bC_ok e
      cases e
      exact xw_yr hd0 13 [0, 1] rfl ⟨nt h1, decide_eq_true h2, h3, rfl, trivial⟩ ⟨rfl, rfl⟩
    · cases e
      exact xw_yr hd0 9 [0, 0] rfl ⟨nt h1, nt h2, rfl, trivial⟩ ⟨rfl, rfl⟩
set_option maxRecDepth 20000 in
set_option maxHeartbeats 4000000 in
theorem sX2_wholeOf {LL : Nat} {xs : Nat → Int32} {tx : List xh_T} {d : Nat} {A V : xM} {cu : Value} {r : Int32} {l1 l2 l3 : Int32} (hd : 61 ≤ d) (e : fX2_wholeOf l1 l2 l3 A V = some r) : xe (xk_ro LL xs) d 16 [.ref 65, .int l1, .int l2, .int l3] (xh A V tx cu) (qI r (xh A V tx cu)) := by
  obtain ⟨d, rfl⟩ : ∃ d1, d = d1 + 1 := ⟨d - 1, by omega⟩
  replace hd : 60 ≤ d := by omega
  have hd0 : 60 ≤ d := by omega
  refine xe_of (co := xk_16) (nl := 5) rfl rfl rfl ?_
  unfold fX2_wholeOf at e
  obtain ⟨h1, e⟩ := bC_ok e
  obtain ⟨h2, e⟩ := bC_ok e
  cases e
  exact xw_yr hd0 29 [] rfl ⟨h1, h2, rfl, trivial⟩ ⟨rfl, rfl⟩
set_option maxRecDepth 20000 in
set_option maxHeartbeats 4000000 in
theorem sX2_halfOf {LL : Nat} {xs : Nat → Int32} {tx : List xh_T} {d : Nat} {A V : xM} {cu : Value} {r : Int32} {l1 l2 l3 : Int32} (hd : 61 ≤ d) (e : fX2_halfOf l1 l2 l3 A V = some r) : xe (xk_ro LL xs) d 17 [.ref 65, .int l1, .int l2, .int l3] (xh A V tx cu) (qI r (xh A V tx cu)) := by
  obtain ⟨d, rfl⟩ : ∃ d1, d = d1 + 1 := ⟨d - 1, by omega⟩
  replace hd : 60 ≤ d := by omega
  have hd0 : 60 ≤ d := by omega
  refine xe_of (co := xk_17) (nl := 5) rfl rfl rfl ?_
  unfold fX2_halfOf at e
  obtain ⟨h1, e⟩ := bC_ok e
  obtain ⟨h2, e⟩ := bC_ok e
  cases e
  exact xw_yr hd0 29 [] rfl ⟨h1, h2, rfl, trivial⟩ ⟨rfl, rfl⟩
set_option maxRecDepth 20000 in
set_option maxHeartbeats 4000000 in
theorem sJ6_bitCount_0f7a4 {LL : Nat} {xs : Nat → Int32} {tx : List xh_T} {d : Nat} {A V : xM} {cu : Value} {r : Int32} {l0 : Int32} (hd : 61 ≤ d) (e : fJ6_bitCount_0f7a4 l0 A V = some r) : xe (xk_ro LL xs) d 216 [.int l0] (xh A V tx cu) (qI r (xh A V tx cu)) := by
  obtain ⟨d, rfl⟩ : ∃ d1, d = d1 + 1 := ⟨d - 1, by omega⟩
  replace hd : 60 ≤ d := by omega
  have hd0 : 60 ≤ d := by omega
  refine xe_of (co := xk_216) (nl := 1) rfl rfl rfl ?_
  unfold fJ6_bitCount_0f7a4 at e
  cases e
  exact xw_yr hd0 43 [] rfl ⟨rfl, trivial⟩ ⟨rfl, rfl⟩
set_option maxRecDepth 20000 in
set_option maxHeartbeats 4000000 in
theorem slJ7_fill_53178_L5_89 {LL : Nat} {xs : Nat → Int32} {tx : List xh_T} {d : Nat} {A' V' : xM} {c' : Value} {l1 : Int32} {l3 : Int32} {ex : xM → xM → Value → Option (xS)} (hd : 60 ≤ d) (hex : ∀ (w0 w1 w2 w3 : Option Value) (A V : xM) (cu : Value), ex  A V cu = some (A', V', c') → xw (xk_ro LL xs) d xk_217 20 [w0, w1, w2, w3] [] (xh A V tx cu) (qU (xh A' V' tx c'))) : ∀ (n : Nat) (l2 : Int32) (A V : xM) (cu : Value), fJ7_fill_53178_L5 89 l1 l3 ex n l2 A V cu = some (A', V', c') → xw (xk_ro LL xs) d xk_217 5 [some (.ref 89), some (.int l1), some (.int l2), some (.int l3)] [] (xh A V tx cu) (qU (xh A' V' tx c')) := by
  have hd0 : 60 ≤ d := by omega
  intro n
  induction n with
  | zero =>
    intro l2 A V cu e
    rw [fJ7_fill_53178_L5] at e
    cases e
  | succ n ih =>
    intro l2 A V cu e
    rw [fJ7_fill_53178_L5] at e
    rcases ite_ok e with ⟨h1, e⟩ | ⟨h1, e⟩
    · refine xw_y hd0 3 [1] rfl ⟨decide_eq_true h1, trivial⟩ ?_
      exact hex _ _ _ _ _ _ _ e
    · obtain ⟨h2, e⟩ := bC_ok e
      refine xw_y hd0 9 [0] rfl ⟨nt h1, h2, trivial⟩ ?_
      exact ih _ _ _ _ e
set_option maxRecDepth 20000 in
set_option maxHeartbeats 4000000 in
theorem sJ7_fill_53178_89 {LL : Nat} {xs : Nat → Int32} {tx : List xh_T} {d : Nat} {A V : xM} {cu : Value} {A' V' : xM} {c' : Value} {l1 : Int32} (hd : 61 ≤ d) (e : fJ7_fill_53178 89 l1 A V cu = some (A', V', c')) : xe (xk_ro LL xs) d 217 [.ref 89, .int l1] (xh A V tx cu) (qU (xh A' V' tx c')) := by
  obtain ⟨d, rfl⟩ : ∃ d1, d = d1 + 1 := ⟨d - 1, by omega⟩
  replace hd : 60 ≤ d := by omega
  have hd0 : 60 ≤ d := by omega
  refine xe_of (co := xk_217) (nl := 4) rfl rfl rfl ?_
  unfold fJ7_fill_53178 at e
  refine xw_y hd0 5 [] rfl trivial ?_
  refine slJ7_fill_53178_L5_89 hd ?_ FU _ _ _ _ e
  · intro z3 z4 z5 z6 A7 V8 c9 e
    cases e
    exact xw_yr hd0 2 [] rfl trivial ⟨rfl, rfl⟩
set_option maxRecDepth 20000 in
set_option maxHeartbeats 4000000 in
theorem slJ7_fill_53178_L5_94 {LL : Nat} {xs : Nat → Int32} {tx : List xh_T} {d : Nat} {A' V' : xM} {c' : Value} {l1 : Int32} {l3 : Int32} {ex : xM → xM → Value → Option (xS)} (hd : 60 ≤ d) (hex : ∀ (w0 w1 w2 w3 : Option Value) (A V : xM) (cu : Value), ex  A V cu = some (A', V', c') → xw (xk_ro LL xs) d xk_217 20 [w0, w1, w2, w3] [] (xh A V tx cu) (qU (xh A' V' tx c'))) : ∀ (n : Nat) (l2 : Int32) (A V : xM) (cu : Value), fJ7_fill_53178_L5 94 l1 l3 ex n l2 A V cu = some (A', V', c') → xw (xk_ro LL xs) d xk_217 5 [some (.ref 94), some (.int l1), some (.int l2), some (.int l3)] [] (xh A V tx cu) (qU (xh A' V' tx c')) := by
  have hd0 : 60 ≤ d := by omega
  intro n
  induction n with
  | zero =>
    intro l2 A V cu e
    rw [fJ7_fill_53178_L5] at e
    cases e
  | succ n ih =>
    intro l2 A V cu e
    rw [fJ7_fill_53178_L5] at e
    rcases ite_ok e with ⟨h1, e⟩ | ⟨h1, e⟩
    · refine xw_y hd0 3 [1] rfl ⟨decide_eq_true h1, trivial⟩ ?_
      exact hex _ _ _ _ _ _ _ e
    · obtain ⟨h2, e⟩ := bC_ok e
      refine xw_y hd0 9 [0] rfl ⟨nt h1, h2, trivial⟩ ?_
      exact ih _ _ _ _ e
set_option maxRecDepth 20000 in
set_option maxHeartbeats 4000000 in
theorem sJ7_fill_53178_94 {LL : Nat} {xs : Nat → Int32} {tx : List xh_T} {d : Nat} {A V : xM} {cu : Value} {A' V' : xM} {c' : Value} {l1 : Int32} (hd : 61 ≤ d) (e : fJ7_fill_53178 94 l1 A V cu = some (A', V', c')) : xe (xk_ro LL xs) d 217 [.ref 94, .int l1] (xh A V tx cu) (qU (xh A' V' tx c')) := by
  obtain ⟨d, rfl⟩ : ∃ d1, d = d1 + 1 := ⟨d - 1, by omega⟩
  replace hd : 60 ≤ d := by omega
  have hd0 : 60 ≤ d := by omega
  refine xe_of (co := xk_217) (nl := 4) rfl rfl rfl ?_
  unfold fJ7_fill_53178 at e
  refine xw_y hd0 5 [] rfl trivial ?_
  refine slJ7_fill_53178_L5_94 hd ?_ FU _ _ _ _ e
  · intro z3 z4 z5 z6 A7 V8 c9 e
    cases e
    exact xw_yr hd0 2 [] rfl trivial ⟨rfl, rfl⟩
set_option maxRecDepth 20000 in
set_option maxHeartbeats 4000000 in
theorem slJ7_fill_53178_L5_123 {LL : Nat} {xs : Nat → Int32} {tx : List xh_T} {d : Nat} {A' V' : xM} {c' : Value} {l1 : Int32} {l3 : Int32} {ex : xM → xM → Value → Option (xS)} (hd : 60 ≤ d) (hex : ∀ (w0 w1 w2 w3 : Option Value) (A V : xM) (cu : Value), ex  A V cu = some (A', V', c') → xw (xk_ro LL xs) d xk_217 20 [w0, w1, w2, w3] [] (xh A V tx cu) (qU (xh A' V' tx c'))) : ∀ (n : Nat) (l2 : Int32) (A V : xM) (cu : Value), fJ7_fill_53178_L5 123 l1 l3 ex n l2 A V cu = some (A', V', c') → xw (xk_ro LL xs) d xk_217 5 [some (.ref 123), some (.int l1), some (.int l2), some (.int l3)] [] (xh A V tx cu) (qU (xh A' V' tx c')) := by
  have hd0 : 60 ≤ d := by omega
  intro n
  induction n with
  | zero =>
    intro l2 A V cu e
    rw [fJ7_fill_53178_L5] at e
    cases e
  | succ n ih =>
    intro l2 A V cu e
    rw [fJ7_fill_53178_L5] at e
    rcases ite_ok e with ⟨h1, e⟩ | ⟨h1, e⟩
    · refine xw_y hd0 3 [1] rfl ⟨decide_eq_true h1, trivial⟩ ?_
      exact hex _ _ _ _ _ _ _ e
    · obtain ⟨h2, e⟩ := bC_ok e
      refine xw_y hd0 9 [0] rfl ⟨nt h1, h2, trivial⟩ ?_
      exact ih _ _ _ _ e
set_option maxRecDepth 20000 in
set_option maxHeartbeats 4000000 in
theorem sJ7_fill_53178_123 {LL : Nat} {xs : Nat → Int32} {tx : List xh_T} {d : Nat} {A V : xM} {cu : Value} {A' V' : xM} {c' : Value} {l1 : Int32} (hd : 61 ≤ d) (e : fJ7_fill_53178 123 l1 A V cu = some (A', V', c')) : xe (xk_ro LL xs) d 217 [.ref 123, .int l1] (xh A V tx cu) (qU (xh A' V' tx c')) := by
  obtain ⟨d, rfl⟩ : ∃ d1, d = d1 + 1 := ⟨d - 1, by omega⟩
  replace hd : 60 ≤ d := by omega
  have hd0 : 60 ≤ d := by omega
  refine xe_of (co := xk_217) (nl := 4) rfl rfl rfl ?_
  unfold fJ7_fill_53178 at e
  refine xw_y hd0 5 [] rfl trivial ?_
  refine slJ7_fill_53178_L5_123 hd ?_ FU _ _ _ _ e
  · intro z3 z4 z5 z6 A7 V8 c9 e
    cases e
    exact xw_yr hd0 2 [] rfl trivial ⟨rfl, rfl⟩
set_option maxRecDepth 20000 in
set_option maxHeartbeats 4000000 in
theorem slJ7_fill_53178_L5_125 {LL : Nat} {xs : Nat → Int32} {tx : List xh_T} {d : Nat} {A' V' : xM} {c' : Value} {l1 : Int32} {l3 : Int32} {ex : xM → xM → Value → Option (xS)} (hd : 60 ≤ d) (hex : ∀ (w0 w1 w2 w3 : Option Value) (A V : xM) (cu : Value), ex  A V cu = some (A', V', c') → xw (xk_ro LL xs) d xk_217 20 [w0, w1, w2, w3] [] (xh A V tx cu) (qU (xh A' V' tx c'))) : ∀ (n : Nat) (l2 : Int32) (A V : xM) (cu : Value), fJ7_fill_53178_L5 125 l1 l3 ex n l2 A V cu = some (A', V', c') → xw (xk_ro LL xs) d xk_217 5 [some (.ref 125), some (.int l1), some (.int l2), some (.int l3)] [] (xh A V tx cu) (qU (xh A' V' tx c')) := by
  have hd0 : 60 ≤ d := by omega
  intro n
  induction n with
  | zero =>
    intro l2 A V cu e
    rw [fJ7_fill_53178_L5] at e
    cases e
  | succ n ih =>
    intro l2 A V cu e
    rw [fJ7_fill_53178_L5] at e
    rcases ite_ok e with ⟨h1, e⟩ | ⟨h1, e⟩
    · refine xw_y hd0 3 [1] rfl ⟨decide_eq_true h1, trivial⟩ ?_
      exact hex _ _ _ _ _ _ _ e
    · obtain ⟨h2, e⟩ := bC_ok e
      refine xw_y hd0 9 [0] rfl ⟨nt h1, h2, trivial⟩ ?_
      exact ih _ _ _ _ e
set_option maxRecDepth 20000 in
set_option maxHeartbeats 4000000 in
theorem sJ7_fill_53178_125 {LL : Nat} {xs : Nat → Int32} {tx : List xh_T} {d : Nat} {A V : xM} {cu : Value} {A' V' : xM} {c' : Value} {l1 : Int32} (hd : 61 ≤ d) (e : fJ7_fill_53178 125 l1 A V cu = some (A', V', c')) : xe (xk_ro LL xs) d 217 [.ref 125, .int l1] (xh A V tx cu) (qU (xh A' V' tx c')) := by
  obtain ⟨d, rfl⟩ : ∃ d1, d = d1 + 1 := ⟨d - 1, by omega⟩
  replace hd : 60 ≤ d := by omega
  have hd0 : 60 ≤ d := by omega
  refine xe_of (co := xk_217) (nl := 4) rfl rfl rfl ?_
  unfold fJ7_fill_53178 at e
  refine xw_y hd0 5 [] rfl trivial ?_
  refine slJ7_fill_53178_L5_125 hd ?_ FU _ _ _ _ e
  · intro z3 z4 z5 z6 A7 V8 c9 e
    cases e
    exact xw_yr hd0 2 [] rfl trivial ⟨rfl, rfl⟩
set_option maxRecDepth 20000 in
set_option maxHeartbeats 4000000 in
theorem slJ7_fill_53178_L5_127 {LL : Nat} {xs : Nat → Int32} {tx : List xh_T} {d : Nat} {A' V' : xM} {c' : Value} {l1 : Int32} {l3 : Int32} {ex : xM → xM → Value → Option (xS)} (hd : 60 ≤ d) (hex : ∀ (w0 w1 w2 w3 : Option Value) (A V : xM) (cu : Value), ex  A V cu = some (A', V', c') → xw (xk_ro LL xs) d xk_217 20 [w0, w1, w2, w3] [] (xh A V tx cu) (qU (xh A' V' tx c'))) : ∀ (n : Nat) (l2 : Int32) (A V : xM) (cu : Value), fJ7_fill_53178_L5 127 l1 l3 ex n l2 A V cu = some (A', V', c') → xw (xk_ro LL xs) d xk_217 5 [some (.ref 127), some (.int l1), some (.int l2), some (.int l3)] [] (xh A V tx cu) (qU (xh A' V' tx c')) := by
  have hd0 : 60 ≤ d := by omega
  intro n
  induction n with
  | zero =>
    intro l2 A V cu e
    rw [fJ7_fill_53178_L5] at e
    cases e
  | succ n ih =>
    intro l2 A V cu e
    rw [fJ7_fill_53178_L5] at e
    rcases ite_ok e with ⟨h1, e⟩ | ⟨h1, e⟩
    · refine xw_y hd0 3 [1] rfl ⟨decide_eq_true h1, trivial⟩ ?_
      exact hex _ _ _ _ _ _ _ e
    · obtain ⟨h2, e⟩ := bC_ok e
      refine xw_y hd0 9 [0] rfl ⟨nt h1, h2, trivial⟩ ?_
      exact ih _ _ _ _ e
set_option maxRecDepth 20000 in
set_option maxHeartbeats 4000000 in
theorem sJ7_fill_53178_127 {LL : Nat} {xs : Nat → Int32} {tx : List xh_T} {d : Nat} {A V : xM} {cu : Value} {A' V' : xM} {c' : Value} {l1 : Int32} (hd : 61 ≤ d) (e : fJ7_fill_53178 127 l1 A V cu = some (A', V', c')) : xe (xk_ro LL xs) d 217 [.ref 127, .int l1] (xh A V tx cu) (qU (xh A' V' tx c')) := by
  obtain ⟨d, rfl⟩ : ∃ d1, d = d1 + 1 := ⟨d - 1, by omega⟩
  replace hd : 60 ≤ d := by omega
  have hd0 : 60 ≤ d := by omega
  refine xe_of (co := xk_217) (nl := 4) rfl rfl rfl ?_
  unfold fJ7_fill_53178 at e
  refine xw_y hd0 5 [] rfl trivial ?_
  refine slJ7_fill_53178_L5_127 hd ?_ FU _ _ _ _ e
  · intro z3 z4 z5 z6 A7 V8 c9 e
    cases e
    exact xw_yr hd0 2 [] rfl trivial ⟨rfl, rfl⟩
set_option maxRecDepth 20000 in
set_option maxHeartbeats 4000000 in
theorem slJ7_fill_53178_L5_129 {LL : Nat} {xs : Nat → Int32} {tx : List xh_T} {d : Nat} {A' V' : xM} {c' : Value} {l1 : Int32} {l3 : Int32} {ex : xM → xM → Value → Option (xS)} (hd : 60 ≤ d) (hex : ∀ (w0 w1 w2 w3 : Option Value) (A V : xM) (cu : Value), ex  A V cu = some (A', V', c') → xw (xk_ro LL xs) d xk_217 20 [w0, w1, w2, w3] [] (xh A V tx cu) (qU (xh A' V' tx c'))) : ∀ (n : Nat) (l2 : Int32) (A V : xM) (cu : Value), fJ7_fill_53178_L5 129 l1 l3 ex n l2 A V cu = some (A', V', c') → xw (xk_ro LL xs) d xk_217 5 [some (.ref 129), some (.int l1), some (.int l2), some (.int l3)] [] (xh A V tx cu) (qU (xh A' V' tx c')) := by
  have hd0 : 60 ≤ d := by omega
  intro n
  induction n with
  | zero =>
    intro l2 A V cu e
    rw [fJ7_fill_53178_L5] at e
    cases e
  | succ n ih =>
    intro l2 A V cu e
    rw [fJ7_fill_53178_L5] at e
    rcases ite_ok e with ⟨h1, e⟩ | ⟨h1, e⟩
    · refine xw_y hd0 3 [1] rfl ⟨decide_eq_true h1, trivial⟩ ?_
      exact hex _ _ _ _ _ _ _ e
    · obtain ⟨h2, e⟩ := bC_ok e
      refine xw_y hd0 9 [0] rfl ⟨nt h1, h2, trivial⟩ ?_
      exact ih _ _ _ _ e
set_option maxRecDepth 20000 in
set_option maxHeartbeats 4000000 in
theorem sJ7_fill_53178_129 {LL : Nat} {xs : Nat → Int32} {tx : List xh_T} {d : Nat} {A V : xM} {cu : Value} {A' V' : xM} {c' : Value} {l1 : Int32} (hd : 61 ≤ d) (e : fJ7_fill_53178 129 l1 A V cu = some (A', V', c')) : xe (xk_ro LL xs) d 217 [.ref 129, .int l1] (xh A V tx cu) (qU (xh A' V' tx c')) := by
  obtain ⟨d, rfl⟩ : ∃ d1, d = d1 + 1 := ⟨d - 1, by omega⟩
  replace hd : 60 ≤ d := by omega
  have hd0 : 60 ≤ d := by omega
  refine xe_of (co := xk_217) (nl := 4) rfl rfl rfl ?_
  unfold fJ7_fill_53178 at e
  refine xw_y hd0 5 [] rfl trivial ?_
  refine slJ7_fill_53178_L5_129 hd ?_ FU _ _ _ _ e
  · intro z3 z4 z5 z6 A7 V8 c9 e
    cases e
    exact xw_yr hd0 2 [] rfl trivial ⟨rfl, rfl⟩
theorem sJ7_fill_53178_c {LL : Nat} {xs : Nat → Int32} {tx : List xh_T} {d : Nat} {A V : xM} {cu : Value} {A' V' : xM} {c' : Value} {o : Nat} {l1 : Int32} (ho : isSh o) (hd : 61 ≤ d) (e : fJ7_fill_53178 (o + 1) l1 A V cu = some (A', V', c')) : xe (xk_ro LL xs) d 217 [.ref (o + 1), .int l1] (xh A V tx cu) (qU (xh A' V' tx c')) := by
  unfold isSh at ho
  rcases ho with rfl | rfl | rfl | rfl
  · exact sJ7_fill_53178_123 hd e
  · exact sJ7_fill_53178_125 hd e
  · exact sJ7_fill_53178_127 hd e
  · exact sJ7_fill_53178_129 hd e
set_option maxRecDepth 20000 in
set_option maxHeartbeats 4000000 in
theorem sX5_has {LL : Nat} {xs : Nat → Int32} {tx : List xh_T} {d : Nat} {A V : xM} {cu : Value} {r : Int32} {l0 : Nat} {l1 : Int32} (hl0 : isSh l0) (hd : 61 ≤ d) (e : fX5_has l0 l1 A V = some r) : xe (xk_ro LL xs) d 50 [.ref l0, .int l1] (xh A V tx cu) (qI r (xh A V tx cu)) := by
  obtain ⟨d, rfl⟩ : ∃ d1, d = d1 + 1 := ⟨d - 1, by omega⟩
  replace hd : 60 ≤ d := by omega
  have hd0 : 60 ≤ d := by omega
  refine xe_of (co := xk_50) (nl := 2) rfl rfl rfl ?_
  unfold fX5_has at e
  rcases ite_ok e with ⟨h1, e⟩ | ⟨h1, e⟩
  · cases e
    exact xw_yr hd0 5 [1] rfl ⟨decide_eq_true h1, rfl, trivial⟩ ⟨rfl, rfl⟩
  · refine xw_y hd0 4 [0] rfl ⟨nt h1, trivial⟩ ?_
    refine st_get_sheet_2 hl0 rfl ?_
    rcases ite_ok e with ⟨h2, e⟩ | ⟨h2, e⟩
    · cases e
      exact xw_yr hd0 4 [1] rfl ⟨decide_eq_true h2, rfl, trivial⟩ ⟨rfl, rfl⟩
    · cases e
      exact xw_yr hd0 5 [0] rfl ⟨nt h2, rfl, trivial⟩ ⟨rfl, rfl⟩
set_option maxRecDepth 20000 in
set_option maxHeartbeats 4000000 in
theorem sX5_hasRange {LL : Nat} {xs : Nat → Int32} {tx : List xh_T} {d : Nat} {A V : xM} {cu : Value} {r : Int32} {l0 : Nat} {l1 l2 : Int32} (hl0 : isSh l0) (hd : 61 ≤ d) (e : fX5_hasRange l0 l1 l2 A V = some r) : xe (xk_ro LL xs) d 51 [.ref l0, .int l1, .int l2] (xh A V tx cu) (qI r (xh A V tx cu)) := by
  obtain ⟨d, rfl⟩ : ∃ d1, d = d1 + 1 := ⟨d - 1, by omega⟩
  replace hd : 60 ≤ d := by omega
  have hd0 : 60 ≤ d := by omega
  refine xe_of (co := xk_51) (nl := 3) rfl rfl rfl ?_
  unfold fX5_hasRange at e
  rcases ite_ok e with ⟨h1, e⟩ | ⟨h1, e⟩
  · cases e
    exact xw_yr hd0 5 [1] rfl ⟨decide_eq_true h1, rfl, trivial⟩ ⟨rfl, rfl⟩
  · rcases ite_ok e with ⟨h2, e⟩ | ⟨h2, e⟩
    · cases e
      exact xw_yr hd0 7 [0, 1] rfl ⟨nt h1, decide_eq_true h2, rfl, trivial⟩ ⟨rfl, rfl⟩
    · refine xw_y hd0 6 [0, 0] rfl ⟨nt h1, nt h2, trivial⟩ ?_
      refine st_get_sheet_2 hl0 rfl ?_
      rcases ite_ok e with ⟨h3, e⟩ | ⟨h3, e⟩
      · cases e
        exact xw_yr hd0 4 [1] rfl ⟨decide_eq_true h3, rfl, trivial⟩ ⟨rfl, rfl⟩
      · refine xw_y hd0 3 [0] rfl ⟨nt h3, trivial⟩ ?_
        refine st_get_sheet_2 hl0 rfl ?_
        rcases ite_ok e with ⟨h4, e⟩ | ⟨h4, e⟩
        · cases e
          exact xw_yr hd0 6 [1] rfl ⟨decide_eq_true h4, rfl, trivial⟩ ⟨rfl, rfl⟩
        · cases e
          exact xw_yr hd0 7 [0] rfl ⟨nt h4, rfl, trivial⟩ ⟨rfl, rfl⟩
set_option maxRecDepth 20000 in
set_option maxHeartbeats 4000000 in
theorem sX5_at {LL : Nat} {xs : Nat → Int32} {tx : List xh_T} {d : Nat} {A V : xM} {cu : Value} {r : Int32} {l0 : Nat} {l1 : Int32} (hl0 : isSh l0) (hd : 62 ≤ d) (e : fX5_at l0 l1 A V = some r) : xe (xk_ro LL xs) d 52 [.ref l0, .int l1] (xh A V tx cu) (qI r (xh A V tx cu)) := by
  obtain ⟨d, rfl⟩ : ∃ d1, d = d1 + 1 := ⟨d - 1, by omega⟩
  replace hd : 61 ≤ d := by omega
  have hd0 : 60 ≤ d := by omega
  refine xe_of (co := xk_52) (nl := 2) rfl rfl rfl ?_
  unfold fX5_at at e
  refine xw_y hd0 2 [] rfl trivial ?_
  obtain ⟨x1, e2, e⟩ := bI_ok e
  refine xw_call (k := 50) (j := 2) rfl (fun F => st_recv_sheet hl0 rfl F) rfl rfl rfl (sX5_has hl0 (by omega) e2) ?_
  rintro _ _ ⟨rfl, rfl⟩
  rcases ite_ok e with ⟨h3, e⟩ | ⟨h3, e⟩
  · cases e
    exact xw_yr hd0 4 [1] rfl ⟨decide_eq_true h3, rfl, trivial⟩ ⟨rfl, rfl⟩
  · refine xw_y hd0 2 [0] rfl ⟨nt h3, trivial⟩ ?_
    refine st_get_sheet_0 hl0 rfl ?_
    refine xw_y hd0 1 [] rfl trivial ?_
    obtain ⟨h4, e⟩ := bC_ok e
    refine st_ld_cells hl0 h4 rfl ?_
    cases e
    exact xw_yr hd0 3 [] rfl ⟨rfl, trivial⟩ ⟨rfl, rfl⟩
set_option maxRecDepth 20000 in
set_option maxHeartbeats 4000000 in
theorem sX5_put {LL : Nat} {xs : Nat → Int32} {tx : List xh_T} {d : Nat} {A V : xM} {cu : Value} {A' V' : xM} {c' : Value} {l0 : Nat} {l1 l2 : Int32} (hl0 : isSh l0) (hd : 62 ≤ d) (e : fX5_put l0 l1 l2 A V cu = some (A', V', c')) : xe (xk_ro LL xs) d 53 [.ref l0, .int l1, .int l2] (xh A V tx cu) (qU (xh A' V' tx c')) := by
  obtain ⟨d, rfl⟩ : ∃ d1, d = d1 + 1 := ⟨d - 1, by omega⟩
  replace hd : 61 ≤ d := by omega
  have hd0 : 60 ≤ d := by omega
  refine xe_of (co := xk_53) (nl := 3) rfl rfl rfl ?_
  unfold fX5_put at e
  refine xw_y hd0 2 [] rfl trivial ?_
  obtain ⟨x1, e2, e⟩ := bI_ok e
  refine xw_call (k := 50) (j := 2) rfl (fun F => st_recv_sheet hl0 rfl F) rfl rfl rfl (sX5_has hl0 (by omega) e2) ?_
  rintro _ _ ⟨rfl, rfl⟩
  rcases ite_ok e with ⟨h3, e⟩ | ⟨h3, e⟩
  · cases e
    exact xw_yr hd0 3 [1] rfl ⟨decide_eq_true h3, trivial⟩ ⟨rfl, rfl⟩
  · refine xw_y hd0 2 [0] rfl ⟨nt h3, trivial⟩ ?_
    refine st_get_sheet_0 hl0 rfl ?_
    refine xw_y hd0 2 [] rfl trivial ?_
    refine st_get_sheet_1 hl0 rfl ?_
    rcases ite_ok e with ⟨h4, e⟩ | ⟨h4, e⟩
    · refine xw_y hd0 4 [0] rfl ⟨nnt h4, trivial⟩ ?_
      obtain ⟨h5, e⟩ := bC_ok e
      refine st_st_cells hl0 h5 rfl ?_
      cases e
      exact xw_yr hd0 2 [] rfl trivial ⟨rfl, rfl⟩
    · refine xw_y hd0 2 [1] rfl ⟨nt h4, trivial⟩ ?_
      refine st_get_sheet_1 hl0 rfl ?_
      rcases ite_ok e with ⟨h6, e⟩ | ⟨h6, e⟩
      · refine xw_y hd0 5 [0] rfl ⟨nnt h6, trivial⟩ ?_
        obtain ⟨h7, e⟩ := bC_ok e
        refine st_st_cells hl0 h7 rfl ?_
        cases e
        exact xw_yr hd0 2 [] rfl trivial ⟨rfl, rfl⟩
      · refine xw_y hd0 3 [1] rfl ⟨nt h6, trivial⟩ ?_
        obtain ⟨h8, e⟩ := bC_ok e
        refine st_st_cells hl0 h8 rfl ?_
        cases e
        exact xw_yr hd0 2 [] rfl trivial ⟨rfl, rfl⟩
set_option maxRecDepth 20000 in
set_option maxHeartbeats 4000000 in
theorem sX5_become {LL : Nat} {xs : Nat → Int32} {tx : List xh_T} {d : Nat} {A V : xM} {cu : Value} {A' V' : xM} {c' : Value} {l0 : Nat} {l1 l2 : Int32} (hl0 : isSh l0) (hd : 62 ≤ d) (e : fX5_become l0 l1 l2 A V cu = some (A', V', c')) : xe (xk_ro LL xs) d 49 [.ref l0, .int l1, .int l2] (xh A V tx cu) (qU (xh A' V' tx c')) := by
  obtain ⟨d, rfl⟩ : ∃ d1, d = d1 + 1 := ⟨d - 1, by omega⟩
  replace hd : 61 ≤ d := by omega
  have hd0 : 60 ≤ d := by omega
  refine xe_of (co := xk_49) (nl := 3) rfl rfl rfl ?_
  unfold fX5_become at e
  refine xw_y hd0 2 [] rfl trivial ?_
  refine st_put_sheet_1 hl0 rfl ?_
  rcases ite_ok e with ⟨h1, e⟩ | ⟨h1, e⟩
  · refine xw_y hd0 5 [1] rfl ⟨decide_eq_true h1, trivial⟩ ?_
    refine st_put_sheet_2 hl0 rfl ?_
    refine xw_y hd0 1 [] rfl trivial ?_
    refine st_get_sheet_0 hl0 rfl ?_
    refine xw_y hd0 1 [] rfl trivial ?_
    obtain ⟨A3, V4, c5, e6, e⟩ := bS_ok e
    refine xw_call (k := 217) (j := 2) rfl (fun F => xm_c_ok (y_c_ok rfl) F) rfl rfl rfl (sJ7_fill_53178_c hl0 (by omega) e6) ?_
    rintro _ _ ⟨rfl, rfl⟩
    cases e
    exact xw_yr hd0 2 [] rfl trivial ⟨rfl, rfl⟩
  · rcases ite_ok e with ⟨h7, e⟩ | ⟨h7, e⟩
    · refine xw_y hd0 7 [0, 1] rfl ⟨nt h1, decide_eq_true h7, trivial⟩ ?_
      refine st_put_sheet_2 hl0 rfl ?_
      refine xw_y hd0 1 [] rfl trivial ?_
      refine st_get_sheet_0 hl0 rfl ?_
      refine xw_y hd0 1 [] rfl trivial ?_
      obtain ⟨A9, V10, c11, e12, e⟩ := bS_ok e
      refine xw_call (k := 217) (j := 2) rfl (fun F => xm_c_ok (y_c_ok rfl) F) rfl rfl rfl (sJ7_fill_53178_c hl0 (by omega) e12) ?_
      rintro _ _ ⟨rfl, rfl⟩
      cases e
      exact xw_yr hd0 2 [] rfl trivial ⟨rfl, rfl⟩
    · refine xw_y hd0 8 [0, 0] rfl ⟨nt h1, nt h7, trivial⟩ ?_
      refine st_put_sheet_2 hl0 rfl ?_
      refine xw_y hd0 1 [] rfl trivial ?_
      refine st_get_sheet_0 hl0 rfl ?_
      refine xw_y hd0 1 [] rfl trivial ?_
      obtain ⟨A14, V15, c16, e17, e⟩ := bS_ok e
      refine xw_call (k := 217) (j := 2) rfl (fun F => xm_c_ok (y_c_ok rfl) F) rfl rfl rfl (sJ7_fill_53178_c hl0 (by omega) e17) ?_
      rintro _ _ ⟨rfl, rfl⟩
      cases e
      exact xw_yr hd0 2 [] rfl trivial ⟨rfl, rfl⟩
