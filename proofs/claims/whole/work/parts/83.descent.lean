/-! TEXT: what the class reads, as a function of the stream: c k the class's number of the token k, v k its worth. A result (k, ok, l): at the token k, whether all went well (if not, k is where it went wrong), the steps added. -/
abbrev pR : Type := Option (Nat × Bool × List Int32)
/-- an operand was read: go on with it -/
def pB (r : pR) (f : Nat → List Int32 → pR) : pR := match r with
  | none => none
  | some (k, true, l) => f k l
  | some (k, false, l) => some (k, false, l)
/-- operators of one rank, each with an operand behind it -/
def pL (c : Nat → Int32) (rc : Nat → pR) (op : Int32 → Bool) : Nat → Nat → List Int32 → pR
  | 0, k, l => some (k, true, l)
  | m + 1, k, l => if op (c k) = true then pB (rc (k + 1)) (fun k' l' => pL c rc op m k' (l ++ l' ++ [-(c k)])) else some (k, true, l)
def isSum (x : Int32) : Bool := decide (x = 43) || decide (x = 45)
def isCmp (x : Int32) : Bool := decide (x = 60) || decide (x = 61)
def pP (c v : Nat → Int32) : Nat → Nat → Nat → Nat → pR
  | 0, _, _, _ => none
  | n + 1, j, o, k =>
    if j = 31 then pB (pP c v n 32 o k) (fun k' l => pL c (pP c v n 32 o) (fun x => decide (x = 12)) 160 k' l)
    else if j = 32 then pB (pP c v n 33 o k) (fun k' l => pL c (pP c v n 33 o) (fun x => decide (x = 13)) 160 k' l)
    else if j = 33 then (if c k = 14 then (if o < 5 then pB (pP c v n 33 (o + 1) (k + 1)) (fun k' l => some (k', true, l ++ [-14])) else some (k, false, []))
      else pB (pP c v n 34 o k) (fun k' l => if isCmp (c k') = true then pB (pP c v n 34 o (k' + 1)) (fun k2 l2 => some (k2, true, l ++ l2 ++ [-(c k')])) else some (k', true, l)))
    else if j = 34 then pB (pP c v n 35 o k) (fun k' l => pL c (pP c v n 35 o) isSum 160 k' l)
    else if j = 35 then pB (pP c v n 36 o k) (fun k' l => pL c (pP c v n 36 o) (fun x => decide (x = 42)) 160 k' l)
    else if j = 36 then (if c k = 2 then some (k + 1, true, [v k])
      else if 3 ≤ c k ∧ c k ≤ 8 then some (k + 1, true, [-(c k)])
      else if c k = 45 ∧ o < 5 then pB (pP c v n 36 (o + 1) (k + 1)) (fun k' l => some (k', true, l ++ [-15]))
      else if c k = 40 ∧ o < 5 then pB (pP c v n 31 (o + 1) (k + 1)) (fun k' l => if c k' = 41 then some (k' + 1, true, l) else some (k', false, l))
      else some (k, false, []))
    else none
