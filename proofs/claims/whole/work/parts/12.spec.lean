/-! WHAT THE DOCUMENT'S WORDS MEAN, over a garden -/
def bI (b : Bool) : Int32 := if b = true then 1 else 0
theorem bI_0 {b : Bool} (h : bI b = 0) : b = false := by cases b <;> first | rfl | exact absurd h (by decide)
theorem bI_1 {b : Bool} (h : ¬ bI b = 0) : b = true := by cases b <;> first | rfl | exact absurd rfl h
theorem bI_t : bI true = 1 := rfl
theorem bI_f : bI false = 0 := rfl
theorem bI_nar (b : Bool) : narrow .boolean (.int (bI b)) = .int (bI b) := by cases b <;> rfl
theorem nI_00 : (0 : Int32) = nI 0 := rfl
/-- what a shop asks, unlimited -/
def askL (f : Nat → Int32) : Int64 :=
  if f 0 = 1 then (f 2).toInt64 + (f 1).toInt64 * (f 3).toInt64
  else if f 0 = 2 then (f 2).toInt64 - (f 1).toInt64 * (f 4).toInt64
  else if f 0 = 3 then (f 2).toInt64 + (f 1).toInt64 * (f 3).toInt64 * (f 3).toInt64
  else if f 0 = 5 then (f 2).toInt64 - (f 4).toInt64
  else if f 0 = 6 then (f 2).toInt64 + (f 1).toInt64 * (f 3).toInt64
  else (f 2).toInt64
def askM (a : Int64) : Int64 := if a < 9999 then a else 9999
def asked (f : Nat → Int32) : Int32 := (if askM (askL f) < 1 then 1 else askM (askL f)).toInt32
/-- it takes stamps alone -/
def isSt (f : Nat → Int32) : Bool := decide (f 0 = 4) || decide (f 0 = 6)
/-- the kind above -/
def isUnder (k w : Int32) : Bool := decide (k = w) || (decide (w = 0) && decide (0 ≤ k) && decide (k ≤ 6)) || (decide (k = 3) && decide (w = 1)) || (decide (k = 5) && decide (w = 2)) || (decide (k = 6) && decide (w = 4))
def mn9 (x : Int32) : Int32 := if x < 9999 then x else 9999
def gAdd (g : zGc) (c : Nat) (a b : Int32) : zGc := gCh (gCh g c 1 (mn9 (g.2.2 c 1 + a))) c 2 (mn9 (g.2.2 c 2 + b))
