def nS (g : zGc) : Nat := (g.1 0).toNatClampNeg
def nC (g : zGc) : Nat := (g.1 1).toNatClampNeg
/-- its numbers of shops and children are such -/
def gz (g : zGc) : Prop := (g.1 0 = nI (nS g) ∧ nS g ≤ 6) ∧ (g.1 1 = nI (nC g) ∧ nC g ≤ 6)
def oI : Option Nat → Int32
  | none => -1
  | some s => nI s
def canBuy (g : zGc) (c s : Nat) (a : Int32) : Bool := if g.2.2 c 5 = nI s then false else decide (a ≤ (if isSt (g.2.1 s) = true then g.2.2 c 2 else g.2.2 c 1 + g.2.2 c 2))
def can (g : zGc) (c : Nat) (d : Int32) : Bool :=
  if d = 0 then true else if d = 1 then decide (0 < g.1 5) else if d = 2 then (decide (0 < g.1 4) && decide (0 < g.2.2 c 1)) else if d = 3 then decide (0 < g.2.2 c 3)
  else if d < 10 then false else if g.1 0 ≤ d - 10 then false else canBuy g c (d - 10).toNatClampNeg (asked (g.2.1 (d - 10).toNatClampNeg))
/-- a deed: rest, pick, stamp, give, or a cake of a shop that is there -/
def dd (g : zGc) (d : Int32) : Prop := d = 0 ∨ d = 1 ∨ d = 2 ∨ d = 3 ∨ ∃ s, s < nS g ∧ d = nI (10 + s)
/-- the first child that keeps s -/
def keepN (g : zGc) (s : Nat) : Nat → Option Nat
  | 0 => none
  | c + 1 => match keepN g s c with
    | some k => some k
    | none => if g.2.2 c 5 = nI s then some c else none
def buyA (g : zGc) (c s : Nat) : Int32 := if isSt (g.2.1 s) = true then 0 else if asked (g.2.1 s) < g.2.2 c 1 then asked (g.2.1 s) else g.2.2 c 1
def buyB (g : zGc) (c s : Nat) : zGc :=
  let g1 := gCh (gCh (gCh g c 1 (g.2.2 c 1 - buyA g c s)) c 2 (g.2.2 c 2 - (asked (g.2.1 s) - buyA g c s))) c 4 (g.2.2 c 4 + 1)
  let g2 := gSh (gSh g1 s 3 (g.2.1 s 3 + 1)) s 4 0
  gSc (gSc g2 3 (g.1 3 + asked (g.2.1 s))) 6 (g.1 6 + 1)
def buyG (g : zGc) (c s : Nat) : zGc := match keepN g s (nC g) with
  | none => buyB g c s
  | some k => gAdd (buyB g c s) k (buyA g c s) (asked (g.2.1 s) - buyA g c s)
def mnI (x y : Int32) : Int32 := if y < x then y else x
def makes (g : zGc) (c : Nat) (d : Int32) : zGc :=
  if d = 0 then g
  else if d = 1 then gAdd (gSc g 5 (g.1 5 - mnI (g.2.2 c 0) (g.1 5))) c (mnI (g.2.2 c 0) (g.1 5)) 0
  else if d = 2 then gAdd (gCh g c 1 (g.2.2 c 1 - mnI (g.1 4) (g.2.2 c 1))) c 0 (mnI (g.1 4) (g.2.2 c 1))
  else if d = 3 then gAdd (gCh g c 3 (g.2.2 c 3 - 1)) c 10 0
  else buyG g c (d - 10).toNatClampNeg
def busyD (B : Nat → Int32) (d : Int32) : Nat → Int32 := if d = 0 then B else if d = 1 then B else if d = 2 then B else if d = 3 then B else upd B (d - 10).toNatClampNeg 1
/-- the same of a garden of the class -/
def perf (G : zGf) (c : Nat) (d : Int32) : zGf := (makes G.1 c d, busyD G.2.1 d, G.2.2)
def askS (g : zGc) (s : Nat) : Int32 := asked (g.2.1 s)
def cheapN (g : zGc) (c : Nat) (lim : Int32) : Nat → Option Nat
  | 0 => none
  | s + 1 => match cheapN g c lim s with
    | none => if canBuy g c s (askS g s) = true ∧ askS g s ≤ lim then some s else none
    | some b => if canBuy g c s (askS g s) = true ∧ askS g s < askS g b then some s else some b
def cheap (g : zGc) (c : Nat) (lim : Int32) : Option Nat := cheapN g c lim (nS g)
def por (g : zGc) : Int32 := if 0 < g.1 5 then 1 else 0
def limR (g : zGc) (rule : Int32) (c : Nat) : Int32 := if rule = 3 then 10 * g.2.2 c 0 else 9999
def greedD (g : zGc) (c : Nat) (lim : Int32) : Int32 := match cheap g c lim with
  | none => por g
  | some s => nI (10 + s)
def deedBy (g : zGc) (rule : Int32) (c : Nat) : Int32 :=
  if rule = 1 ∧ g.2.2 c 1 < 50 then por g
  else if rule = 2 ∧ g.2.2 c 2 < g.2.2 c 1 then (if 0 < g.1 4 then 2 else 0)
  else greedD g c (limR g rule c)
def bz0 (n : Nat) (B : Nat → Int32) : Nat → Int32 := fun s => if s < n then 0 else B s
def begM (G : zGf) : zGf := (G.1, bz0 (nS G.1) G.2.1, G.2.2)
def kidsN (f : zGf → Nat → Int32) : Nat → zGf → zGf
  | 0, G => G
  | c + 1, G => perf (kidsN f c G) c (f (kidsN f c G) c)
def qn (q : Int32) : Int32 := if q + 1 < 999 then q + 1 else 999
def endS (B : Nat → Int32) (s : Nat) (g : zGc) : zGc := if B s = 0 then gSh g s 4 (qn (g.2.1 s 4)) else g
def endN (B : Nat → Int32) : Nat → zGc → zGc
  | 0, g => g
  | s + 1, g => endS B s (endN B s g)
def endM (G : zGf) : zGf := (gSc (endN G.2.1 (nS G.1) G.1) 2 (G.1.1 2 + 1), G.2)
def minute (rule : Int32) (G : zGf) : zGf := endM (kidsN (fun G c => deedBy G.1 rule c) (nC G.1) (begM G))
def minutes (rule : Int32) : Nat → zGf → zGf
  | 0, G => G
  | n + 1, G => minute rule (minutes rule n G)
-- draws
def nextSeed (x : Int32) : Int32 := x * 1103515245 + 12345
def drawR (x : Int32) : Int32 := (x.toUInt32 >>> ((16 : Int32).toUInt32 &&& Int32.toUInt32 31)).toInt32
def draw4 (x : Int32) : Int32 := drawR x - drawR x / 4 * 4
def drawD (g : zGc) (c : Nat) : Int32 := if draw4 (g.1 7) = 0 then deedBy g 0 c else if draw4 (g.1 7) = 1 then (if can g c 1 = true then 1 else 0) else if draw4 (g.1 7) = 2 then (if can g c 2 = true then 2 else 0) else deedBy g 3 c
def drawG (G : zGf) : zGf := (gSc G.1 7 (nextSeed (G.1.1 7)), G.2)
def kidD (c : Nat) (G : zGf) : zGf := perf (drawG G) c (drawD (drawG G).1 c)
def kidsD : Nat → zGf → zGf
  | 0, G => G
  | c + 1, G => kidD c (kidsD c G)
def minD (G : zGf) : zGf := endM (kidsD (nC G.1) (begM G))
def minsD : Nat → zGf → zGf
  | 0, G => G
  | n + 1, G => minD (minsD n G)
-- a night
def half (x : Int32) : Int32 := x / 2
def nightC : Nat → zGc × Int32 → zGc × Int32
  | 0, g => g
  | c + 1, g => (gCh (nightC c g).1 c 1 (half ((nightC c g).1.2.2 c 1)), (nightC c g).2 + ((nightC c g).1.2.2 c 1 - half ((nightC c g).1.2.2 c 1)))
def nightS : Nat → zGc → zGc
  | 0, g => g
  | s + 1, g => gSh (gSh (nightS s g) s 3 0) s 4 0
def nightG (g : zGc) : zGc := gSc (nightS (nS g) (nightC (nC g) (g, 0)).1) 5 999
def nightL (g : zGc) : Int32 := (nightC (nC g) (g, 0)).2
-- what the shops ask, noted
def noteN (g : zGc) : Nat → (Nat → Int32) × Bool → (Nat → Int32) × Bool
  | 0, N => N
  | s + 1, N => (upd (noteN g s N).1 s (askS g s), (noteN g s N).2 || decide (¬ askS g s = (noteN g s N).1 s))
-- one garden laid into another
def layS (a b : zGc) : Nat → zGc
  | 0 => b
  | s + 1 => gSh (gSh (gSh (gSh (gSh (layS a b s) s 0 (a.2.1 s 0)) s 1 (a.2.1 s 1)) s 2 (a.2.1 s 2)) s 3 (a.2.1 s 3)) s 4 (a.2.1 s 4)
def layC (a b : zGc) : Nat → zGc
  | 0 => b
  | c + 1 => gCh (gCh (gCh (gCh (gCh (gCh (layC a b c) c 0 (a.2.2 c 0)) c 1 (a.2.2 c 1)) c 2 (a.2.2 c 2)) c 3 (a.2.2 c 3)) c 4 (a.2.2 c 4)) c 5 (a.2.2 c 5)
def layK (a b : zGc) : zGc := gSc (gSc (gSc (gSc (gSc (gSc (gSc (gSc b 0 (a.1 0)) 1 (a.1 1)) 2 (a.1 2)) 3 (a.1 3)) 4 (a.1 4)) 5 (a.1 5)) 6 (a.1 6)) 7 (a.1 7)
/-- takeAll: a laid into b -/
def layG (a b : zGc) : zGc := layC a (layS a (layK a b) (nS a)) (nC a)
def addSh (g : zGc) (k a p : Int32) : zGc := gSc (gSh (gSh (gSh (gSh (gSh g (nS g) 0 k) (nS g) 1 a) (nS g) 2 p) (nS g) 3 0) (nS g) 4 0) 0 (g.1 0 + 1)
def addCh (g : zGc) (n l : Int32) : zGc := gSc (gCh (gCh (gCh (gCh (gCh (gCh g (nC g) 0 n) (nC g) 1 l) (nC g) 2 0) (nC g) 3 0) (nC g) 4 0) (nC g) 5 (-1)) 1 (g.1 1 + 1)
