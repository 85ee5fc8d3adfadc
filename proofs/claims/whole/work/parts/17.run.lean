/-! a garden laid into another lives on as itself -/
theorem layS_2 {a b : zGc} : ∀ {n : Nat}, (layS a b n).2.2 = b.2.2
  | 0 => rfl
  | n + 1 => layS_2 (n := n)
theorem layC_2 {a b : zGc} : ∀ {n : Nat}, (layC a b n).2.1 = b.2.1
  | 0 => rfl
  | n + 1 => layC_2 (n := n)
theorem layS_at {a b : zGc} {s k : Nat} (hk : k < 5) : ∀ {n : Nat}, s < n → (layS a b n).2.1 s k = a.2.1 s k
  | n + 1, h => by
    have hk2 : k = 0 ∨ k = 1 ∨ k = 2 ∨ k = 3 ∨ k = 4 := by omega
    by_cases hs : s = n
    · subst hs
      rcases hk2 with rfl | rfl | rfl | rfl | rfl <;> simp [layS, gSh, va_up, upd]
    · have ih := layS_at (a := a) (b := b) (s := s) hk (n := n) (by omega)
      rw [← ih]
      simp only [layS, gSh, va_up_ne _ _ hs]
theorem layC_at {a b : zGc} {c k : Nat} (hk : k < 6) : ∀ {n : Nat}, c < n → (layC a b n).2.2 c k = a.2.2 c k
  | n + 1, h => by
    have hk2 : k = 0 ∨ k = 1 ∨ k = 2 ∨ k = 3 ∨ k = 4 ∨ k = 5 := by omega
    by_cases hs : c = n
    · subst hs
      rcases hk2 with rfl | rfl | rfl | rfl | rfl | rfl <;> simp [layC, gCh, va_up, upd]
    · have ih := layC_at (a := a) (b := b) (c := c) hk (n := n) (by omega)
      rw [← ih]
      simp only [layC, gCh, va_up_ne _ _ hs]
theorem layK_at {a b : zGc} {k : Nat} (hk : k < 8) : (layK a b).1 k = a.1 k := by
  have hk2 : k = 0 ∨ k = 1 ∨ k = 2 ∨ k = 3 ∨ k = 4 ∨ k = 5 ∨ k = 6 ∨ k = 7 := by omega
  rcases hk2 with rfl | rfl | rfl | rfl | rfl | rfl | rfl | rfl <;> rfl
theorem lay_eqv (a b : zGc) : eqv (layG a b) a := by
  refine ⟨fun k hk => ?_, fun s hs k hk => ?_, fun c hc k hk => ?_⟩
  · unfold layG; rw [layC_1, layS_1]; exact layK_at hk
  · unfold layG; rw [layC_2]; exact layS_at hk hs
  · unfold layG; exact layC_at hk hc
/-- n minutes by a rule, of a garden alone -/
def run (rule : Int32) (n : Nat) (g : zGc) : zGc := (minutes rule n (g, fun _ => 0, fun _ => 0)).1
theorem e_run {rule : Int32} {n : Nat} {A : zGf} {g : zGc} (h : eqv A.1 g) (hz : gz g) : eqv (minutes rule n A).1 (run rule n g) := e_minutes (A := A) (B := (g, fun _ => 0, fun _ => 0)) h hz
theorem sk_run {rule : Int32} {n : Nat} {g : zGc} : sk g (run rule n g) := sk_minutes (G := (g, fun _ => 0, fun _ => 0))
theorem run_0 {rule : Int32} {g : zGc} : run rule 0 g = g := rfl
theorem e_run1 {rule : Int32} {n : Nat} {A : zGf} {g : zGc} (h : eqv A.1 (run rule n g)) (hz : gz g) : eqv (minutes rule 1 A).1 (run rule (n + 1) g) := e_minute (A := A) (B := minutes rule n (g, fun _ => 0, fun _ => 0)) h (sk_minutes.z hz)
theorem e_rung {rule : Int32} {n : Nat} {a b : zGc} (h : eqv a b) (hz : gz b) : eqv (run rule n a) (run rule n b) := e_run (A := (a, fun _ => 0, fun _ => 0)) h hz
/-- what a call leaves: an answer, or a refusal that is counted -/
def xpo (F : zF) (k ans : Int32) (P : zF → Prop) : Option Value → zF → Prop := fun v F2 => v = some (.int (if k = 0 then ans else k)) ∧ (k = 0 → P F2) ∧ (¬ k = 0 → F2 = rfu F k)
theorem xpo.ref {F : zF} {k ans c : Int32} {P : zF → Prop} (hk : k = c) (hc : ¬ c = 0) : xpo F k ans P (some (.int c)) (rfu F c) := by
  subst hk
  exact ⟨by rw [if_neg hc], fun h => absurd h hc, fun _ => rfl⟩
theorem xpo.ok {F F2 : zF} {k ans r : Int32} {P : zF → Prop} (hk : k = 0) (hr : r = ans) (hP : P F2) : xpo F k ans P (some (.int r)) F2 := ⟨by rw [if_pos hk, hr], fun _ => hP, fun h => absurd hk h⟩
/-- only the garden in thought is another -/
def thO (F F2 : zF) : Prop := ∃ T, F2 = sG F 1 T
theorem thO.rf (F : zF) : thO F F := ⟨F.1 1, (sG_id F 1).symm⟩
theorem thO.tr {F F2 F3 : zF} (h : thO F F2) (h2 : thO F2 F3) : thO F F3 := by
  obtain ⟨T, rfl⟩ := h
  obtain ⟨T2, rfl⟩ := h2
  exact ⟨T2, sG_sG _ _ _ _⟩
-- refusals, in the order of each call
def okRN (rule n : Int32) : Bool := inR rule 4 && inT n 240
def kRow (s o n : Int32) : Int32 := if inR s 8 = false then -1 else if n < 0 then -4 else if inR o 4 = false then -6 else if 160 < n then -7 else 0
def kSet (t len i : Int32) : Int32 := if ¬ t = 0 then t else if inR i len = false then -5 else 0
def kShow (g : zGc) (s p : Int32) : Int32 := if inR s 8 = false then -1 else if p = -1 then 0 else if inR p (g.1 0) = false then -1 else 0
def kShop (g : zGc) (k a p : Int32) : Int32 := if inR k 7 = false then -1 else if a < 0 then -6 else if 9 < a then -6 else if p < 1 then -6 else if 999 < p then -6 else if g.1 0 < 6 then 0 else -7
def kChild (g : zGc) (n l : Int32) : Int32 := if n < 1 then -6 else if 99 < n then -6 else if l < 0 then -6 else if 9999 < l then -6 else if g.1 1 < 6 then 0 else -7
def kShopOf (g : zGc) (s w : Int32) : Int32 := if inR s (g.1 0) = false then -5 else if inR w 6 = false then -5 else 0
def aShopOf (f : Nat → Int32) (w : Int32) : Int32 := if w = 5 then asked f else f w.toNatClampNeg
def kChildOf (g : zGc) (c w : Int32) : Int32 := if inR c (g.1 1) = false then -5 else if inR w 6 = false then -5 else 0
def aChildOf (f : Nat → Int32) (w : Int32) : Int32 := if w = 5 then f 5 + 1 else f w.toNatClampNeg
def kTell (g : zGc) (c w v : Int32) : Int32 := if inR c (g.1 1) = false then -1 else if w < 1 then -6 else if 3 < w then -6 else if v < 0 then -6 else if (if w = 3 then 99 else 9999) < v then -6 else 0
def kKeeps (g : zGc) (c p : Int32) : Int32 := if inR c (g.1 1) = false then -11 else if p = -1 then 0 else if inR p (g.1 0) = false then -11 else 0
def kAsk (w v : Int32) : Int32 := if w = 0 ∧ inT v 99 = true then 0 else if w = 1 ∧ inT v 9999 = true then 0 else -6
def kMay (g : zGc) (c : Int32) : Int32 := if inR c (g.1 1) = false then -1 else 0
def mayN (g : zGc) (c : Nat) : Nat → Int32
  | 0 => 0
  | d + 1 => if can g c (nI d) = true then mayN g c d ||| ((1 : Int32) <<< (nI d &&& 31)) else mayN g c d
def kBehind (g : zGc) (rule n c w : Int32) : Int32 := if inR c (g.1 1) = false then -1 else if ¬ (w = 1 ∨ w = 2 ∨ w = 4) then -5 else if okRN rule n = false then -6 else 0
def aBehind (g : zGc) (c : Nat) (w : Int32) : Int32 := if w = 1 then g.2.2 c 1 else if w = 2 then g.2.2 c 2 else g.2.2 c 4
def kAsks (g : zGc) (rule n p : Int32) : Int32 := if inR p (g.1 0) = false then -1 else if okRN rule n = false then -6 else 0
def kDeals (rule n w : Int32) : Int32 := if ¬ (w = 0 ∨ w = 1) then -5 else if okRN rule n = false then -6 else 0
def aDeals (g g2 : zGc) (w : Int32) : Int32 := if w = 0 then g2.1 6 - g.1 6 else g2.1 3
def kRuns (g : zGc) (rule n p : Int32) : Int32 := if inR p (g.1 0) = false then -11 else if okRN rule n = false then -16 else 0
def cmpI (x y : Int32) : Int32 := if x < y then -1 else if x = y then 0 else 1
def kSettles (rule w : Int32) : Int32 := if ¬ (w = 0 ∨ w = 1) then -15 else if inR rule 4 = false then -16 else 0
def kPicked (g : zGc) (c p : Int32) : Int32 := if inR c (g.1 1) = false then -1 else if inR p (g.1 0) = false then -1 else 0
def aPicked (a n : Int32) : Int32 := if n < 1 then 0 else (a + n - 1) / n
def kCheap (g : zGc) : Int32 := if g.1 0 = 0 then -5 else 0
def cheapS (g : zGc) : Nat → Nat
  | 0 => 0
  | s + 1 => if askS g s < askS g (cheapS g s) then s else cheapS g s
def kTime (n : Int32) : Int32 := if inT n 240 = false then -6 else 0
def fsum (g : zGc) : Nat → Int32
  | 0 => 0
  | c + 1 => fsum g c + g.2.2 c 3
def aMoney (x y z : Int32) : Int32 := if y ≤ x ∧ z ≤ x then 0 else if z ≤ y then 1 else 2
def kInked (n : Int32) : Int32 := if inT n 60 = false then -6 else 0
def inkD (g : zGc) (n v : Nat) : Int32 := (run 2 n (gSc g 4 (nI v))).1 6 - g.1 6
def inkB (g : zGc) (n : Nat) : Nat → Int32 × Int32
  | 0 => (0, -1)
  | v + 1 => if (inkB g n v).2 < inkD g n v then (nI v, inkD g n v) else inkB g n v
def kBored (g : zGc) (rule n : Int32) : Int32 := if g.1 1 = 0 then -5 else if okRN rule n = false then -6 else 0
def boredN (g : zGc) : Nat → Nat
  | 0 => 0
  | c + 1 => if g.2.2 c 4 < g.2.2 (boredN g c) 4 then c else boredN g c
def mxI (x y : Int32) : Int32 := if x < y then y else x
def bankN (g : zGc) : Nat → Int32
  | 0 => 0
  | c + 1 => mxI (bankN g c) (g.2.2 c 1)
def kRN (rule n : Int32) : Int32 := if okRN rule n = false then -6 else 0
def kTrust (g : zGc) (c p : Int32) : Int32 := if inR c (g.1 1) = false then -11 else if inR p (g.1 0) = false then -11 else 0
def kHeap (rule v : Int32) : Int32 := if inR rule 4 = false then -16 else if v < 0 then -16 else 0
def heapN (rule v : Int32) (g : zGc) : Nat → Option Nat
  | 0 => none
  | t + 1 => match heapN rule v g t with
    | some q => some q
    | none => if v ≤ (run rule t g).1 3 then some t else none
def anyN (g g2 : zGc) : Nat → Bool
  | 0 => false
  | s + 1 => anyN g g2 s || decide (¬ askS g2 s = askS g s)
def setlN (rule : Int32) (g : zGc) : Nat → Int32
  | 0 => 0
  | t + 1 => if anyN (run rule t g) (run rule (t + 1) g) (nS g) = true then nI (t + 1) else setlN rule g t
def stopN (rule : Int32) (g : zGc) : Nat → Int32
  | 0 => 0
  | t + 1 => if (run rule (t + 1) g).1 6 = (run rule t g).1 6 then stopN rule g t else nI (t + 1)
def aStop (x : Int32) : Int32 := if x < 240 then x else -1
def kDoes (g : zGc) (c d : Int32) : Int32 := if inR c (g.1 1) = false then -1 else if can g c.toNatClampNeg d = false then -6 else 0
def kRule (rule : Int32) : Int32 := if inR rule 4 = false then -6 else 0
def kAft (n : Int32) : Int32 := if n < 1 then -6 else if 240 < n then -6 else 0
