/-! shelves, numbers that may be, refusals -/
def inR (x m : Int32) : Bool := !decide (x < 0) && decide (x < m)
def inT (x m : Int32) : Bool := !decide (x < 0) && decide (x ≤ m)
theorem inR_f1 {x m : Int32} (h : x < 0) : inR x m = false := by simp [inR, h]
theorem inR_f2 {x m : Int32} (h : m ≤ x) : inR x m = false := by
  have : ¬ x < m := Int32.not_lt.mpr h
  simp [inR, this]
theorem inR_t {x m : Int32} (h : ¬ x < 0) (h2 : x < m) : inR x m = true := by simp only [inR, decide_eq_true h2, decide_eq_false h]; rfl
theorem inT_f1 {x m : Int32} (h : x < 0) : inT x m = false := by simp [inT, h]
theorem inT_f2 {x m : Int32} (h : m < x) : inT x m = false := by
  have : ¬ x ≤ m := Int32.not_le.mpr h
  simp [inT, this]
theorem inT_t {x m : Int32} (h : ¬ x < 0) (h2 : x ≤ m) : inT x m = true := by simp only [inT, decide_eq_true h2, decide_eq_false h]; rfl
theorem i_rng {x : Int32} {n : Nat} (h : ¬ x < 0) (h2 : x < nI n) (hn : n < 2 ^ 31) : ∃ j, j < n ∧ x = nI j := by
  obtain ⟨j, hj, rfl⟩ := nI_of h
  rw [nI_ltI hj hn] at h2
  exact ⟨j, h2, rfl⟩
theorem inR_of {x : Int32} {n : Nat} (h : inR x (nI n) = true) (hn : n < 2 ^ 31) : ∃ j, j < n ∧ x = nI j := by
  simp only [inR, Bool.and_eq_true, decide_eq_true_eq, Bool.not_eq_true', decide_eq_false_iff_not] at h
  exact i_rng h.1 h.2 hn
theorem inT_of {x : Int32} {n : Nat} (h : inT x (nI n) = true) (hn : n < 2 ^ 31) : ∃ j, j ≤ n ∧ x = nI j := by
  simp only [inT, Bool.and_eq_true, decide_eq_true_eq, Bool.not_eq_true', decide_eq_false_iff_not] at h
  obtain ⟨j, hj, rfl⟩ := nI_of h.1
  have := h.2
  rw [nI_leI hj hn] at this
  exact ⟨j, this, rfl⟩
theorem inR_nI {j n : Nat} (h : j < n) (hn : n < 2 ^ 31) : inR (nI j) (nI n) = true := inR_t (nI_pos (by omega)) (nI_lt h hn)
def hRow (x : Int32) : Bool := !decide (x < 100)
def hShop (x : Int32) : Bool := !decide (x < 0) && !decide (100 ≤ x)
def hPart (i n len : Int32) : Bool := !decide (i < 0) && !decide (0 < lg_cmp (i.toInt64 + n.toInt64) len.toInt64)
def putV (h : Int32) (v : Int64) : Int64 := if h - 100 = 0 then v.toInt32.toInt8.toInt32.toInt64 else if h - 100 = 1 then v.toInt32.toInt16.toInt32.toInt64 else if h - 100 = 2 then v.toInt32.toInt64 else v
def fillN (k : Nat) (f : Nat → Int64) (v : Int64) : Nat → Int64 := fun i => if i < k then v else f i
theorem fillN_0 {f : Nat → Int64} {v : Int64} : fillN 0 f v = f := by funext i; simp [fillN]
theorem fillN_s {k : Nat} {f : Nat → Int64} {v : Int64} : fillN (k + 1) f v = vp_updL (fillN k f v) k v := by
  funext i
  by_cases h : i = k
  · subst h; simp [fillN, vp_updL]
  · have : i < k + 1 ↔ i < k := by omega
    simp [fillN, vp_updL, h, this]
def asI (len : Int32) (f : Nat → Int64) (i : Int32) : Int32 := if inR i len = true then (f i.toNatClampNeg).toInt32 else -1
def abv (k : Int32) : Int32 := zAbove.getD k.toNatClampNeg 0
def ofN : Nat → Int32 → Int32 → Bool
  | 0, _, _ => false
  | n + 1, one, w => if inR one 7 = true then (if one = w then true else ofN n (abv one) w) else false
def saysS (f : Nat → Int32) (w : Int32) : Int32 := if w = 0 then f 2 else if w = 1 then asked f - f 2 else if w = 2 then f 4 else if w = 3 then asked f - f 2 else if w = 4 then asked f else if w = 5 then f 4 else asked f
/-- a refusal: counted, and answered -/
def refK (x : Int32) : Int32 := -x - -x / 10 * 10
def rfu (F : zF) (x : Int32) : zF := if 0 < refK x ∧ refK x < 8 then sM F 0 (refK x).toNatClampNeg (F.2.2.2 0 (refK x).toNatClampNeg + 1) else F
/-- what begins on the stage -/
def begS (F : zF) (b : Int32) : zF := let F1 := if inR (F.2.2.2 3 0) 20 = true then sM F 4 (F.2.2.2 3 0).toNatClampNeg b else F
  sM F1 3 0 (F1.2.2.2 3 0 + 1)
def sTr (h : Int32) : Int32 := if hShop h = true then -2 else if hRow h = true then 0 else -3
def rTr (F : zF) (s : Int32) : Int32 := if inR s 8 = true then sTr (F.2.1 s.toNatClampNeg 0) else -1
def tTr (F : zF) (s n : Int32) : Int32 := if rTr F s = 0 then (if n < 0 then -4 else if F.2.1 s.toNatClampNeg 1 < n then -5 else 0) else rTr F s
