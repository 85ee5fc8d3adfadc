/-! THE CLASS: gardens 0 truth, 1 thought, 2 kept, 3 the reader's draft -/
/-- a garden: numbers (shops, children, clock, till, ink, tree, deals, seed); of a shop kind, a, price, sold, quiet; of a child nimble, leaves, stamps, feathers, cakes, shopKept -/
abbrev zGc : Type := (Nat → Int32) × (Nat → Nat → Int32) × (Nat → Nat → Int32)
def gSc (g : zGc) (k : Nat) (v : Int32) : zGc := (upd g.1 k v, g.2.1, g.2.2)
def gSh (g : zGc) (s k : Nat) (v : Int32) : zGc := (g.1, va_up g.2.1 s (upd (g.2.1 s) k v), g.2.2)
def gCh (g : zGc) (c k : Nat) (v : Int32) : zGc := (g.1, g.2.1, va_up g.2.2 c (upd (g.2.2 c) k v))
/-- a garden of the class: its shops are busy (1) or not, and noted -/
abbrev zGf : Type := zGc × (Nat → Int32) × (Nat → Int32)
def fSc (G : zGf) (k : Nat) (v : Int32) : zGf := (gSc G.1 k v, G.2)
def fSh (G : zGf) (s k : Nat) (v : Int32) : zGf := (gSh G.1 s k v, G.2)
def fCh (G : zGf) (c k : Nat) (v : Int32) : zGf := (gCh G.1 c k v, G.2)
def fBz (G : zGf) (s : Nat) (v : Int32) : zGf := (G.1, upd G.2.1 s v, G.2.2)
def fNt (G : zGf) (s : Nat) (v : Int32) : zGf := (G.1, G.2.1, upd G.2.2 s v)
/-- the class: gardens; of a shelf held, length; elements; refusals 0, the reader's numbers 1, its letters 2, the stage's numbers 3, what began 4, hasKept 5 -/
abbrev zF : Type := (Nat → zGf) × (Nat → Nat → Int32) × (Nat → Nat → Int64) × (Nat → Nat → Int32)
def sG (F : zF) (gi : Nat) (G : zGf) : zF := (va_up F.1 gi G, F.2)
def sV (F : zF) (i k : Nat) (v : Int32) : zF := (F.1, va_up F.2.1 i (upd (F.2.1 i) k v), F.2.2)
def sE (F : zF) (i : Nat) (f : Nat → Int64) : zF := (F.1, F.2.1, va_up F.2.2.1 i f, F.2.2.2)
def sM (F : zF) (i k : Nat) (v : Int32) : zF := (F.1, F.2.1, F.2.2.1, va_up F.2.2.2 i (upd (F.2.2.2 i) k v))
def xga (x gi : Nat) : Nat := if gi = 3 then x + 49 else x + 3 + 15 * gi
def xadr (x : Nat) : zKey → Nat := fun k => match k with
  | (0, _, _) => x
  | (1, _, _) => x + 1
  | (2, _, _) => x + 2
  | (3, i, _) => xga x i
  | (4, i, _) => xga x i + 1
  | (5, i, _) => xga x i + 2
  | (6, i, j) => xga x i + 3 + j
  | (7, i, j) => xga x i + 9 + j
  | (8, _, _) => x + 48
  | (9, _, _) => x + 64
  | (10, _, _) => x + 65
  | (11, _, _) => x + 66
  | (12, i, _) => x + 67 + 2 * i
  | (_, i, _) => x + 68 + 2 * i
def xok : zKey → Prop := fun k => match k with
  | (3, i, j) => i < 4 ∧ j = 0
  | (4, i, j) => i < 4 ∧ j = 0
  | (5, i, j) => i < 4 ∧ j = 0
  | (6, i, j) => i < 4 ∧ j < 6
  | (7, i, j) => i < 4 ∧ j < 6
  | (12, i, j) => i < 8 ∧ j = 0
  | (13, i, j) => i < 8 ∧ j = 0
  | (f, i, j) => f < 12 ∧ i = 0 ∧ j = 0
def xkb (f i j : Nat) : Bool := match f with
  | 3 => decide (i < 4) && decide (j = 0)
  | 4 => decide (i < 4) && decide (j = 0)
  | 5 => decide (i < 4) && decide (j = 0)
  | 6 => decide (i < 4) && decide (j < 6)
  | 7 => decide (i < 4) && decide (j < 6)
  | 12 => decide (i < 8) && decide (j = 0)
  | 13 => decide (i < 8) && decide (j = 0)
  | f => decide (f < 12) && decide (i = 0) && decide (j = 0)
def xgk (gi r : Nat) : zKey := if r = 0 then (3, gi, 0) else if r = 1 then (4, gi, 0) else if r = 2 then (5, gi, 0) else if r < 9 then (6, gi, r - 3) else (7, gi, r - 9)
def xkey (n : Nat) : zKey := if n = 0 then (0, 0, 0) else if n = 1 then (1, 0, 0) else if n = 2 then (2, 0, 0) else if n < 48 then xgk ((n - 3) / 15) ((n - 3) % 15) else if n = 48 then (8, 0, 0) else if n < 64 then xgk 3 (n - 49) else if n = 64 then (9, 0, 0) else if n = 65 then (10, 0, 0) else if n = 66 then (11, 0, 0) else if (n - 67) % 2 = 0 then (12, (n - 67) / 2, 0) else (13, (n - 67) / 2, 0)
theorem xkey_all : ((List.range 14).all fun f => (List.range 8).all fun i => (List.range 6).all fun j => !xkb f i j || (decide ((xkey (xadr 0 (f, i, j))).1 = f) && (decide ((xkey (xadr 0 (f, i, j))).2.1 = i) && (decide ((xkey (xadr 0 (f, i, j))).2.2 = j) && decide (xadr 0 (f, i, j) < 83))))) = true := by decide +kernel
theorem xkey_of {f i j : Nat} (hf : f < 14) (hi : i < 8) (hj : j < 6) (h : xkb f i j = true) : xkey (xadr 0 (f, i, j)) = (f, i, j) ∧ xadr 0 (f, i, j) < 83 := by
  have h1 := List.all_eq_true.mp (List.all_eq_true.mp (List.all_eq_true.mp xkey_all f (List.mem_range.mpr hf)) i (List.mem_range.mpr hi)) j (List.mem_range.mpr hj)
  rw [h] at h1
  simp only [Bool.not_true, Bool.false_or, Bool.and_eq_true, decide_eq_true_eq] at h1
  exact ⟨Prod.ext h1.1 (Prod.ext h1.2.1 h1.2.2.1), h1.2.2.2⟩
theorem xok_kb {f i j : Nat} (h : xok (f, i, j)) : f < 14 ∧ i < 8 ∧ j < 6 ∧ xkb f i j = true := by
  unfold xok at h
  split at h <;> rename_i he <;> cases he
  all_goals first
    | (obtain ⟨h1, h2, h3⟩ := h
       subst h2; subst h3
       refine ⟨by omega, by omega, by omega, ?_⟩
       have hf : f = 0 ∨ f = 1 ∨ f = 2 ∨ f = 3 ∨ f = 4 ∨ f = 5 ∨ f = 6 ∨ f = 7 ∨ f = 8 ∨ f = 9 ∨ f = 10 ∨ f = 11 := by omega
       rcases hf with rfl | rfl | rfl | rfl | rfl | rfl | rfl | rfl | rfl | rfl | rfl | rfl <;> rfl)
    | (obtain ⟨h1, h2⟩ := h; refine ⟨by omega, by omega, by omega, ?_⟩; simp only [xkb, decide_eq_true h1, decide_eq_true h2, Bool.and_self])
theorem xadr_add (x : Nat) (k : zKey) : xadr x k = x + xadr 0 k := by
  unfold xadr
  split <;> (try simp only [xga]) <;> (repeat' split) <;> omega
theorem xinj {x : Nat} {k k' : zKey} (h : xok k) (h' : xok k') (e : xadr x k = xadr x k') : k = k' := by
  obtain ⟨f, i, j⟩ := k
  obtain ⟨f', i', j'⟩ := k'
  obtain ⟨h1, h2, h3, h4⟩ := xok_kb h
  obtain ⟨g1, g2, g3, g4⟩ := xok_kb h'
  rw [xadr_add x, xadr_add x (f', i', j')] at e
  have e2 : xadr 0 (f, i, j) = xadr 0 (f', i', j') := by omega
  rw [← (xkey_of h1 h2 h3 h4).1, ← (xkey_of g1 g2 g3 g4).1, e2]
theorem xin {x : Nat} {k : zKey} (h : xok k) : x ≤ xadr x k ∧ xadr x k < x + 83 := by
  obtain ⟨f, i, j⟩ := k
  obtain ⟨h1, h2, h3, h4⟩ := xok_kb h
  have := (xkey_of h1 h2 h3 h4).2
  rw [xadr_add x]
  omega
def xcell (E : zE) (F : zF) : zKey → va_E := fun k => match k with
  | (0, _, _) => .inr (6, [.ref (xadr E.2.2.1 (1, 0, 0)), .ref (xadr E.2.2.1 (2, 0, 0)), .ref (xadr E.2.2.1 (3, 0, 0)), .ref (xadr E.2.2.1 (3, 1, 0)), .ref (xadr E.2.2.1 (3, 2, 0)), .ref (xadr E.2.2.1 (8, 0, 0)), .ref (xadr E.2.2.1 (10, 0, 0)), .int (F.2.2.2 5 0)])
  | (1, _, _) => .inl (E.2.1 4, (8, .inr (.inr (.inr (.inr (fun i => some (xadr E.2.2.1 (12, i, 0))))))))
  | (2, _, _) => .inl (E.2.1 0, (8, .inl (F.2.2.2 0)))
  | (3, i, _) => .inr (1, [.ref (xadr E.2.2.1 (4, i, 0)), .ref (xadr E.2.2.1 (5, i, 0)), .int ((F.1 i).1.1 0), .int ((F.1 i).1.1 1), .int ((F.1 i).1.1 2), .int ((F.1 i).1.1 3), .int ((F.1 i).1.1 4), .int ((F.1 i).1.1 5), .int ((F.1 i).1.1 6), .int ((F.1 i).1.1 7)])
  | (4, i, _) => .inl (E.2.1 2, (6, .inr (.inr (.inr (.inr (fun j => some (xadr E.2.2.1 (6, i, j))))))))
  | (5, i, _) => .inl (E.2.1 3, (6, .inr (.inr (.inr (.inr (fun j => some (xadr E.2.2.1 (7, i, j))))))))
  | (6, i, j) => .inr (4, [.int ((F.1 i).1.2.1 j 0), .int ((F.1 i).1.2.1 j 1), .int ((F.1 i).1.2.1 j 2), .int ((F.1 i).1.2.1 j 3), .int ((F.1 i).1.2.1 j 4), .int ((F.1 i).2.1 j), .int ((F.1 i).2.2 j)])
  | (7, i, j) => .inr (0, [.int ((F.1 i).1.2.2 j 0), .int ((F.1 i).1.2.2 j 1), .int ((F.1 i).1.2.2 j 2), .int ((F.1 i).1.2.2 j 3), .int ((F.1 i).1.2.2 j 4), .int ((F.1 i).1.2.2 j 5)])
  | (8, _, _) => .inr (2, [.ref (xadr E.2.2.1 (3, 3, 0)), .ref (xadr E.2.2.1 (9, 0, 0)), .int (F.2.2.2 1 0), .int (F.2.2.2 1 1), .int (F.2.2.2 1 2), .int (F.2.2.2 1 3)])
  | (9, _, _) => .inl (E.2.1 0, (160, .inl (F.2.2.2 2)))
  | (10, _, _) => .inr (5, [.ref (xadr E.2.2.1 (11, 0, 0)), .int (F.2.2.2 3 0), .int (F.2.2.2 3 1), .int (F.2.2.2 3 2), .int (F.2.2.2 3 3)])
  | (11, _, _) => .inl (E.2.1 0, (20, .inl (F.2.2.2 4)))
  | (12, i, _) => .inr (3, [.ref (xadr E.2.2.1 (13, i, 0)), .int (F.2.1 i 0), .int (F.2.1 i 1)])
  | (_, i, _) => .inl (E.2.1 1, (160, .inr (.inl (F.2.2.1 i))))
-- what lies still: the class's static arrays, the words of the reader
def zAbove : List Int32 := [-1, 0, 0, 1, 0, 2, 4]
def zBodies : List Int32 := [10, 11, 12, 20, 0, 0, 0, 30, 0, 0, 40, 0, 51, 0, 50, 0, 0, 60, 70, 71, 0]
def zTx : List String := ["shop", "child", "feathers", "keeps", "ink", "tree", "do", "night"]
def zIx : List Nat := [92, 113, 121, 131, 136, 140, 144, 154]
def zLen : List Nat := [4, 5, 8, 5, 3, 4, 2, 5]
def zByt : List (List Int32) := [[115, 104, 111, 112], [99, 104, 105, 108, 100], [102, 101, 97, 116, 104, 101, 114, 115], [107, 101, 101, 112, 115], [105, 110, 107], [116, 114, 101, 101], [100, 111], [110, 105, 103, 104, 116]]
def xB (E : zE) : Nat → Prop := fun q => E.2.2.1 ≤ q
def xev (E : zE) (U : State) (H : Heap) : Prop :=
  (va_Z RX6 "ABOVE" "[I" (.ref (E.2.2.2 0)) (xB E) U H ∧ va_T .int (E.2.2.2 0) 7 (fun j => .int (zAbove.getD j 0)) (xB E) U H) ∧ (va_Z RX6 "BODIES" "[I" (.ref (E.2.2.2 1)) (xB E) U H ∧ va_T .int (E.2.2.2 1) 21 (fun j => .int (zBodies.getD j 0)) (xB E) U H) ∧
  vk_S 8 zLen zByt (fun i => E.2.2.2 (10 + i)) (fun i => E.2.2.2 (20 + i)) (xB E) U H ∧ va_Z "java/lang/String" "COMPACT_STRINGS" "Z" (.int 1) (xB E) U H ∧ va_Zq "jdk/internal/util/Preconditions" "SIOOBE_FORMATTER" "Ljava/util/function/BiFunction;" (xB E) U H
def xeu (E : zE) (U : State) : Prop := va_Nw (.methodLinkNest RX4 27 yX6_isKind RX6) U ∧ va_Nw (.fieldLinkNest RX4 31 RX6 "ABOVE" "[I" RX6) U ∧ ∀ i, i < 8 → vk_R RX2 (zIx.getD i 0) (zTx.getD i "") (E.2.2.2 (10 + i)) U
def xA (E : zE) : Nat → Prop := fun q => E.2.2.1 ≤ q ∧ q < E.2.2.1 + 83
theorem xsy (E : zE) : zSy (xadr E.2.2.1) xok (xeu E) (xev E) (xA E) := by
  refine ⟨fun k k' h h' e => xinj h h' e, fun k h => xin h, ?_, ?_, ?_, ?_⟩
  · rintro u U H hv ⟨⟨a1, a2⟩, ⟨a3, a4⟩, a5, a6, a7⟩
    exact ⟨⟨a1.moved hv, a2.moved hv⟩, ⟨a3.moved hv, a4.moved hv⟩, a5.moved hv, a6.moved hv, a7.moved hv⟩
  · rintro U H H1 ⟨⟨a1, a2⟩, ⟨a3, a4⟩, a5, a6, a7⟩ hz hq
    have hq2 : ∀ a : Nat, a < H.size → ¬ xB E a → H1[a]? = H[a]? := fun a ha hB => hq a ha (fun z => hB z.1)
    exact ⟨⟨a1.kept hq2, a2.kept hq2⟩, ⟨a3.kept hq2, a4.kept hq2⟩, a5.kept hq2, a6.kept hq2, a7.kept hq2⟩
  · rintro s U hW ⟨a1, a2, a3⟩
    exact ⟨va_Nw.warmM hW a1, va_Nw.warmF hW a2, fun i hi => vk_R.warm hW (a3 i hi)⟩
  · rintro u U hv ⟨a1, a2, a3⟩
    exact ⟨va_Nw.same rfl hv.symm a1, va_Nw.same rfl hv.symm a2, fun i hi => vk_R.same hv (a3 i hi)⟩
abbrev XP (E : zE) (F : zF) (s : State) : Heap → Prop := zPP E (xadr E.2.2.1) (xcell E) xok (xev E) F s
abbrev XC (l : Launch) (E : zE) (K : zK) (cc : ByteArray) (own : String) (R : Room) (s : State) (mL : Nat) : Prop := zC (cell := xcell E) l E (xadr E.2.2.1) xok (xeu E) (xev E) (xA E) K cc own R s mL
abbrev XR (l : Launch) (E : zE) (K : zK) (cc : ByteArray) (own : String) (d : Nat) (s : State) (mL : Nat) (ret : Option FieldType) (post : Option Value → zF → Prop) : Prop := zR (cell := xcell E) l E (xadr E.2.2.1) xok (xeu E) (xev E) (xA E) K cc own d s mL ret post
abbrev XM (l : Launch) (E : zE) (y : MethodName) (cc : ByteArray) (mL : Nat) (ret : Option FieldType) (d : Nat) (as : List Value) (F : zF) (post : Option Value → zF → Prop) : Prop := zMet l E (xadr E.2.2.1) (xcell E) xok (xeu E) (xev E) (xA E) y cc mL ret d as F post
theorem XM.mk {l : Launch} {E : zE} {y : MethodName} {cc : ByteArray} {mL : Nat} {ret : Option FieldType} {d : Nat} {as : List Value} {F : zF} {post : Option Value → zF → Prop} (hy : plainName y.cls = true) (hl : (lg_sl as).length ≤ mL) (body : ∀ (K : zK) (s : State), XR l E K cc y.cls d s mL ret post → Z K (XP E F s) 0 (lv_args 0 as) []) : XM l E y cc mL ret d as F post := zMet.mk (xsy E) hy hl body
-- states: what a setter leaves
theorem upd_self {f : Nat → Int32} {k : Nat} : upd f k (f k) = f := by funext j; unfold upd; split <;> simp_all
theorem upd_upd {f : Nat → Int32} {k : Nat} {v w : Int32} : upd (upd f k v) k w = upd f k w := by funext j; unfold upd; split <;> simp_all
theorem va_up_id {α : Type} {f : Nat → α} {k : Nat} : va_up f k (f k) = f := by funext j; unfold va_up; split <;> simp_all
theorem va_up_up {α : Type} {f : Nat → α} {k : Nat} {v w : α} : va_up (va_up f k v) k w = va_up f k w := by funext j; unfold va_up; split <;> simp_all
theorem sG_id (F : zF) (gi : Nat) : sG F gi (F.1 gi) = F := by unfold sG; rw [va_up_id]
theorem sG_at (F : zF) (gi : Nat) (G : zGf) : (sG F gi G).1 gi = G := va_up_self _ _ _
theorem sG_ne (F : zF) {gi gj : Nat} (G : zGf) (h : gj ≠ gi) : (sG F gi G).1 gj = F.1 gj := va_up_ne _ _ h
theorem sG_sG (F : zF) (gi : Nat) (G G' : zGf) : sG (sG F gi G) gi G' = sG F gi G' := by unfold sG; rw [va_up_up]
section XROWS
variable {l : Launch} {E : zE} {K : zK} {cc : ByteArray} {own : String} {R : Room} {s : State} {mL : Nat} {F : zF} {pc : Nat} {L : List (Nat × Value)} {st : List Value}

theorem xo_fSc {gi k : Nat} {v : Int32} : ∀ q, xok q → q ≠ (3, gi, 0) → xcell E (sG F gi (fSc (F.1 gi) k v)) q = xcell E F q := by
  rintro ⟨f, i, j⟩ hok hne
  by_cases hi : i = gi
  · subst hi
    unfold xcell
    split <;> rename_i he <;> cases he <;> first
      | rfl
      | (rw [sG_at]; first | rfl | (refine absurd ?_ hne; rw [hok.2]; done) | (have hj : j ≠ s0 := fun e => hne (by rw [e]); simp only [fSh, gSh, fBz, fNt, fCh, gCh, upd, va_up, if_neg hj]))
  · unfold xcell
    split <;> rename_i he <;> cases he <;> first
      | rfl
      | (rw [sG_ne _ _ hi])
theorem xo_fSh {gi s0 k : Nat} {v : Int32} : ∀ q, xok q → q ≠ (6, gi, s0) → xcell E (sG F gi (fSh (F.1 gi) s0 k v)) q = xcell E F q := by
  rintro ⟨f, i, j⟩ hok hne
  by_cases hi : i = gi
  · subst hi
    unfold xcell
    split <;> rename_i he <;> cases he <;> first
      | rfl
      | (rw [sG_at]; first | rfl | (refine absurd ?_ hne; rw [hok.2]; done) | (have hj : j ≠ s0 := fun e => hne (by rw [e]); simp only [fSh, gSh, fBz, fNt, fCh, gCh, upd, va_up, if_neg hj]))
  · unfold xcell
    split <;> rename_i he <;> cases he <;> first
      | rfl
      | (rw [sG_ne _ _ hi])
theorem xo_fBz {gi s0 : Nat} {v : Int32} : ∀ q, xok q → q ≠ (6, gi, s0) → xcell E (sG F gi (fBz (F.1 gi) s0 v)) q = xcell E F q := by
  rintro ⟨f, i, j⟩ hok hne
  by_cases hi : i = gi
  · subst hi
    unfold xcell
    split <;> rename_i he <;> cases he <;> first
      | rfl
      | (rw [sG_at]; first | rfl | (refine absurd ?_ hne; rw [hok.2]; done) | (have hj : j ≠ s0 := fun e => hne (by rw [e]); simp only [fSh, gSh, fBz, fNt, fCh, gCh, upd, va_up, if_neg hj]))
  · unfold xcell
    split <;> rename_i he <;> cases he <;> first
      | rfl
      | (rw [sG_ne _ _ hi])
theorem xo_fNt {gi s0 : Nat} {v : Int32} : ∀ q, xok q → q ≠ (6, gi, s0) → xcell E (sG F gi (fNt (F.1 gi) s0 v)) q = xcell E F q := by
  rintro ⟨f, i, j⟩ hok hne
  by_cases hi : i = gi
  · subst hi
    unfold xcell
    split <;> rename_i he <;> cases he <;> first
      | rfl
      | (rw [sG_at]; first | rfl | (refine absurd ?_ hne; rw [hok.2]; done) | (have hj : j ≠ s0 := fun e => hne (by rw [e]); simp only [fSh, gSh, fBz, fNt, fCh, gCh, upd, va_up, if_neg hj]))
  · unfold xcell
    split <;> rename_i he <;> cases he <;> first
      | rfl
      | (rw [sG_ne _ _ hi])
theorem xo_fCh {gi s0 k : Nat} {v : Int32} : ∀ q, xok q → q ≠ (7, gi, s0) → xcell E (sG F gi (fCh (F.1 gi) s0 k v)) q = xcell E F q := by
  rintro ⟨f, i, j⟩ hok hne
  by_cases hi : i = gi
  · subst hi
    unfold xcell
    split <;> rename_i he <;> cases he <;> first
      | rfl
      | (rw [sG_at]; first | rfl | (refine absurd ?_ hne; rw [hok.2]; done) | (have hj : j ≠ s0 := fun e => hne (by rw [e]); simp only [fSh, gSh, fBz, fNt, fCh, gCh, upd, va_up, if_neg hj]))
  · unfold xcell
    split <;> rename_i he <;> cases he <;> first
      | rfl
      | (rw [sG_ne _ _ hi])
theorem xo_V {i0 k : Nat} {v : Int32} : ∀ q, xok q → q ≠ (12, i0, 0) → xcell E (sV F i0 k v) q = xcell E F q := by
  rintro ⟨f, i, j⟩ hok hne
  unfold xcell
  split <;> rename_i he <;> cases he <;> first
    | rfl
    | (have hi : i ≠ i0 := fun e => hne (by rw [e, hok.2]); simp only [sV, va_up, if_neg hi])
theorem xo_E {i0 : Nat} {f0 : Nat → Int64} : ∀ q, xok q → q ≠ (13, i0, 0) → xcell E (sE F i0 f0) q = xcell E F q := by
  rintro ⟨f, i, j⟩ hok hne
  by_cases hf : f = 13
  · subst hf
    have hi : i ≠ i0 := fun e => hne (by rw [e, hok.2])
    show (Sum.inl : _ → va_E) _ = (Sum.inl : _ → va_E) _
    simp only [sE, va_up, if_neg hi]
  · have hlt := (xok_kb hok).1
    have hf2 : f = 0 ∨ f = 1 ∨ f = 2 ∨ f = 3 ∨ f = 4 ∨ f = 5 ∨ f = 6 ∨ f = 7 ∨ f = 8 ∨ f = 9 ∨ f = 10 ∨ f = 11 ∨ f = 12 := by omega
    rcases hf2 with rfl | rfl | rfl | rfl | rfl | rfl | rfl | rfl | rfl | rfl | rfl | rfl | rfl <;> rfl
theorem xo_M0 {k : Nat} {v : Int32} : ∀ q, xok q → q ≠ (2, 0, 0) → xcell E (sM F 0 k v) q = xcell E F q := by
  rintro ⟨f, i, j⟩ hok hne
  unfold xcell
  split <;> rename_i he <;> cases he <;> first
    | rfl
    | (exfalso; simp only [xok] at hok; first | exact hne (by rw [hok.2.1, hok.2.2]) | omega)
theorem xo_M1 {k : Nat} {v : Int32} : ∀ q, xok q → q ≠ (8, 0, 0) → xcell E (sM F 1 k v) q = xcell E F q := by
  rintro ⟨f, i, j⟩ hok hne
  unfold xcell
  split <;> rename_i he <;> cases he <;> first
    | rfl
    | (exfalso; simp only [xok] at hok; first | exact hne (by rw [hok.2.1, hok.2.2]) | omega)
theorem xo_M2 {k : Nat} {v : Int32} : ∀ q, xok q → q ≠ (9, 0, 0) → xcell E (sM F 2 k v) q = xcell E F q := by
  rintro ⟨f, i, j⟩ hok hne
  unfold xcell
  split <;> rename_i he <;> cases he <;> first
    | rfl
    | (exfalso; simp only [xok] at hok; first | exact hne (by rw [hok.2.1, hok.2.2]) | omega)
theorem xo_M3 {k : Nat} {v : Int32} : ∀ q, xok q → q ≠ (10, 0, 0) → xcell E (sM F 3 k v) q = xcell E F q := by
  rintro ⟨f, i, j⟩ hok hne
  unfold xcell
  split <;> rename_i he <;> cases he <;> first
    | rfl
    | (exfalso; simp only [xok] at hok; first | exact hne (by rw [hok.2.1, hok.2.2]) | omega)
theorem xo_M4 {k : Nat} {v : Int32} : ∀ q, xok q → q ≠ (11, 0, 0) → xcell E (sM F 4 k v) q = xcell E F q := by
  rintro ⟨f, i, j⟩ hok hne
  unfold xcell
  split <;> rename_i he <;> cases he <;> first
    | rfl
    | (exfalso; simp only [xok] at hok; first | exact hne (by rw [hok.2.1, hok.2.2]) | omega)
theorem xo_M5 {k : Nat} {v : Int32} : ∀ q, xok q → q ≠ (0, 0, 0) → xcell E (sM F 5 k v) q = xcell E F q := by
  rintro ⟨f, i, j⟩ hok hne
  unfold xcell
  split <;> rename_i he <;> cases he <;> first
    | rfl
    | (exfalso; simp only [xok] at hok; first | exact hne (by rw [hok.2.1, hok.2.2]) | omega)
theorem xg_3 (C : XC l E K cc own R s mL) {gi : Nat} (hg : gi < 4) {k i : Nat} (hk : k < 8) (hlink : Cond.fieldLink own i (TX1 (k + 2)).1 (TX1 (k + 2)).2.1 (TX1 (k + 2)).2.2.1 ∈ zTB) (hd : decode cc pc = .ok (.getfield i, 3)) (kk : Z K (XP E F s) (pc + 3) L (.int ((F.1 gi).1.1 k) :: st)) : Z K (XP E F s) pc L (.ref (xadr E.2.2.1 (3, gi, 0)) :: st) := by
  refine z_getf (key := (3, gi, 0)) (N := 10) (k := k + 2) C ⟨hg, rfl⟩ rfl wi_X1 rfl (by omega) hlink ?_ hd kk
  have hk2 : k = 0 ∨ k = 1 ∨ k = 2 ∨ k = 3 ∨ k = 4 ∨ k = 5 ∨ k = 6 ∨ k = 7 := by omega
  rcases hk2 with rfl | rfl | rfl | rfl | rfl | rfl | rfl | rfl <;> rfl
theorem xg_6 (C : XC l E K cc own R s mL) {gi j : Nat} (hg : gi < 4) (hj : j < 6) {k i : Nat} (hk : k < 5) (hlink : Cond.fieldLink own i (TX4 (k + 0)).1 (TX4 (k + 0)).2.1 (TX4 (k + 0)).2.2.1 ∈ zTB) (hd : decode cc pc = .ok (.getfield i, 3)) (kk : Z K (XP E F s) (pc + 3) L (.int ((F.1 gi).1.2.1 j k) :: st)) : Z K (XP E F s) pc L (.ref (xadr E.2.2.1 (6, gi, j)) :: st) := by
  refine z_getf (key := (6, gi, j)) (N := 7) (k := k + 0) C ⟨hg, hj⟩ rfl wi_X4 rfl (by omega) hlink ?_ hd kk
  have hk2 : k = 0 ∨ k = 1 ∨ k = 2 ∨ k = 3 ∨ k = 4 := by omega
  rcases hk2 with rfl | rfl | rfl | rfl | rfl <;> rfl
theorem xg_7 (C : XC l E K cc own R s mL) {gi j : Nat} (hg : gi < 4) (hj : j < 6) {k i : Nat} (hk : k < 6) (hlink : Cond.fieldLink own i (TX0 (k + 0)).1 (TX0 (k + 0)).2.1 (TX0 (k + 0)).2.2.1 ∈ zTB) (hd : decode cc pc = .ok (.getfield i, 3)) (kk : Z K (XP E F s) (pc + 3) L (.int ((F.1 gi).1.2.2 j k) :: st)) : Z K (XP E F s) pc L (.ref (xadr E.2.2.1 (7, gi, j)) :: st) := by
  refine z_getf (key := (7, gi, j)) (N := 6) (k := k + 0) C ⟨hg, hj⟩ rfl wi_X0 rfl (by omega) hlink ?_ hd kk
  have hk2 : k = 0 ∨ k = 1 ∨ k = 2 ∨ k = 3 ∨ k = 4 ∨ k = 5 := by omega
  rcases hk2 with rfl | rfl | rfl | rfl | rfl | rfl <;> rfl
theorem xg_12 (C : XC l E K cc own R s mL) {j : Nat} (hj : j < 8) {k i : Nat} (hk : k < 2) (hlink : Cond.fieldLink own i (TX3 (k + 1)).1 (TX3 (k + 1)).2.1 (TX3 (k + 1)).2.2.1 ∈ zTB) (hd : decode cc pc = .ok (.getfield i, 3)) (kk : Z K (XP E F s) (pc + 3) L (.int (F.2.1 j k) :: st)) : Z K (XP E F s) pc L (.ref (xadr E.2.2.1 (12, j, 0)) :: st) := by
  refine z_getf (key := (12, j, 0)) (N := 3) (k := k + 1) C ⟨hj, rfl⟩ rfl wi_X3 rfl (by omega) hlink ?_ hd kk
  have hk2 : k = 0 ∨ k = 1 := by omega
  rcases hk2 with rfl | rfl <;> rfl
theorem xg_8 (C : XC l E K cc own R s mL)  {k i : Nat} (hk : k < 4) (hlink : Cond.fieldLink own i (TX2 (k + 2)).1 (TX2 (k + 2)).2.1 (TX2 (k + 2)).2.2.1 ∈ zTB) (hd : decode cc pc = .ok (.getfield i, 3)) (kk : Z K (XP E F s) (pc + 3) L (.int (F.2.2.2 1 k) :: st)) : Z K (XP E F s) pc L (.ref (xadr E.2.2.1 (8, 0, 0)) :: st) := by
  refine z_getf (key := (8, 0, 0)) (N := 6) (k := k + 2) C ⟨by decide, rfl, rfl⟩ rfl wi_X2 rfl (by omega) hlink ?_ hd kk
  have hk2 : k = 0 ∨ k = 1 ∨ k = 2 ∨ k = 3 := by omega
  rcases hk2 with rfl | rfl | rfl | rfl <;> rfl
theorem xg_10 (C : XC l E K cc own R s mL)  {k i : Nat} (hk : k < 4) (hlink : Cond.fieldLink own i (TX5 (k + 1)).1 (TX5 (k + 1)).2.1 (TX5 (k + 1)).2.2.1 ∈ zTB) (hd : decode cc pc = .ok (.getfield i, 3)) (kk : Z K (XP E F s) (pc + 3) L (.int (F.2.2.2 3 k) :: st)) : Z K (XP E F s) pc L (.ref (xadr E.2.2.1 (10, 0, 0)) :: st) := by
  refine z_getf (key := (10, 0, 0)) (N := 5) (k := k + 1) C ⟨by decide, rfl, rfl⟩ rfl wi_X5 rfl (by omega) hlink ?_ hd kk
  have hk2 : k = 0 ∨ k = 1 ∨ k = 2 ∨ k = 3 := by omega
  rcases hk2 with rfl | rfl | rfl | rfl <;> rfl
theorem xg_6b (C : XC l E K cc own R s mL) {gi j : Nat} (hg : gi < 4) (hj : j < 6) {i : Nat} (hlink : Cond.fieldLink own i (TX4 5).1 (TX4 5).2.1 (TX4 5).2.2.1 ∈ zTB) (hd : decode cc pc = .ok (.getfield i, 3)) (kk : Z K (XP E F s) (pc + 3) L (.int ((F.1 gi).2.1 j) :: st)) : Z K (XP E F s) pc L (.ref (xadr E.2.2.1 (6, gi, j)) :: st) :=
  z_getf (key := (6, gi, j)) (N := 7) (k := 5) C ⟨hg, hj⟩ rfl wi_X4 rfl (by decide) hlink rfl hd kk
theorem xg_6n (C : XC l E K cc own R s mL) {gi j : Nat} (hg : gi < 4) (hj : j < 6) {i : Nat} (hlink : Cond.fieldLink own i (TX4 6).1 (TX4 6).2.1 (TX4 6).2.2.1 ∈ zTB) (hd : decode cc pc = .ok (.getfield i, 3)) (kk : Z K (XP E F s) (pc + 3) L (.int ((F.1 gi).2.2 j) :: st)) : Z K (XP E F s) pc L (.ref (xadr E.2.2.1 (6, gi, j)) :: st) :=
  z_getf (key := (6, gi, j)) (N := 7) (k := 6) C ⟨hg, hj⟩ rfl wi_X4 rfl (by decide) hlink rfl hd kk
theorem xg_3s (C : XC l E K cc own R s mL) {gi : Nat} (hg : gi < 4) {i : Nat} (hlink : Cond.fieldLink own i (TX1 0).1 (TX1 0).2.1 (TX1 0).2.2.1 ∈ zTB) (hd : decode cc pc = .ok (.getfield i, 3)) (kk : Z K (XP E F s) (pc + 3) L (.ref (xadr E.2.2.1 (4, gi, 0)) :: st)) : Z K (XP E F s) pc L (.ref (xadr E.2.2.1 (3, gi, 0)) :: st) :=
  z_getf (key := (3, gi, 0)) (N := 10) (k := 0) C ⟨hg, rfl⟩ rfl wi_X1 rfl (by decide) hlink rfl hd kk
theorem xg_3c (C : XC l E K cc own R s mL) {gi : Nat} (hg : gi < 4) {i : Nat} (hlink : Cond.fieldLink own i (TX1 1).1 (TX1 1).2.1 (TX1 1).2.2.1 ∈ zTB) (hd : decode cc pc = .ok (.getfield i, 3)) (kk : Z K (XP E F s) (pc + 3) L (.ref (xadr E.2.2.1 (5, gi, 0)) :: st)) : Z K (XP E F s) pc L (.ref (xadr E.2.2.1 (3, gi, 0)) :: st) :=
  z_getf (key := (3, gi, 0)) (N := 10) (k := 1) C ⟨hg, rfl⟩ rfl wi_X1 rfl (by decide) hlink rfl hd kk
theorem xg_0_0 (C : XC l E K cc own R s mL)  {i : Nat} (hlink : Cond.fieldLink own i (TX6 0).1 (TX6 0).2.1 (TX6 0).2.2.1 ∈ zTB) (hd : decode cc pc = .ok (.getfield i, 3)) (kk : Z K (XP E F s) (pc + 3) L (.ref (xadr E.2.2.1 (1, 0, 0)) :: st)) : Z K (XP E F s) pc L (.ref (xadr E.2.2.1 (0, 0, 0)) :: st) :=
  z_getf (key := (0, 0, 0)) (N := 8) (k := 0) C ⟨by decide, rfl, rfl⟩ rfl wi_X6 rfl (by decide) hlink rfl hd kk
theorem xg_0_1 (C : XC l E K cc own R s mL)  {i : Nat} (hlink : Cond.fieldLink own i (TX6 1).1 (TX6 1).2.1 (TX6 1).2.2.1 ∈ zTB) (hd : decode cc pc = .ok (.getfield i, 3)) (kk : Z K (XP E F s) (pc + 3) L (.ref (xadr E.2.2.1 (2, 0, 0)) :: st)) : Z K (XP E F s) pc L (.ref (xadr E.2.2.1 (0, 0, 0)) :: st) :=
  z_getf (key := (0, 0, 0)) (N := 8) (k := 1) C ⟨by decide, rfl, rfl⟩ rfl wi_X6 rfl (by decide) hlink rfl hd kk
theorem xg_0_2 (C : XC l E K cc own R s mL)  {i : Nat} (hlink : Cond.fieldLink own i (TX6 2).1 (TX6 2).2.1 (TX6 2).2.2.1 ∈ zTB) (hd : decode cc pc = .ok (.getfield i, 3)) (kk : Z K (XP E F s) (pc + 3) L (.ref (xadr E.2.2.1 (3, 0, 0)) :: st)) : Z K (XP E F s) pc L (.ref (xadr E.2.2.1 (0, 0, 0)) :: st) :=
  z_getf (key := (0, 0, 0)) (N := 8) (k := 2) C ⟨by decide, rfl, rfl⟩ rfl wi_X6 rfl (by decide) hlink rfl hd kk
theorem xg_0_3 (C : XC l E K cc own R s mL)  {i : Nat} (hlink : Cond.fieldLink own i (TX6 3).1 (TX6 3).2.1 (TX6 3).2.2.1 ∈ zTB) (hd : decode cc pc = .ok (.getfield i, 3)) (kk : Z K (XP E F s) (pc + 3) L (.ref (xadr E.2.2.1 (3, 1, 0)) :: st)) : Z K (XP E F s) pc L (.ref (xadr E.2.2.1 (0, 0, 0)) :: st) :=
  z_getf (key := (0, 0, 0)) (N := 8) (k := 3) C ⟨by decide, rfl, rfl⟩ rfl wi_X6 rfl (by decide) hlink rfl hd kk
theorem xg_0_4 (C : XC l E K cc own R s mL)  {i : Nat} (hlink : Cond.fieldLink own i (TX6 4).1 (TX6 4).2.1 (TX6 4).2.2.1 ∈ zTB) (hd : decode cc pc = .ok (.getfield i, 3)) (kk : Z K (XP E F s) (pc + 3) L (.ref (xadr E.2.2.1 (3, 2, 0)) :: st)) : Z K (XP E F s) pc L (.ref (xadr E.2.2.1 (0, 0, 0)) :: st) :=
  z_getf (key := (0, 0, 0)) (N := 8) (k := 4) C ⟨by decide, rfl, rfl⟩ rfl wi_X6 rfl (by decide) hlink rfl hd kk
theorem xg_0_5 (C : XC l E K cc own R s mL)  {i : Nat} (hlink : Cond.fieldLink own i (TX6 5).1 (TX6 5).2.1 (TX6 5).2.2.1 ∈ zTB) (hd : decode cc pc = .ok (.getfield i, 3)) (kk : Z K (XP E F s) (pc + 3) L (.ref (xadr E.2.2.1 (8, 0, 0)) :: st)) : Z K (XP E F s) pc L (.ref (xadr E.2.2.1 (0, 0, 0)) :: st) :=
  z_getf (key := (0, 0, 0)) (N := 8) (k := 5) C ⟨by decide, rfl, rfl⟩ rfl wi_X6 rfl (by decide) hlink rfl hd kk
theorem xg_0_6 (C : XC l E K cc own R s mL)  {i : Nat} (hlink : Cond.fieldLink own i (TX6 6).1 (TX6 6).2.1 (TX6 6).2.2.1 ∈ zTB) (hd : decode cc pc = .ok (.getfield i, 3)) (kk : Z K (XP E F s) (pc + 3) L (.ref (xadr E.2.2.1 (10, 0, 0)) :: st)) : Z K (XP E F s) pc L (.ref (xadr E.2.2.1 (0, 0, 0)) :: st) :=
  z_getf (key := (0, 0, 0)) (N := 8) (k := 6) C ⟨by decide, rfl, rfl⟩ rfl wi_X6 rfl (by decide) hlink rfl hd kk
theorem xg_0_7 (C : XC l E K cc own R s mL)  {i : Nat} (hlink : Cond.fieldLink own i (TX6 7).1 (TX6 7).2.1 (TX6 7).2.2.1 ∈ zTB) (hd : decode cc pc = .ok (.getfield i, 3)) (kk : Z K (XP E F s) (pc + 3) L (.int (F.2.2.2 5 0) :: st)) : Z K (XP E F s) pc L (.ref (xadr E.2.2.1 (0, 0, 0)) :: st) :=
  z_getf (key := (0, 0, 0)) (N := 8) (k := 7) C ⟨by decide, rfl, rfl⟩ rfl wi_X6 rfl (by decide) hlink rfl hd kk
theorem xg_8d (C : XC l E K cc own R s mL)  {i : Nat} (hlink : Cond.fieldLink own i (TX2 0).1 (TX2 0).2.1 (TX2 0).2.2.1 ∈ zTB) (hd : decode cc pc = .ok (.getfield i, 3)) (kk : Z K (XP E F s) (pc + 3) L (.ref (xadr E.2.2.1 (3, 3, 0)) :: st)) : Z K (XP E F s) pc L (.ref (xadr E.2.2.1 (8, 0, 0)) :: st) :=
  z_getf (key := (8, 0, 0)) (N := 6) (k := 0) C ⟨by decide, rfl, rfl⟩ rfl wi_X2 rfl (by decide) hlink rfl hd kk
theorem xg_8l (C : XC l E K cc own R s mL)  {i : Nat} (hlink : Cond.fieldLink own i (TX2 1).1 (TX2 1).2.1 (TX2 1).2.2.1 ∈ zTB) (hd : decode cc pc = .ok (.getfield i, 3)) (kk : Z K (XP E F s) (pc + 3) L (.ref (xadr E.2.2.1 (9, 0, 0)) :: st)) : Z K (XP E F s) pc L (.ref (xadr E.2.2.1 (8, 0, 0)) :: st) :=
  z_getf (key := (8, 0, 0)) (N := 6) (k := 1) C ⟨by decide, rfl, rfl⟩ rfl wi_X2 rfl (by decide) hlink rfl hd kk
theorem xg_10b (C : XC l E K cc own R s mL)  {i : Nat} (hlink : Cond.fieldLink own i (TX5 0).1 (TX5 0).2.1 (TX5 0).2.2.1 ∈ zTB) (hd : decode cc pc = .ok (.getfield i, 3)) (kk : Z K (XP E F s) (pc + 3) L (.ref (xadr E.2.2.1 (11, 0, 0)) :: st)) : Z K (XP E F s) pc L (.ref (xadr E.2.2.1 (10, 0, 0)) :: st) :=
  z_getf (key := (10, 0, 0)) (N := 5) (k := 0) C ⟨by decide, rfl, rfl⟩ rfl wi_X5 rfl (by decide) hlink rfl hd kk
theorem xg_12e (C : XC l E K cc own R s mL) {j : Nat} (hj : j < 8) {i : Nat} (hlink : Cond.fieldLink own i (TX3 0).1 (TX3 0).2.1 (TX3 0).2.2.1 ∈ zTB) (hd : decode cc pc = .ok (.getfield i, 3)) (kk : Z K (XP E F s) (pc + 3) L (.ref (xadr E.2.2.1 (13, j, 0)) :: st)) : Z K (XP E F s) pc L (.ref (xadr E.2.2.1 (12, j, 0)) :: st) :=
  z_getf (key := (12, j, 0)) (N := 3) (k := 0) C ⟨hj, rfl⟩ rfl wi_X3 rfl (by decide) hlink rfl hd kk
theorem xp_3 (C : XC l E K cc own R s mL) {gi : Nat} (hg : gi < 4) {k i : Nat} {v : Int32} (hk : k < 8) (hlink : Cond.fieldLink own i (TX1 (k + 2)).1 (TX1 (k + 2)).2.1 (TX1 (k + 2)).2.2.1 ∈ zTB) (hd : decode cc pc = .ok (.putfield i, 3)) (kk : Z K (XP E (sG F gi (fSc (F.1 gi) k v)) s) (pc + 3) L st) : Z K (XP E F s) pc L (.int v :: .ref (xadr E.2.2.1 (3, gi, 0)) :: st) := by
  have hk2 : k = 0 ∨ k = 1 ∨ k = 2 ∨ k = 3 ∨ k = 4 ∨ k = 5 ∨ k = 6 ∨ k = 7 := by omega
  refine z_putf (key := (3, gi, 0)) (N := 10) (k := k + 2) (ty := .int) C _ ⟨hg, rfl⟩ rfl ?_ xo_fSc wi_X1 tyX1 tyX1_ok nmX1 rfl (by omega) hlink ?_ ?_ rfl rfl ?_ hd kk
  · unfold xcell
    simp only [sG_at]
    rcases hk2 with rfl | rfl | rfl | rfl | rfl | rfl | rfl | rfl <;> rfl
  · rcases hk2 with rfl | rfl | rfl | rfl | rfl | rfl | rfl | rfl <;> rfl
  · rcases hk2 with rfl | rfl | rfl | rfl | rfl | rfl | rfl | rfl <;> decide +kernel
  · rcases hk2 with rfl | rfl | rfl | rfl | rfl | rfl | rfl | rfl <;> exact Nat.le_of_ble_eq_true rfl
theorem xp_6 (C : XC l E K cc own R s mL) {gi j : Nat} (hg : gi < 4) (hj : j < 6) {k i : Nat} {v : Int32} (hk : k < 5) (hlink : Cond.fieldLink own i (TX4 (k + 0)).1 (TX4 (k + 0)).2.1 (TX4 (k + 0)).2.2.1 ∈ zTB) (hd : decode cc pc = .ok (.putfield i, 3)) (kk : Z K (XP E (sG F gi (fSh (F.1 gi) j k v)) s) (pc + 3) L st) : Z K (XP E F s) pc L (.int v :: .ref (xadr E.2.2.1 (6, gi, j)) :: st) := by
  have hk2 : k = 0 ∨ k = 1 ∨ k = 2 ∨ k = 3 ∨ k = 4 := by omega
  refine z_putf (key := (6, gi, j)) (N := 7) (k := k + 0) (ty := .int) C _ ⟨hg, hj⟩ rfl ?_ xo_fSh wi_X4 tyX4 tyX4_ok nmX4 rfl (by omega) hlink ?_ ?_ rfl rfl ?_ hd kk
  · unfold xcell
    simp only [sG_at, fSh, gSh, va_up_self]
    rcases hk2 with rfl | rfl | rfl | rfl | rfl <;> rfl
  · rcases hk2 with rfl | rfl | rfl | rfl | rfl <;> rfl
  · rcases hk2 with rfl | rfl | rfl | rfl | rfl <;> decide +kernel
  · rcases hk2 with rfl | rfl | rfl | rfl | rfl <;> exact Nat.le_of_ble_eq_true rfl
theorem xp_7 (C : XC l E K cc own R s mL) {gi j : Nat} (hg : gi < 4) (hj : j < 6) {k i : Nat} {v : Int32} (hk : k < 6) (hlink : Cond.fieldLink own i (TX0 (k + 0)).1 (TX0 (k + 0)).2.1 (TX0 (k + 0)).2.2.1 ∈ zTB) (hd : decode cc pc = .ok (.putfield i, 3)) (kk : Z K (XP E (sG F gi (fCh (F.1 gi) j k v)) s) (pc + 3) L st) : Z K (XP E F s) pc L (.int v :: .ref (xadr E.2.2.1 (7, gi, j)) :: st) := by
  have hk2 : k = 0 ∨ k = 1 ∨ k = 2 ∨ k = 3 ∨ k = 4 ∨ k = 5 := by omega
  refine z_putf (key := (7, gi, j)) (N := 6) (k := k + 0) (ty := .int) C _ ⟨hg, hj⟩ rfl ?_ xo_fCh wi_X0 tyX0 tyX0_ok nmX0 rfl (by omega) hlink ?_ ?_ rfl rfl ?_ hd kk
  · unfold xcell
    simp only [sG_at, fCh, gCh, va_up_self]
    rcases hk2 with rfl | rfl | rfl | rfl | rfl | rfl <;> rfl
  · rcases hk2 with rfl | rfl | rfl | rfl | rfl | rfl <;> rfl
  · rcases hk2 with rfl | rfl | rfl | rfl | rfl | rfl <;> decide +kernel
  · rcases hk2 with rfl | rfl | rfl | rfl | rfl | rfl <;> exact Nat.le_of_ble_eq_true rfl
theorem xp_12 (C : XC l E K cc own R s mL) {j : Nat} (hj : j < 8) {k i : Nat} {v : Int32} (hk : k < 2) (hlink : Cond.fieldLink own i (TX3 (k + 1)).1 (TX3 (k + 1)).2.1 (TX3 (k + 1)).2.2.1 ∈ zTB) (hd : decode cc pc = .ok (.putfield i, 3)) (kk : Z K (XP E (sV F j k v) s) (pc + 3) L st) : Z K (XP E F s) pc L (.int v :: .ref (xadr E.2.2.1 (12, j, 0)) :: st) := by
  have hk2 : k = 0 ∨ k = 1 := by omega
  refine z_putf (key := (12, j, 0)) (N := 3) (k := k + 1) (ty := .int) C _ ⟨hj, rfl⟩ rfl ?_ xo_V wi_X3 tyX3 tyX3_ok nmX3 rfl (by omega) hlink ?_ ?_ rfl rfl ?_ hd kk
  · unfold xcell
    simp only [sV, va_up_self]
    rcases hk2 with rfl | rfl <;> rfl
  · rcases hk2 with rfl | rfl <;> rfl
  · rcases hk2 with rfl | rfl <;> decide +kernel
  · rcases hk2 with rfl | rfl <;> exact Nat.le_of_ble_eq_true rfl
theorem xp_8 (C : XC l E K cc own R s mL)  {k i : Nat} {v : Int32} (hk : k < 4) (hlink : Cond.fieldLink own i (TX2 (k + 2)).1 (TX2 (k + 2)).2.1 (TX2 (k + 2)).2.2.1 ∈ zTB) (hd : decode cc pc = .ok (.putfield i, 3)) (kk : Z K (XP E (sM F 1 k v) s) (pc + 3) L st) : Z K (XP E F s) pc L (.int v :: .ref (xadr E.2.2.1 (8, 0, 0)) :: st) := by
  have hk2 : k = 0 ∨ k = 1 ∨ k = 2 ∨ k = 3 := by omega
  refine z_putf (key := (8, 0, 0)) (N := 6) (k := k + 2) (ty := .int) C _ ⟨by decide, rfl, rfl⟩ rfl ?_ xo_M1 wi_X2 tyX2 tyX2_ok nmX2 rfl (by omega) hlink ?_ ?_ rfl rfl ?_ hd kk
  · unfold xcell
    simp only [sM, va_up_self]
    rcases hk2 with rfl | rfl | rfl | rfl <;> rfl
  · rcases hk2 with rfl | rfl | rfl | rfl <;> rfl
  · rcases hk2 with rfl | rfl | rfl | rfl <;> decide +kernel
  · rcases hk2 with rfl | rfl | rfl | rfl <;> exact Nat.le_of_ble_eq_true rfl
theorem xp_10 (C : XC l E K cc own R s mL)  {k i : Nat} {v : Int32} (hk : k < 4) (hlink : Cond.fieldLink own i (TX5 (k + 1)).1 (TX5 (k + 1)).2.1 (TX5 (k + 1)).2.2.1 ∈ zTB) (hd : decode cc pc = .ok (.putfield i, 3)) (kk : Z K (XP E (sM F 3 k v) s) (pc + 3) L st) : Z K (XP E F s) pc L (.int v :: .ref (xadr E.2.2.1 (10, 0, 0)) :: st) := by
  have hk2 : k = 0 ∨ k = 1 ∨ k = 2 ∨ k = 3 := by omega
  refine z_putf (key := (10, 0, 0)) (N := 5) (k := k + 1) (ty := .int) C _ ⟨by decide, rfl, rfl⟩ rfl ?_ xo_M3 wi_X5 tyX5 tyX5_ok nmX5 rfl (by omega) hlink ?_ ?_ rfl rfl ?_ hd kk
  · unfold xcell
    simp only [sM, va_up_self]
    rcases hk2 with rfl | rfl | rfl | rfl <;> rfl
  · rcases hk2 with rfl | rfl | rfl | rfl <;> rfl
  · rcases hk2 with rfl | rfl | rfl | rfl <;> decide +kernel
  · rcases hk2 with rfl | rfl | rfl | rfl <;> exact Nat.le_of_ble_eq_true rfl
theorem xp_6b (C : XC l E K cc own R s mL) {gi j : Nat} (hg : gi < 4) (hj : j < 6) {i : Nat} {v : Int32} (hn : narrow .boolean (.int v) = .int v ∧ fits .boolean (.int v) = true) (hlink : Cond.fieldLink own i (TX4 5).1 (TX4 5).2.1 (TX4 5).2.2.1 ∈ zTB) (hd : decode cc pc = .ok (.putfield i, 3)) (kk : Z K (XP E (sG F gi (fBz (F.1 gi) j v)) s) (pc + 3) L st) : Z K (XP E F s) pc L (.int v :: .ref (xadr E.2.2.1 (6, gi, j)) :: st) := by
  refine z_putf (key := (6, gi, j)) (N := 7) (k := 5) (ty := .boolean) C _ ⟨hg, hj⟩ rfl ?_ xo_fBz wi_X4 tyX4 tyX4_ok nmX4 rfl (by decide) hlink rfl (by decide +kernel) hn.1 hn.2 (Nat.le_of_ble_eq_true rfl) hd kk
  unfold xcell
  simp only [sG_at, fBz, upd, if_true]
  rfl
theorem xp_6n (C : XC l E K cc own R s mL) {gi j : Nat} (hg : gi < 4) (hj : j < 6) {i : Nat} {v : Int32} (hn : narrow .int (.int v) = .int v ∧ fits .int (.int v) = true) (hlink : Cond.fieldLink own i (TX4 6).1 (TX4 6).2.1 (TX4 6).2.2.1 ∈ zTB) (hd : decode cc pc = .ok (.putfield i, 3)) (kk : Z K (XP E (sG F gi (fNt (F.1 gi) j v)) s) (pc + 3) L st) : Z K (XP E F s) pc L (.int v :: .ref (xadr E.2.2.1 (6, gi, j)) :: st) := by
  refine z_putf (key := (6, gi, j)) (N := 7) (k := 6) (ty := .int) C _ ⟨hg, hj⟩ rfl ?_ xo_fNt wi_X4 tyX4 tyX4_ok nmX4 rfl (by decide) hlink rfl (by decide +kernel) hn.1 hn.2 (Nat.le_of_ble_eq_true rfl) hd kk
  unfold xcell
  simp only [sG_at, fNt, upd, if_true]
  rfl
theorem xp_0_7 (C : XC l E K cc own R s mL)  {i : Nat} {v : Int32} (hn : narrow .boolean (.int v) = .int v ∧ fits .boolean (.int v) = true) (hlink : Cond.fieldLink own i (TX6 7).1 (TX6 7).2.1 (TX6 7).2.2.1 ∈ zTB) (hd : decode cc pc = .ok (.putfield i, 3)) (kk : Z K (XP E (sM F 5 0 v) s) (pc + 3) L st) : Z K (XP E F s) pc L (.int v :: .ref (xadr E.2.2.1 (0, 0, 0)) :: st) := by
  refine z_putf (key := (0, 0, 0)) (N := 8) (k := 7) (ty := .boolean) C _ ⟨by decide, rfl, rfl⟩ rfl ?_ xo_M5 wi_X6 tyX6 tyX6_ok nmX6 rfl (by decide) hlink rfl (by decide +kernel) hn.1 hn.2 (Nat.le_of_ble_eq_true rfl) hd kk
  unfold xcell
  simp only [sM, va_up_self]
  rfl
theorem xl_2 (C : XC l E K cc own R s mL)  {x : Int32} (j : Nat) (hx : x = nI j) (hlt : j < 8) (hd : decode cc pc = .ok (.iaload, 1)) (kk : Z K (XP E F s) (pc + 1) L (.int (F.2.2.2 0 j) :: st)) : Z K (XP E F s) pc L (.int x :: .ref (xadr E.2.2.1 (2, 0, 0)) :: st) :=
  z_iald (key := (2, 0, 0)) C j ⟨by decide, rfl, rfl⟩ rfl hx hlt (by decide) hd kk
theorem xl_9 (C : XC l E K cc own R s mL)  {x : Int32} (j : Nat) (hx : x = nI j) (hlt : j < 160) (hd : decode cc pc = .ok (.iaload, 1)) (kk : Z K (XP E F s) (pc + 1) L (.int (F.2.2.2 2 j) :: st)) : Z K (XP E F s) pc L (.int x :: .ref (xadr E.2.2.1 (9, 0, 0)) :: st) :=
  z_iald (key := (9, 0, 0)) C j ⟨by decide, rfl, rfl⟩ rfl hx hlt (by decide) hd kk
theorem xl_11 (C : XC l E K cc own R s mL)  {x : Int32} (j : Nat) (hx : x = nI j) (hlt : j < 20) (hd : decode cc pc = .ok (.iaload, 1)) (kk : Z K (XP E F s) (pc + 1) L (.int (F.2.2.2 4 j) :: st)) : Z K (XP E F s) pc L (.int x :: .ref (xadr E.2.2.1 (11, 0, 0)) :: st) :=
  z_iald (key := (11, 0, 0)) C j ⟨by decide, rfl, rfl⟩ rfl hx hlt (by decide) hd kk
theorem xl_13 (C : XC l E K cc own R s mL) {q : Nat} (hq : q < 8) {x : Int32} (j : Nat) (hx : x = nI j) (hlt : j < 160) (hd : decode cc pc = .ok (.laload, 1)) (kk : Z K (XP E F s) (pc + 1) L (.long (F.2.2.1 q j) :: st)) : Z K (XP E F s) pc L (.int x :: .ref (xadr E.2.2.1 (13, q, 0)) :: st) :=
  z_lald (key := (13, q, 0)) C j ⟨hq, rfl⟩ rfl hx hlt (by decide) hd kk
theorem xs_2 (C : XC l E K cc own R s mL) {x v : Int32} (j : Nat) (hx : x = nI j) (hlt : j < 8) (hd : decode cc pc = .ok (.iastore, 1)) (kk : Z K (XP E (sM F 0 j v) s) (pc + 1) L st) : Z K (XP E F s) pc L (.int v :: .int x :: .ref (xadr E.2.2.1 (2, 0, 0)) :: st) :=
  z_iast (key := (2, 0, 0)) C _ j ⟨by decide, rfl, rfl⟩ rfl (by unfold xcell; simp only [sM, va_up_self]) xo_M0 hx hlt (by decide) hd kk
theorem xs_9 (C : XC l E K cc own R s mL) {x v : Int32} (j : Nat) (hx : x = nI j) (hlt : j < 160) (hd : decode cc pc = .ok (.iastore, 1)) (kk : Z K (XP E (sM F 2 j v) s) (pc + 1) L st) : Z K (XP E F s) pc L (.int v :: .int x :: .ref (xadr E.2.2.1 (9, 0, 0)) :: st) :=
  z_iast (key := (9, 0, 0)) C _ j ⟨by decide, rfl, rfl⟩ rfl (by unfold xcell; simp only [sM, va_up_self]) xo_M2 hx hlt (by decide) hd kk
theorem xs_11 (C : XC l E K cc own R s mL) {x v : Int32} (j : Nat) (hx : x = nI j) (hlt : j < 20) (hd : decode cc pc = .ok (.iastore, 1)) (kk : Z K (XP E (sM F 4 j v) s) (pc + 1) L st) : Z K (XP E F s) pc L (.int v :: .int x :: .ref (xadr E.2.2.1 (11, 0, 0)) :: st) :=
  z_iast (key := (11, 0, 0)) C _ j ⟨by decide, rfl, rfl⟩ rfl (by unfold xcell; simp only [sM, va_up_self]) xo_M4 hx hlt (by decide) hd kk
theorem xs_13 (C : XC l E K cc own R s mL) {q : Nat} (hq : q < 8) {x : Int32} {v : Int64} (j : Nat) (hx : x = nI j) (hlt : j < 160) (hd : decode cc pc = .ok (.lastore, 1)) (kk : Z K (XP E (sE F q (vp_updL (F.2.2.1 q) j v)) s) (pc + 1) L st) : Z K (XP E F s) pc L (.long v :: .int x :: .ref (xadr E.2.2.1 (13, q, 0)) :: st) :=
  z_last (key := (13, q, 0)) C _ j ⟨hq, rfl⟩ rfl (by unfold xcell; simp only [sE, va_up_self]) xo_E hx hlt (by decide) hd kk
theorem xa_1 (C : XC l E K cc own R s mL)  {x : Int32} (j : Nat) (hx : x = nI j) (hlt : j < 8) (hd : decode cc pc = .ok (.aaload, 1)) (kk : Z K (XP E F s) (pc + 1) L (.ref (xadr E.2.2.1 (12, j, 0)) :: st)) : Z K (XP E F s) pc L (.int x :: .ref (xadr E.2.2.1 (1, 0, 0)) :: st) :=
  z_aald (key := (1, 0, 0)) C 4 j ⟨by decide, rfl, rfl⟩ rfl rfl hx hlt (by decide) rfl hd kk
theorem xa_4 (C : XC l E K cc own R s mL) {gi : Nat} (hg : gi < 4) {x : Int32} (j : Nat) (hx : x = nI j) (hlt : j < 6) (hd : decode cc pc = .ok (.aaload, 1)) (kk : Z K (XP E F s) (pc + 1) L (.ref (xadr E.2.2.1 (6, gi, j)) :: st)) : Z K (XP E F s) pc L (.int x :: .ref (xadr E.2.2.1 (4, gi, 0)) :: st) :=
  z_aald (key := (4, gi, 0)) C 2 j ⟨hg, rfl⟩ rfl rfl hx hlt (by decide) rfl hd kk
theorem xa_5 (C : XC l E K cc own R s mL) {gi : Nat} (hg : gi < 4) {x : Int32} (j : Nat) (hx : x = nI j) (hlt : j < 6) (hd : decode cc pc = .ok (.aaload, 1)) (kk : Z K (XP E F s) (pc + 1) L (.ref (xadr E.2.2.1 (7, gi, j)) :: st)) : Z K (XP E F s) pc L (.int x :: .ref (xadr E.2.2.1 (5, gi, 0)) :: st) :=
  z_aald (key := (5, gi, 0)) C 3 j ⟨hg, rfl⟩ rfl rfl hx hlt (by decide) rfl hd kk
theorem xg_3F (C : XC l E K cc own R s mL) {gi : Nat} {G : zGf} (hg : gi < 4) {k i : Nat} (hk : k < 8) (hlink : Cond.fieldLink own i (TX1 (k + 2)).1 (TX1 (k + 2)).2.1 (TX1 (k + 2)).2.2.1 ∈ zTB) (hd : decode cc pc = .ok (.getfield i, 3)) (kk : Z K (XP E (sG F gi G) s) (pc + 3) L (.int (G.1.1 k) :: st)) : Z K (XP E (sG F gi G) s) pc L (.ref (xadr E.2.2.1 (3, gi, 0)) :: st) := xg_3 C hg hk hlink hd (by rw [sG_at]; exact kk)
theorem xp_3F (C : XC l E K cc own R s mL) {gi : Nat} {G : zGf} (hg : gi < 4) {k i : Nat} (hk : k < 8) {v : Int32} (hlink : Cond.fieldLink own i (TX1 (k + 2)).1 (TX1 (k + 2)).2.1 (TX1 (k + 2)).2.2.1 ∈ zTB) (hd : decode cc pc = .ok (.putfield i, 3)) (kk : Z K (XP E (sG F gi (fSc G k v)) s) (pc + 3) L st) : Z K (XP E (sG F gi G) s) pc L (.int v :: .ref (xadr E.2.2.1 (3, gi, 0)) :: st) := xp_3 C hg hk hlink hd (by rw [sG_at, sG_sG]; exact kk)
theorem xg_6F (C : XC l E K cc own R s mL) {gi j : Nat} {G : zGf} (hg : gi < 4) (hj : j < 6) {k i : Nat} (hk : k < 5) (hlink : Cond.fieldLink own i (TX4 (k + 0)).1 (TX4 (k + 0)).2.1 (TX4 (k + 0)).2.2.1 ∈ zTB) (hd : decode cc pc = .ok (.getfield i, 3)) (kk : Z K (XP E (sG F gi G) s) (pc + 3) L (.int (G.1.2.1 j k) :: st)) : Z K (XP E (sG F gi G) s) pc L (.ref (xadr E.2.2.1 (6, gi, j)) :: st) := xg_6 C hg hj hk hlink hd (by rw [sG_at]; exact kk)
theorem xp_6F (C : XC l E K cc own R s mL) {gi j : Nat} {G : zGf} (hg : gi < 4) (hj : j < 6) {k i : Nat} (hk : k < 5) {v : Int32} (hlink : Cond.fieldLink own i (TX4 (k + 0)).1 (TX4 (k + 0)).2.1 (TX4 (k + 0)).2.2.1 ∈ zTB) (hd : decode cc pc = .ok (.putfield i, 3)) (kk : Z K (XP E (sG F gi (fSh G j k v)) s) (pc + 3) L st) : Z K (XP E (sG F gi G) s) pc L (.int v :: .ref (xadr E.2.2.1 (6, gi, j)) :: st) := xp_6 C hg hj hk hlink hd (by rw [sG_at, sG_sG]; exact kk)
theorem xg_7F (C : XC l E K cc own R s mL) {gi j : Nat} {G : zGf} (hg : gi < 4) (hj : j < 6) {k i : Nat} (hk : k < 6) (hlink : Cond.fieldLink own i (TX0 (k + 0)).1 (TX0 (k + 0)).2.1 (TX0 (k + 0)).2.2.1 ∈ zTB) (hd : decode cc pc = .ok (.getfield i, 3)) (kk : Z K (XP E (sG F gi G) s) (pc + 3) L (.int (G.1.2.2 j k) :: st)) : Z K (XP E (sG F gi G) s) pc L (.ref (xadr E.2.2.1 (7, gi, j)) :: st) := xg_7 C hg hj hk hlink hd (by rw [sG_at]; exact kk)
theorem xp_7F (C : XC l E K cc own R s mL) {gi j : Nat} {G : zGf} (hg : gi < 4) (hj : j < 6) {k i : Nat} (hk : k < 6) {v : Int32} (hlink : Cond.fieldLink own i (TX0 (k + 0)).1 (TX0 (k + 0)).2.1 (TX0 (k + 0)).2.2.1 ∈ zTB) (hd : decode cc pc = .ok (.putfield i, 3)) (kk : Z K (XP E (sG F gi (fCh G j k v)) s) (pc + 3) L st) : Z K (XP E (sG F gi G) s) pc L (.int v :: .ref (xadr E.2.2.1 (7, gi, j)) :: st) := xp_7 C hg hj hk hlink hd (by rw [sG_at, sG_sG]; exact kk)
theorem xg_6bF (C : XC l E K cc own R s mL) {gi j : Nat} {G : zGf} (hg : gi < 4) (hj : j < 6) {i : Nat} (hlink : Cond.fieldLink own i (TX4 5).1 (TX4 5).2.1 (TX4 5).2.2.1 ∈ zTB) (hd : decode cc pc = .ok (.getfield i, 3)) (kk : Z K (XP E (sG F gi G) s) (pc + 3) L (.int (G.2.1 j) :: st)) : Z K (XP E (sG F gi G) s) pc L (.ref (xadr E.2.2.1 (6, gi, j)) :: st) := xg_6b C hg hj hlink hd (by rw [sG_at]; exact kk)
theorem xp_6bF (C : XC l E K cc own R s mL) {gi j : Nat} {G : zGf} (hg : gi < 4) (hj : j < 6) {i : Nat} {v : Int32} (hn : narrow .boolean (.int v) = .int v ∧ fits .boolean (.int v) = true) (hlink : Cond.fieldLink own i (TX4 5).1 (TX4 5).2.1 (TX4 5).2.2.1 ∈ zTB) (hd : decode cc pc = .ok (.putfield i, 3)) (kk : Z K (XP E (sG F gi (fBz G j v)) s) (pc + 3) L st) : Z K (XP E (sG F gi G) s) pc L (.int v :: .ref (xadr E.2.2.1 (6, gi, j)) :: st) := xp_6b C hg hj hn hlink hd (by rw [sG_at, sG_sG]; exact kk)
theorem xg_6nF (C : XC l E K cc own R s mL) {gi j : Nat} {G : zGf} (hg : gi < 4) (hj : j < 6) {i : Nat} (hlink : Cond.fieldLink own i (TX4 6).1 (TX4 6).2.1 (TX4 6).2.2.1 ∈ zTB) (hd : decode cc pc = .ok (.getfield i, 3)) (kk : Z K (XP E (sG F gi G) s) (pc + 3) L (.int (G.2.2 j) :: st)) : Z K (XP E (sG F gi G) s) pc L (.ref (xadr E.2.2.1 (6, gi, j)) :: st) := xg_6n C hg hj hlink hd (by rw [sG_at]; exact kk)
theorem xp_6nF (C : XC l E K cc own R s mL) {gi j : Nat} {G : zGf} (hg : gi < 4) (hj : j < 6) {i : Nat} {v : Int32} (hn : narrow .int (.int v) = .int v ∧ fits .int (.int v) = true) (hlink : Cond.fieldLink own i (TX4 6).1 (TX4 6).2.1 (TX4 6).2.2.1 ∈ zTB) (hd : decode cc pc = .ok (.putfield i, 3)) (kk : Z K (XP E (sG F gi (fNt G j v)) s) (pc + 3) L st) : Z K (XP E (sG F gi G) s) pc L (.int v :: .ref (xadr E.2.2.1 (6, gi, j)) :: st) := xp_6n C hg hj hn hlink hd (by rw [sG_at, sG_sG]; exact kk)
end XROWS
