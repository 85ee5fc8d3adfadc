/-! what the Statement gives of the start -/
theorem sv_S {N : Nat} {len : List Nat} {byt : List (List Int32)} {k1 v1 k2 v2 : Nat → Nat} {A : Nat → Prop} {U : State} {H : Heap} (hk : ∀ i, i < N → k2 i = k1 i) (hv : ∀ i, i < N → v2 i = v1 i) (h : vk_S N len byt k1 v1 A U H) : vk_S N len byt k2 v2 A U H := by
  refine ⟨fun i hi => ?_, fun i j hi hj e => h.2 i j hi hj (by rw [← hk i hi, ← hk j hj]; exact e)⟩
  rw [hk i hi, hv i hi]
  exact h.1 i hi
def sv_t (i : Nat) : Term := .string RX2 (zIx.getD i 0)
theorem sv_ABOVE {args : Array Value} {s : State} (hs : ∀ c ∈ flatC (Jvm.Cond.and given_1 narrow_1), c.before args s = true) {A : Nat → Prop} (hA : ∀ a : Nat, a < s.heap.size → ¬ A a) : ∃ t : Nat, (Term.static RX6 "ABOVE" "[I").eval args s none [] s = some (.ref t) ∧ va_T .int t 7 (fun j => .int (zAbove.getD j 0)) A s s.heap := by
  refine va_Tof (N := 7) (f := fun j => .int (zAbove.getD j 0)) (by decide) (hs _ (by decide +kernel)) (va_eqt (hs _ (by decide +kernel))) (fun j hj => ?_) hA
  have h : j = 0 ∨ j = 1 ∨ j = 2 ∨ j = 3 ∨ j = 4 ∨ j = 5 ∨ j = 6 := by omega
  rcases h with rfl | rfl | rfl | rfl | rfl | rfl | rfl <;> exact va_eqt (hs _ (by decide +kernel))
theorem sv_BODIES {args : Array Value} {s : State} (hs : ∀ c ∈ flatC (Jvm.Cond.and given_1 narrow_1), c.before args s = true) {A : Nat → Prop} (hA : ∀ a : Nat, a < s.heap.size → ¬ A a) : ∃ t : Nat, (Term.static RX6 "BODIES" "[I").eval args s none [] s = some (.ref t) ∧ va_T .int t 21 (fun j => .int (zBodies.getD j 0)) A s s.heap := by
  refine va_Tof (N := 21) (f := fun j => .int (zBodies.getD j 0)) (by decide) (hs _ (by decide +kernel)) (va_eqt (hs _ (by decide +kernel))) (fun j hj => ?_) hA
  have h : j = 0 ∨ j = 1 ∨ j = 2 ∨ j = 3 ∨ j = 4 ∨ j = 5 ∨ j = 6 ∨ j = 7 ∨ j = 8 ∨ j = 9 ∨ j = 10 ∨ j = 11 ∨ j = 12 ∨ j = 13 ∨ j = 14 ∨ j = 15 ∨ j = 16 ∨ j = 17 ∨ j = 18 ∨ j = 19 ∨ j = 20 := by omega
  rcases h with rfl | rfl | rfl | rfl | rfl | rfl | rfl | rfl | rfl | rfl | rfl | rfl | rfl | rfl | rfl | rfl | rfl | rfl | rfl | rfl | rfl <;> exact va_eqt (hs _ (by decide +kernel))
theorem sv_str {args : Array Value} {s : State} (hs : ∀ c ∈ flatC (Jvm.Cond.and given_1 narrow_1), c.before args s = true) {A : Nat → Prop} (hA : ∀ a : Nat, a < s.heap.size → ¬ A a) : ∃ adK adV : Nat → Nat, vk_S 8 zLen zByt adK adV A s s.heap ∧ ∀ i : Nat, i < 8 → (sv_t i).eval args s none [] s = some (.ref (adK i)) := by
  have h8 : ∀ i : Nat, i < 8 → i = 0 ∨ i = 1 ∨ i = 2 ∨ i = 3 ∨ i = 4 ∨ i = 5 ∨ i = 6 ∨ i = 7 := fun i hi => by omega
  refine vk_Sof (tm := sv_t) (by decide) (fun i hi => ?_) (fun i hi => ?_) (fun i hi => ?_) (fun i hi => ?_) (fun i hi j hj => ?_) (fun i j hi hj hne => ?_) hA
  · rcases h8 i hi with rfl | rfl | rfl | rfl | rfl | rfl | rfl | rfl <;> exact hs _ (by decide +kernel)
  · rcases h8 i hi with rfl | rfl | rfl | rfl | rfl | rfl | rfl | rfl <;> exact hs _ (by decide +kernel)
  · rcases h8 i hi with rfl | rfl | rfl | rfl | rfl | rfl | rfl | rfl <;> exact hs _ (by decide +kernel)
  · rcases h8 i hi with rfl | rfl | rfl | rfl | rfl | rfl | rfl | rfl <;> exact hs _ (by decide +kernel)
  · refine hs _ ?_
    have key : ∀ i, i < 8 → ∀ j, j < zLen.getD i 0 → Cond.eq (.elem (.field (sv_t i) "java/lang/String" "value" "[B") (.int (Int32.ofNat j))) (.int ((zByt.getD i []).getD j 0)) ∈ flatC (Jvm.Cond.and given_1 narrow_1) := by decide +kernel
    exact key i hi j hj
  · have key : ∀ i, i < 8 → ∀ j, j < 8 → i ≠ j → Cond.not (Cond.eq (sv_t i) (sv_t j)) ∈ flatC (Jvm.Cond.and given_1 narrow_1) ∨ Cond.not (Cond.eq (sv_t j) (sv_t i)) ∈ flatC (Jvm.Cond.and given_1 narrow_1) := by decide +kernel
    rcases key i hi j hj hne with h | h
    · exact Or.inl (hs _ h)
    · exact Or.inr (hs _ h)
/-- the fixed cells' addresses -/
def sv_E (tA tB : Nat) (aK aV : Nat → Nat) : Nat → Nat := fun n => if n < 10 then (if n = 0 then tA else tB) else if n < 20 then aK (n - 10) else aV (n - 20)
theorem sv_ev {args : Array Value} {s : State} (hs : ∀ c ∈ flatC (Jvm.Cond.and given_1 narrow_1), c.before args s = true) (hts : ∀ w ∈ lw_tbl, w.before args s = true) (D : va_G) (DA : Nat → ClassId) : ∃ a4 : Nat → Nat, xev (D, DA, s.heap.size, a4) s s.heap ∧ xeu (D, DA, s.heap.size, a4) s := by
  have hA : ∀ a : Nat, a < s.heap.size → ¬ (fun q : Nat => s.heap.size ≤ q) a := fun a h => Nat.not_le.mpr h
  obtain ⟨tA, eA, hTA⟩ := sv_ABOVE hs (A := fun q : Nat => s.heap.size ≤ q) hA
  obtain ⟨tB, eB, hTB⟩ := sv_BODIES hs (A := fun q : Nat => s.heap.size ≤ q) hA
  obtain ⟨aK, aV, hSt, hSe⟩ := sv_str hs (A := fun q : Nat => s.heap.size ≤ q) hA
  have eK : ∀ i, i < 8 → sv_E tA tB aK aV (10 + i) = aK i := by
    intro i hi
    unfold sv_E
    rw [if_neg (by omega), if_pos (by omega), show 10 + i - 10 = i by omega]
  have eV : ∀ i, i < 8 → sv_E tA tB aK aV (20 + i) = aV i := by
    intro i hi
    unfold sv_E
    rw [if_neg (by omega), if_neg (by omega), show 20 + i - 20 = i by omega]
  refine ⟨sv_E tA tB aK aV, ⟨⟨va_Zref (hts (.laysStatic RX6 "ABOVE" "[I") (by decide +kernel)) (hts (.initialized RX6) (by decide +kernel)) eA hA, hTA⟩, ⟨va_Zref (hts (.laysStatic RX6 "BODIES" "[I") (by decide +kernel)) (hts (.initialized RX6) (by decide +kernel)) eB hA, hTB⟩, sv_S eK eV hSt, va_Zof (hts (.laysStatic "java/lang/String" "COMPACT_STRINGS" "Z") (by decide +kernel)) (hts (.initialized "java/lang/String") (by decide +kernel)) (va_eqi (hs (.eq (.static "java/lang/String" "COMPACT_STRINGS" "Z") (.int 1)) (by decide +kernel))) hA, va_Zqof (hts (.laysStatic "jdk/internal/util/Preconditions" "SIOOBE_FORMATTER" "Ljava/util/function/BiFunction;") (by decide +kernel)) (hts (.initialized "jdk/internal/util/Preconditions") (by decide +kernel)) (hs (.isRef (.static "jdk/internal/util/Preconditions" "SIOOBE_FORMATTER" "Ljava/util/function/BiFunction;")) (by decide +kernel)) hA⟩, va_Nw.of rfl (hts (.methodLinkNest RX4 27 yX6_isKind RX6) (by decide +kernel)), va_Nw.of rfl (hts (.fieldLinkNest RX4 31 RX6 "ABOVE" "[I" RX6) (by decide +kernel)), fun i hi => ?_⟩
  have h1 : (Cond.stringRef RX2 (zIx.getD i 0) (zTx.getD i "")).before args s = true := by
    have key : ∀ i, i < 8 → Cond.stringRef RX2 (zIx.getD i 0) (zTx.getD i "") ∈ lw_tbl := by decide +kernel
    exact hts _ (key i hi)
  have h2 := vk_R.of (A := args) (U := s) h1 (hSe i hi)
  show vk_R RX2 (zIx.getD i 0) (zTx.getD i "") (sv_E tA tB aK aV (10 + i)) s
  rw [eK i hi]
  exact h2
theorem sv_U {args : Array Value} {s : State} (hts : ∀ w ∈ lw_tbl, w.before args s = true) : gU s := by
  exact ⟨⟨va_AO.of (hts (.arrayOver (.object RX4)) (by decide +kernel)), va_AO.of (hts (.arrayOver (.object RX0)) (by decide +kernel)), va_AO.of (hts (.arrayOver (.object RX3)) (by decide +kernel))⟩, va_Nw.of rfl (hts (.methodLinkNest RX1 33 yX4_init RX6) (by decide +kernel)), va_Nw.of rfl (hts (.methodLinkNest RX1 34 yX0_init RX6) (by decide +kernel)), va_Nw.of rfl (hts (.methodLinkNest RX6 34 yX2_init RX6) (by decide +kernel)), va_Nw.of rfl (hts (.methodLinkNest RX6 41 yX5_init RX6) (by decide +kernel)), va_Nw.of rfl (hts (.methodLinkNest RX6 46 yX3_init RX6) (by decide +kernel))⟩
theorem sv_Ap {args : Array Value} {s : State} {ty : FieldType} (h : (Cond.arrayClass ty).before args s = true) (hno : ∀ cA : ClassId, s.vm.findClass ("[" ++ ty.toString) = some cA → va_RA s cA ty) : ∃ cA : ClassId, ArrOfT s cA ty ∧ va_RA s cA ty := by
  obtain ⟨c, k, comp, h1, h2, h3⟩ := Cond.arrayClass_spec (args := args) (first := s) (o := none) (s := s) (idx := []) h
  exact ⟨c, fun n z => ⟨fun k h => (by cases h), k, h2, comp, h3⟩, hno c h1⟩
theorem sv_Ao {s : State} {C : String} (h : va_AO C s) : ∃ cA : ClassId, ArrOfT s cA (.object C) ∧ va_RA s cA (.object C) := by
  obtain ⟨comp, c, k, h1, h2, h3, h4, h5⟩ := Cond.arrayOver_spec h
  exact ⟨c, fun n z => ⟨fun k h => (by cases h), k, h3, comp, h4⟩, k, comp, h3, h4, h1, h5⟩
theorem sv_K {args : Array Value} {s : State} (hts : ∀ w ∈ lw_tbl, w.before args s = true) (hU : gU s) : ∃ (D : va_G) (DA : Nat → ClassId), va_K D zcl [(DA 0, .int), (DA 1, .long), (DA 2, .object RX4), (DA 3, .object RX0), (DA 4, .object RX3)] s := by
  have htz : ∀ w ∈ zTB, w.before args s = true := fun w hw => hts w (zTB_good w hw).1
  obtain ⟨c0, i0, k0⟩ := u_known (n := 6) htz wi_X0 (htz _ gw_X1_17.2.1)
  obtain ⟨c1, i1, k1⟩ := u_known (n := 10) htz wi_X1 (htz _ gw_X6_19.2.1)
  obtain ⟨c2, i2, k2⟩ := u_known (n := 6) htz wi_X2 (htz _ gw_X6_32.2.1)
  obtain ⟨c3, i3, k3⟩ := u_known (n := 3) htz wi_X3 (htz _ gw_X6_9.2.1)
  obtain ⟨c4, i4, k4⟩ := u_known (n := 7) htz wi_X4 (htz _ gw_X1_9.2.1)
  obtain ⟨c5, i5, k5⟩ := u_known (n := 5) htz wi_X5 (htz _ gw_X6_39.2.1)
  obtain ⟨c6, i6, k6⟩ := u_known (n := 8) htz wi_X6 (htz _ gw_L_7.2.1)
  obtain ⟨c7, i7, k7⟩ := u_known (n := 48) htz wi_X7 (htz _ gw_L_10.2.1)
  obtain ⟨a0, p0⟩ := sv_Ap (htz _ gwAI) (fun cA h => h)
  obtain ⟨a1, p1⟩ := sv_Ap (htz _ gwAL) (fun cA h => h)
  obtain ⟨a2, p2⟩ := sv_Ao hU.1.1
  obtain ⟨a3, p3⟩ := sv_Ao hU.1.2.1
  obtain ⟨a4, p4⟩ := sv_Ao hU.1.2.2
  refine ⟨(fun k => if k = 0 then c0 else if k = 1 then c1 else if k = 2 then c2 else if k = 3 then c3 else if k = 4 then c4 else if k = 5 then c5 else if k = 6 then c6 else c7, fun k => if k = 0 then i0 else if k = 1 then i1 else if k = 2 then i2 else if k = 3 then i3 else if k = 4 then i4 else if k = 5 then i5 else if k = 6 then i6 else i7), fun k => if k = 0 then a0 else if k = 1 then a1 else if k = 2 then a2 else if k = 3 then a3 else a4, fun c q hq => ?_, fun k q hq => ?_⟩
  · match c, hq with
    | 0, hq => cases hq; exact k0
    | 1, hq => cases hq; exact k1
    | 2, hq => cases hq; exact k2
    | 3, hq => cases hq; exact k3
    | 4, hq => cases hq; exact k4
    | 5, hq => cases hq; exact k5
    | 6, hq => cases hq; exact k6
    | 7, hq => cases hq; exact k7
    | c + 8, hq => simp [zcl] at hq
  · match k, hq with
    | 0, hq => cases hq; exact p0
    | 1, hq => cases hq; exact p1
    | 2, hq => cases hq; exact p2
    | 3, hq => cases hq; exact p3
    | 4, hq => cases hq; exact p4
    | k + 5, hq => simp at hq
theorem gMet.e2 {l : Launch} {E : zE} {y : MethodName} {cc : ByteArray} {mL d mc ms a : Nat} {e0 : va_E} {ws' : List va_E} (h : gMet l (E2 E) y cc mL d mc ms a e0 ws') : gMet l E y cc mL d mc ms a e0 ws' := h
