/-! both systems as one -/
theorem Met.cq {l : Launch} {y : MethodName} {ws : List Cond} {rm : Room} {P P2 : Array Value → State → Prop} {Q Q2 : Array Value → State → Outcome → State → Prop} {A A2 : Addr → Prop} (h : Met l y ws rm P Q 0 0 A) (hp : ∀ a u, P2 a u → P a u) (hq : ∀ a u o t, P2 a u → u.WarmedH t.vm → Q a u o t → Q2 a u o t) (hA : ∀ q, A q → A2 q) : Met l y ws rm P2 Q2 0 0 A2 := by
  intro p e ha hc hk s m args below hf happ hP hK
  obtain ⟨n, o, h1, h2, h3, h4, L, h5, h6⟩ := h p e ha hc hk s m args below hf happ (hp _ _ hP) hK
  exact ⟨n, o, h1, h2, h3, hq _ _ _ _ hP h5.2.1 h4, L, h5, fun q hq2 => hA _ (h6 q hq2)⟩
def E2 (E : zE) : zE := (E.1, E.2.1, E.2.2.1 + 83, E.2.2.2)
def adrC (E : zE) (k : zKey) : Nat := if k.1 < 100 then xadr E.2.2.1 k else madr (E.2.2.1 + 83) (k.1 - 100, k.2)
def okC (k : zKey) : Prop := if k.1 < 100 then xok k else mok (k.1 - 100, k.2)
def cellC (E : zE) (X : zF × zM) (k : zKey) : va_E := if k.1 < 100 then xcell E X.1 k else mcell (E2 E) X.2 (k.1 - 100, k.2)
def AC (E : zE) : Nat → Prop := fun q => E.2.2.1 ≤ q
/-- the script lies still before all that is made -/
def evC (q0 n : Nat) (sc : Nat → Int32) (E : zE) (U : State) (H : Heap) : Prop := xev E U H ∧ va_T .int q0 n (fun j => .int (sc j)) (xB E) U H
theorem xok_lt {k : zKey} (h : xok k) : k.1 < 100 := by
  obtain ⟨f, i, j⟩ := k
  rcases Nat.lt_or_ge f 14 with z | z
  · show f < 100; omega
  · exfalso
    obtain ⟨m, rfl⟩ : ∃ m, f = m + 14 := ⟨f - 14, by omega⟩
    have : m + 14 < 12 := h.1
    omega
theorem cel_x {E : zE} {F : zF} {M : zM} {H : Heap} (h : zCel E (adrC E) (cellC E) okC (F, M) H) : zCel E (xadr E.2.2.1) (xcell E) xok F H := by
  intro k hk
  have h1 := xok_lt hk
  have h2 := h k (by unfold okC; rw [if_pos h1]; exact hk)
  unfold adrC cellC at h2
  rw [if_pos h1, if_pos h1] at h2
  exact h2
theorem cel_m {E : zE} {F : zF} {M : zM} {H : Heap} (h : zCel E (adrC E) (cellC E) okC (F, M) H) : zCel (E2 E) (madr (E2 E).2.2.1) (mcell (E2 E)) mok M H := by
  intro k hk
  have h1 : ¬ (k.1 + 100) < 100 := by omega
  have h2 := h (k.1 + 100, k.2) (by unfold okC; rw [if_neg h1]; exact hk)
  unfold adrC cellC at h2
  rw [if_neg h1, if_neg h1] at h2
  exact h2
theorem cel_of {E : zE} {F : zF} {M : zM} {H : Heap} (h : zCel E (xadr E.2.2.1) (xcell E) xok F H) (h2 : zCel (E2 E) (madr (E2 E).2.2.1) (mcell (E2 E)) mok M H) : zCel E (adrC E) (cellC E) okC (F, M) H := by
  intro k hk
  unfold okC at hk
  unfold adrC cellC
  by_cases h1 : k.1 < 100
  · rw [if_pos h1] at hk
    rw [if_pos h1, if_pos h1]
    exact h k hk
  · rw [if_neg h1] at hk
    rw [if_neg h1, if_neg h1]
    exact h2 (k.1 - 100, k.2) hk
abbrev CM (q0 n : Nat) (sc : Nat → Int32) (l : Launch) (E : zE) (y : MethodName) (cc : ByteArray) (mL : Nat) (ret : Option FieldType) (d : Nat) (as : List Value) (X : zF × zM) (post : Option Value → zF × zM → Prop) : Prop := zMet l E (adrC E) (cellC E) okC (xeu E) (evC q0 n sc E) (AC E) y cc mL ret d as X post
theorem CX {q0 n : Nat} {sc : Nat → Int32} {l : Launch} {E : zE} {y : MethodName} {cc : ByteArray} {mL : Nat} {ret : Option FieldType} {d : Nat} {as : List Value} {F : zF} {M : zM} {post : Option Value → zF → Prop} (h : XM l E y cc mL ret d as F post) : CM q0 n sc l E y cc mL ret d as (F, M) (fun v X => post v X.1 ∧ X.2 = M) := by
  refine Met.cq h (fun a u hP => ?_) (fun a u o t hP hV hQ => ?_) (fun q hq => hq.1)
  · exact ⟨hP.1, hP.2.1, hP.2.2.1.1, cel_x hP.2.2.2⟩
  · obtain ⟨⟨v, ho, F', hp, hx⟩, hF⟩ := hQ
    refine ⟨⟨v, ho, (F', M), ⟨hp, rfl⟩, ⟨hx.1, ?_⟩, cel_of hx.2 (fun k hk => ?_)⟩, hF.1, fun q h1 h2 => hF.2 q h1 (fun z => h2 z.1)⟩
    · exact (va_T.moved (u := u) (U := t) hV.alike hP.2.2.1.2).kept (fun q h1 h2 => hF.2 q h1 (fun z => h2 z.1))
    · have hm := cel_m hP.2.2.2 k hk
      refine hm.kept (hF.2 _ hm.lt (fun z => ?_))
      have h3 : mAA (E2 E) (madr (E2 E).2.2.1 k) := (msy (E2 E)).2.1 k hk
      have h4 := h3.1
      have h5 := z.2
      have h6 : E.2.2.1 + 83 ≤ madr (E2 E).2.2.1 k := h4
      exact absurd h5 (by show ¬ madr (E2 E).2.2.1 k < E.2.2.1 + 83; omega)
theorem CY {q0 n : Nat} {sc : Nat → Int32} {l : Launch} {E : zE} {y : MethodName} {cc : ByteArray} {mL : Nat} {ret : Option FieldType} {d : Nat} {as : List Value} {F : zF} {M : zM} {post : Option Value → zM → Prop} (h : MM l (E2 E) y cc mL ret d as M post) : CM q0 n sc l E y cc mL ret d as (F, M) (fun v X => post v X.2 ∧ X.1 = F) := by
  refine Met.cq h (fun a u hP => ?_) (fun a u o t hP hV hQ => ?_) (fun q hq => ?_)
  · exact ⟨hP.1, ⟨hP.2.1.1, trivial⟩, trivial, cel_m hP.2.2.2⟩
  · obtain ⟨⟨v, ho, M', hp, hx⟩, hF⟩ := hQ
    have hk : ∀ q : Nat, q < u.heap.size → q < E.2.2.1 + 83 → t.heap[q]? = u.heap[q]? := fun q h1 h2 => hF.2 q h1 (fun z => by
      have h3 : E.2.2.1 + 83 ≤ q := z.1
      omega)
    refine ⟨⟨v, ho, (F, M'), ⟨hp, rfl⟩, ⟨?_, ?_⟩, cel_of (fun k hk2 => ?_) hx.2⟩, hF.1, fun q h1 h2 => hF.2 q h1 (fun z => h2 ?_)⟩
    · have hq2 : ∀ a : Nat, a < u.heap.size → ¬ xB E a → t.heap[a]? = u.heap[a]? := fun a ha hB => hk a ha (by
        have h3 : ¬ E.2.2.1 ≤ a := hB
        omega)
      obtain ⟨⟨a1, a2⟩, ⟨a3, a4⟩, a5, a6, a7⟩ := (xsy E).2.2.1 u t u.heap hV.alike hP.2.2.1.1
      exact ⟨⟨a1.kept hq2, a2.kept hq2⟩, ⟨a3.kept hq2, a4.kept hq2⟩, a5.kept hq2, a6.kept hq2, a7.kept hq2⟩
    · exact (va_T.moved (u := u) (U := t) hV.alike hP.2.2.1.2).kept (fun q h1 h2 => hk q h1 (by
        have h3 : ¬ E.2.2.1 ≤ q := h2
        omega))
    · have hx2 := cel_x hP.2.2.2 k hk2
      exact hx2.kept (hk _ hx2.lt (xin hk2).2)
    · have h3 : E.2.2.1 + 83 ≤ q := z.1
      show E.2.2.1 ≤ q
      omega
  · have h3 : E.2.2.1 + 83 ≤ q := hq.1
    show E.2.2.1 ≤ q
    omega
theorem csy (q0 n : Nat) (sc : Nat → Int32) (E : zE) : zSy (adrC E) okC (xeu E) (evC q0 n sc E) (AC E) := by
  refine ⟨fun k k' h h' e => ?_, fun k h => ?_, fun u U H hv h => ?_, fun U H H1 h hz hq => ?_, (xsy E).2.2.2.2.1, (xsy E).2.2.2.2.2⟩
  · unfold okC at h h'
    unfold adrC at e
    by_cases h1 : k.1 < 100
    · rw [if_pos h1] at h e
      by_cases h2 : k'.1 < 100
      · rw [if_pos h2] at h' e
        exact xinj h h' e
      · rw [if_neg h2] at h' e
        have a1 := (xin (x := E.2.2.1) h).2
        have a2 := (min_ (m := E.2.2.1 + 83) h').1
        rw [e] at a1
        omega
    · rw [if_neg h1] at h e
      by_cases h2 : k'.1 < 100
      · rw [if_pos h2] at h' e
        have a1 := (xin (x := E.2.2.1) h').2
        have a2 := (min_ (m := E.2.2.1 + 83) h).1
        rw [e] at a2
        omega
      · rw [if_neg h2] at h' e
        have a3 := minj h h' e
        obtain ⟨f, r⟩ := k
        obtain ⟨f', r'⟩ := k'
        have a4 : f - 100 = f' - 100 := congrArg Prod.fst a3
        have a5 : r = r' := congrArg Prod.snd a3
        have b1 : ¬ f < 100 := h1
        have b2 : ¬ f' < 100 := h2
        have : f = f' := by omega
        rw [this, a5]
  · unfold okC at h
    unfold adrC
    by_cases h1 : k.1 < 100
    · rw [if_pos h1] at h ⊢
      exact (xin h).1
    · rw [if_neg h1] at h ⊢
      have a2 := (min_ (m := E.2.2.1 + 83) h).1
      show E.2.2.1 ≤ _
      omega
  · exact ⟨(xsy E).2.2.1 u U H hv h.1, h.2.moved hv⟩
  · have hq2 : ∀ a : Nat, a < H.size → ¬ xB E a → H1[a]? = H[a]? := fun a ha hB => hq a ha hB
    obtain ⟨⟨⟨a1, a2⟩, ⟨a3, a4⟩, a5, a6, a7⟩, h2⟩ := h
    exact ⟨⟨⟨a1.kept hq2, a2.kept hq2⟩, ⟨a3.kept hq2, a4.kept hq2⟩, a5.kept hq2, a6.kept hq2, a7.kept hq2⟩, h2.kept hq2⟩
