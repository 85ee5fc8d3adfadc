/-! the kept image, plays and texts on both sides -/
theorem sM_ne {F : zF} {i k j : Nat} {v : Int32} (h : j ≠ i) : (sM F i k v).2.2.2 j = F.2.2.2 j := by
  show va_up F.2.2.2 i _ j = _
  exact va_up_ne _ _ h
theorem sM_at {F : zF} {i k : Nat} {v : Int32} : (sM F i k v).2.2.2 i k = v := by
  show va_up F.2.2.2 i _ i k = v
  rw [va_up_self]; exact if_pos rfl
theorem sM_ak {F : zF} {i k q : Nat} {v : Int32} (h : q ≠ k) : (sM F i k v).2.2.2 i q = F.2.2.2 i q := by
  show va_up F.2.2.2 i _ i q = _
  rw [va_up_self]; exact if_neg h
/-- numbers of the stage and the reader alone have changed -/
theorem RR.ms {N : Nat} {F F2 : zF} {M M2 : zM} (h : RR N F M) (f1 : F2.1 = F.1) (f2 : F2.2.1 = F.2.1) (f3 : F2.2.2.1 = F.2.2.1) (m1 : M2.1 = M.1) (m2 : ∀ k, (k = 9 ∨ (21 ≤ k ∧ k ≤ 24) ∨ k = 27 ∨ k = 28 ∨ k = 36) → M2.2.2.1 k = M.2.2.1 k) (m3 : M2.2.2.2 25 = M.2.2.2 25) (a0 : F2.2.2.2 0 = F.2.2.2 0) (a5 : F2.2.2.2 5 = F.2.2.2 5) (a47 : M2.2.1 47 = M.2.1 47) (e1 : F2.2.2.2 1 2 = M2.2.1 8) (e3 : F2.2.2.2 3 0 = M2.2.1 46) (e4 : ∀ i, i < 20 → F2.2.2.2 4 i = M2.2.2.1 45 i) : RR N F2 M2 := by
  obtain ⟨⟨hz, hw, hx⟩, hG, hg, s1, s2, s3, s4, s5, s6, s7, s8, s9, s10⟩ := h
  refine ⟨⟨by rw [f1]; exact hz, by rw [f1]; exact hw, fun j hj => ?_⟩, by rw [f1, m1]; exact hG, by rw [m1]; exact hg, fun j hj => ?_, fun j hj => ?_, fun j hj => ?_, fun j hj => ?_, e1, e3, e4, ?_, fun i hi => ?_, fun i hi => ?_⟩
  · unfold xsh
    rw [f1, f2]
    exact hx j hj
  · unfold hdR
    rw [f2, f3, m1, m2 21 (by omega), m2 22 (by omega), m2 23 (by omega), m2 24 (by omega), m3]
    exact s1 j hj
  · rw [m2 22 (by omega)]; exact s2 j hj
  · rw [m2 23 (by omega)]; exact s3 j hj
  · rw [a0, m2 9 (by omega)]; exact s4 j hj
  · unfold kpR
    rw [a5, a47, f1, m2 36 (by omega)]
    exact s8
  · rw [m2 27 (by omega)]; exact s9 i hi
  · rw [m2 28 (by omega)]; exact s10 i hi
theorem RR.ft {N : Nat} {F : zF} {M : zM} (h : RR N F M) : F.2.2.2 1 2 = M.2.1 8 := h.2.2.2.2.2.2.2.1
theorem RR.rn {N : Nat} {F : zF} {M : zM} (h : RR N F M) : F.2.2.2 3 0 = M.2.1 46 := h.2.2.2.2.2.2.2.2.1
theorem RR.tc {N : Nat} {F : zF} {M : zM} (h : RR N F M) : ∀ i, i < 20 → F.2.2.2 4 i = M.2.2.1 45 i := h.2.2.2.2.2.2.2.2.2.1
theorem RR.kp {N : Nat} {F : zF} {M : zM} (h : RR N F M) : kpR N F M := h.2.2.2.2.2.2.2.2.2.2.1
theorem ac_step {N r : Nat} {F : zF} {M : zM} (h : RR N F M) (er : F.2.2.2 3 0 = nI r) (hr : r < 1000) (b : Int32) : RR N (begS F b) (bdS M b) ∧ (begS F b).2.2.2 3 0 = nI (r + 1) := by
  have em : M.2.1 46 = nI r := h.rn.symm.trans er
  have hi : ¬ nI r < 0 := nI_pos (by omega)
  by_cases q : r < 20
  · have h20 : nI r < 20 := nI_lt (b := 20) q (by omega)
    have e1 : begS F b = sM (sM F 4 r b) 3 0 (nI (r + 1)) := by
      unfold begS
      rw [er, if_pos (inR_t hi h20), nI_clamp (by omega)]
      show sM (sM F 4 r b) 3 0 ((sM F 4 r b).2.2.2 3 0 + 1) = _
      rw [sM_ne (show (3 : Nat) ≠ 4 by decide), er, nI_1]
    have e2 : bdS M b = mI (mA M 45 r b) 46 (nI (r + 1)) := by
      unfold bdS
      rw [em, if_pos h20, nI_clamp (by omega), nI_1]
    rw [e1, e2]
    refine ⟨h.ms rfl rfl rfl rfl (fun k hk => mA_ne (by omega)) rfl ?_ ?_ (mI_ne (by decide)) ?_ ?_ (fun i hi => ?_), sM_at⟩
    · rw [sM_ne (by decide), sM_ne (by decide)]
    · rw [sM_ne (by decide), sM_ne (by decide)]
    · rw [sM_ne (by decide), sM_ne (by decide), mI_ne (by decide)]; exact h.ft
    · rw [sM_at, mI_at]
    · show (sM (sM F 4 r b) 3 0 (nI (r + 1))).2.2.2 4 i = (mA M 45 r b).2.2.1 45 i
      rw [sM_ne (by decide)]
      by_cases z : i = r
      · subst z; rw [sM_at, mA_at]
      · rw [sM_ak z, mA_aj z]; exact h.tc i hi
  · have h20 : ¬ nI r < 20 := nI_nlt (a := r) (b := 20) (by omega) (by omega)
    have e1 : begS F b = sM F 3 0 (nI (r + 1)) := by
      unfold begS
      rw [er, if_neg (by rw [inR_f2 (Int32.not_lt.mp h20)]; decide)]
      show sM F 3 0 (F.2.2.2 3 0 + 1) = _
      rw [er, nI_1]
    have e2 : bdS M b = mI M 46 (nI (r + 1)) := by
      unfold bdS
      rw [em, if_neg h20, nI_1]
    rw [e1, e2]
    refine ⟨h.ms rfl rfl rfl rfl (fun k hk => rfl) rfl ?_ ?_ (mI_ne (by decide)) ?_ ?_ (fun i hi => ?_), sM_at⟩
    · rw [sM_ne (by decide)]
    · rw [sM_ne (by decide)]
    · rw [sM_ne (by decide), mI_ne (by decide)]; exact h.ft
    · rw [sM_at, mI_at]
    · rw [sM_ne (by decide)]; exact h.tc i hi
theorem ac_list {N : Nat} : ∀ {L : List Int32} {r : Nat} {F : zF} {M : zM}, RR N F M → F.2.2.2 3 0 = nI r → r + L.length < 1000 → RR N (begL F L) (bdL M L)
  | [], r, F, M, h, _, _ => h
  | b :: L, r, F, M, h, er, hr => by
    have hr2 : r + (L.length + 1) < 1000 := hr
    obtain ⟨h1, h2⟩ := ac_step h er (by omega) b
    exact ac_list (L := L) h1 h2 (by omega)
theorem rbO_len {k0 : Nat} {m k : Int32} {r : Nat → Nat → Int32 → List Int32 × Int32} {B : Nat} (hr : ∀ a b c, (r a b c).1.length + 1 ≤ B) {o mv : Nat} {x : Int32} : (rbO k0 m k r o mv x).1.length + 1 ≤ 2 * B := by
  have hB := hr 0 0 0
  unfold rbO
  split
  · show 1 + 1 ≤ 2 * B; omega
  split
  · have := hr k0 0 x
    show (r k0 0 x).1.length + 1 + 1 ≤ 2 * B; omega
  split
  · have h1 := hr k0 1 x
    have h2 := hr k0 0 (x - k)
    show ((r k0 1 x).1 ++ (r k0 0 (x - k)).1).length + 1 + 1 ≤ 2 * B
    rw [List.length_append]; omega
  split
  · have := hr (abN o) 0 x
    show (r (abN o) 0 x).1.length + 1 + 1 ≤ 2 * B; omega
  split
  · have := hr (abN o) 1 x
    show (r (abN o) 1 x).1.length + 1 + 1 ≤ 2 * B; omega
  split
  · have := hr (abN o) 1 (x + 1)
    show (r (abN o) 1 (x + 1)).1.length + 1 + 1 ≤ 2 * B; omega
  split
  · have := hr (abN o) 2 x
    show (r (abN o) 2 x).1.length + 1 + 1 ≤ 2 * B; omega
  split
  · have := hr (abN o) 0 x
    show (r (abN o) 0 x).1.length + 1 + 1 ≤ 2 * B; omega
  split
  · have := hr (abN o) 2 x
    show (r (abN o) 2 x).1.length + 1 + 1 ≤ 2 * B; omega
  split
  · have := hr (abN o) 0 x
    show (r (abN o) 0 x).1.length + 1 + 1 ≤ 2 * B; omega
  · have := hr (abN o) 1 (x - k)
    show (r (abN o) 1 (x - k)).1.length + 1 + 1 ≤ 2 * B; omega
theorem rb_len {k0 : Nat} {m k : Int32} : ∀ {n : Nat} {f mv : Nat} {x : Int32}, (rb k0 m k n f mv x).1.length + 1 ≤ 2 ^ n
  | 0, _, _, _ => Nat.le_refl _
  | n + 1, f, mv, x => by
    have h := rbO_len (k0 := k0) (m := m) (k := k) (r := rb k0 m k n) (B := 2 ^ n) (fun a b c => rb_len (n := n)) (o := fnd 3 f mv) (mv := mv) (x := x)
    rw [Nat.pow_succ, Nat.mul_comm]
    exact h
theorem actR_len {g : zGc} {p mv x : Int32} : (actR g p mv x).1.length < 300 := by
  unfold actR
  split
  · have h := rb_len (k0 := (g.2.1 p.toNatClampNeg 0).toNatClampNeg) (m := p) (k := g.2.1 p.toNatClampNeg 1) (n := 8) (f := (g.2.1 p.toNatClampNeg 0).toNatClampNeg) (mv := mv.toNatClampNeg) (x := x)
    have : 2 ^ 8 = 256 := rfl
    omega
  · show 0 < 300; omega
theorem e_actR {a b : zGc} (h : eqv a b) (hz : gz b) {p mv x : Int32} : actR a p mv x = actR b p mv x := by
  unfold actR
  rw [h.1 0 (by omega)]
  by_cases c : inR p (b.1 0) = true ∧ inR mv 3 = true
  · rw [if_pos c, if_pos c]
    have c1 := c.1
    rw [hz.1.1] at c1
    obtain ⟨j, hj, ej⟩ := inR_of c1 (by have := hz.1.2; omega)
    rw [ej, nI_clamp (by have := hz.1.2; omega), h.2.1 j hj 0 (by omega), h.2.1 j hj 1 (by omega)]
  · rw [if_neg c, if_neg c]
theorem st_act {N : Nat} {F F2 : zF} {M M2 : zM} {r1 r2 : Option Value} (h : RR N F M) (hN : N ≤ 98000000) {p mv x : Int32} (hx : (fun v F2 => v = some (.int (actR (F.1 0).1 p mv x).2) ∧ ∃ F1, st0 F F1 ∧ F2 = begL F1 (actR (F.1 0).1 p mv x).1) r1 F2) (hm : (fun v M2 => v = some (.int (actR M.1 p mv x).2) ∧ M2 = bdL (mI M 46 0) (actR M.1 p mv x).1) r2 M2) : r1 = r2 ∧ RR (N) F2 M2 := by
  have ge := h.2.1
  have hz := h.z
  have hg := h.2.2.1
  obtain ⟨x1, F1, x2, x3⟩ := hx
  obtain ⟨m1, m2⟩ := hm
  rw [x1, m1, x3, m2, e_actR ge hz]
  refine ⟨rfl, ?_⟩
  obtain ⟨a1, a2, a3, a4, a5⟩ := x2
  have h1 : RR N F1 (mI M 46 0) := by
    refine h.ms a1 a2 a3 rfl (fun k hk => rfl) rfl (a4 0 (by decide)) (a4 5 (by decide)) (mI_ne (by decide)) ?_ ?_ (fun i hi => ?_)
    · rw [a4 1 (by decide), mI_ne (by decide)]; exact h.ft
    · rw [a5, mI_at]
    · rw [a4 4 (by decide)]; exact h.tc i hi
  exact ac_list (r := 0) h1 (by rw [a5]; rfl) (by have := actR_len (g := M.1) (p := p) (mv := mv) (x := x); omega)
theorem img_R {N : Nat} {F : zF} {M : zM} (h : RR N F M) : RR N (sM (sG F 2 (layG (F.1 0).1 (F.1 2).1, (F.1 2).2)) 5 0 1) (mT (mI M 47 1) 36 (pkN (M.2.2.1 36) M.1 74)) := by
  have hz := h.z
  obtain ⟨⟨hz0, hw, hx⟩, hG, hg, s1, s2, s3, s4, s5, s6, s7, s8, s9, s10⟩ := h
  have e0 : (sM (sG F 2 (layG (F.1 0).1 (F.1 2).1, (F.1 2).2)) 5 0 1).1 0 = F.1 0 := sG_ne F (layG (F.1 0).1 (F.1 2).1, (F.1 2).2) (show (0 : Nat) ≠ 2 by decide)
  have e2 : (sM (sG F 2 (layG (F.1 0).1 (F.1 2).1, (F.1 2).2)) 5 0 1).1 2 = (layG (F.1 0).1 (F.1 2).1, (F.1 2).2) := by
    show va_up F.1 2 (layG (F.1 0).1 (F.1 2).1, (F.1 2).2) 2 = _
    exact va_up_self _ _ _
  have ma : ∀ k, k ≠ 36 → (mT (mI M 47 1) 36 (pkN (M.2.2.1 36) M.1 74)).2.2.1 k = M.2.2.1 k := fun k hk => by
    show va_up M.2.2.1 36 _ k = _
    exact va_up_ne _ _ hk
  have mi : ∀ k, k ≠ 47 → (mT (mI M 47 1) 36 (pkN (M.2.2.1 36) M.1 74)).2.1 k = M.2.1 k := fun k hk => by
    show upd M.2.1 47 1 k = _
    exact pk_un hk
  have fa : ∀ i, i ≠ 5 → (sM (sG F 2 (layG (F.1 0).1 (F.1 2).1, (F.1 2).2)) 5 0 1).2.2.2 i = F.2.2.2 i := fun i hi => by
    rw [sM_ne hi]; rfl
  refine ⟨⟨by rw [e0]; exact hz0, by rw [e0]; exact hw, fun j hj => ?_⟩, by rw [e0]; exact hG, hg, fun j hj => ?_, fun j hj => ?_, fun j hj => ?_, fun j hj => ?_, ?_, ?_, fun i hi => ?_, ⟨?_, fun _ => ⟨M.1, hz, hg, ?_, fun q hq => ?_⟩⟩, fun i hi => ?_, fun i hi => ?_⟩
  · unfold xsh
    rw [e0]
    exact hx j hj
  · unfold hdR
    rw [ma 21 (by decide), ma 22 (by decide), ma 23 (by decide), ma 24 (by decide)]
    exact s1 j hj
  · rw [ma 22 (by decide)]; exact s2 j hj
  · rw [ma 23 (by decide)]; exact s3 j hj
  · rw [fa 0 (by decide), ma 9 (by decide)]; exact s4 j hj
  · rw [fa 1 (by decide), mi 8 (by decide)]; exact s5
  · rw [fa 3 (by decide), mi 46 (by decide)]; exact s6
  · rw [fa 4 (by decide), ma 45 (by decide)]; exact s7 i hi
  · rw [sM_at]
    show _ = upd M.2.1 47 1 47
    exact (if_pos rfl).symm
  · rw [e2]; exact (lay_eqv _ _).tr hG
  · show va_up M.2.2.1 36 _ 36 q = _
    rw [va_up_self]
    exact pkN_at hq
  · rw [ma 27 (by decide)]; exact s9 i hi
  · rw [ma 28 (by decide)]; exact s10 i hi
def hdB (n : Nat) (F : zF) (M : zM) (j : Nat) : Prop := (M.2.2.1 21 j = 0 ∧ F.2.1 j 0 = -1) ∨ (M.2.2.1 21 j = 2 ∧ ∃ p, p < n ∧ M.2.2.1 24 j = nI p ∧ F.2.1 j 0 = nI p) ∨ (M.2.2.1 21 j = 1 ∧ F.2.1 j 0 = 100 + M.2.2.1 22 j ∧ F.2.1 j 1 = M.2.2.1 23 j ∧ ∀ i, i < 160 → F.2.2.1 j i = M.2.2.2 25 (160 * j + i))
/-- the shelves after j of them have been looked at -/
def rsR (m : Nat) (j : Nat) (F : zF) (M : zM) : Prop := (∀ i, i < 8 → (i < j → hdB m F M i) ∧ (j ≤ i → hdB 6 F M i)) ∧ (∀ i, i < 8 → ∃ o, o < 4 ∧ M.2.2.1 22 i = nI o) ∧ (∀ i, i < 8 → ∃ n, n ≤ 160 ∧ F.2.1 i 1 = nI n)
theorem resS_2 {F : zF} {j : Nat} : (resS F j).1 = F.1 ∧ (resS F j).2.2 = F.2.2 := by unfold resS; split <;> exact ⟨rfl, rfl⟩
theorem resN_2 {F : zF} : ∀ {j : Nat}, (resN F j).1 = F.1 ∧ (resN F j).2.2 = F.2.2
  | 0 => ⟨rfl, rfl⟩
  | j + 1 => ⟨(resS_2 (F := resN F j) (j := j)).1.trans (resN_2 (j := j)).1, (resS_2 (F := resN F j) (j := j)).2.trans (resN_2 (j := j)).2⟩
theorem rsS_2 {M : zM} {j : Nat} : (rsS M j).1 = M.1 ∧ (rsS M j).2.1 = M.2.1 ∧ (∀ k, k ≠ 21 → (rsS M j).2.2.1 k = M.2.2.1 k) ∧ (rsS M j).2.2.2 = M.2.2.2 := by
  unfold rsS
  split
  · exact ⟨rfl, rfl, fun k hk => mA_ne hk, rfl⟩
  · exact ⟨rfl, rfl, fun k hk => rfl, rfl⟩
theorem rsM_2 {M : zM} : ∀ {j : Nat}, (rsM M j).1 = M.1 ∧ (rsM M j).2.1 = M.2.1 ∧ (∀ k, k ≠ 21 → (rsM M j).2.2.1 k = M.2.2.1 k) ∧ (rsM M j).2.2.2 = M.2.2.2
  | 0 => ⟨rfl, rfl, fun _ _ => rfl, rfl⟩
  | j + 1 => by
    obtain ⟨a1, a2, a3, a4⟩ := rsS_2 (M := rsM M j) (j := j)
    obtain ⟨b1, b2, b3, b4⟩ := rsM_2 (M := M) (j := j)
    exact ⟨a1.trans b1, a2.trans b2, fun k hk => (a3 k hk).trans (b3 k hk), a4.trans b4⟩
theorem rs_step {m j : Nat} {F : zF} {M : zM} (hj : j < 8) (h : rsR m j F M) (hm : m ≤ 6) (e1 : (F.1 0).1.1 0 = nI m) (e2 : M.1.1 0 = nI m) : rsR m (j + 1) (resS F j) (rsS M j) := by
  obtain ⟨h1, h2, h3⟩ := h
  have same : hdB m F M j → (resS F j = F) → (rsS M j = M) → rsR m (j + 1) (resS F j) (rsS M j) := by
    intro hb q1 q2
    rw [q1, q2]
    refine ⟨fun i hi => ⟨fun z => ?_, fun z => (h1 i hi).2 (by omega)⟩, h2, h3⟩
    by_cases e : i = j
    · subst e; exact hb
    · exact (h1 i hi).1 (by omega)
  rcases (h1 j hj).2 (Nat.le_refl _) with ⟨e, a⟩ | ⟨e, p, p1, p2, p3⟩ | ⟨e, a1, a2, a3⟩
  · refine same (Or.inl ⟨e, a⟩) ?_ ?_
    · unfold resS; rw [a]; exact if_neg (fun z => absurd z.1 (by decide))
    · unfold rsS; rw [e]; exact if_neg (fun z => absurd z.1 (by decide))
  · by_cases hp : p < m
    · refine same (Or.inr (Or.inl ⟨e, p, hp, p2, p3⟩)) ?_ ?_
      · unfold resS; rw [p3, e1, inR_nI hp (by omega)]; exact if_neg (fun z => absurd z.2 (by decide))
      · unfold rsS; rw [p2, e2]; exact if_neg (fun z => absurd z.2 (nI_ge hp (by omega)))
    · have q1 : resS F j = sV (sV F j 0 (-1)) j 1 0 := by
        unfold resS
        rw [p3, e1]
        exact if_pos ⟨hShop_nI p1, inR_f2 (nI_le (by omega) (by omega))⟩
      have q2 : rsS M j = mA M 21 j 0 := by
        unfold rsS
        rw [e, p2, e2]
        exact if_pos ⟨rfl, nI_le (by omega) (by omega)⟩
      rw [q1, q2]
      have ne : ∀ n i, i ≠ j → hdB n F M i → hdB n (sV (sV F j 0 (-1)) j 1 0) (mA M 21 j 0) i := by
        intro n i hij hb
        unfold hdB
        rw [sV_ne hij, sV_ne hij, mA_aj hij, mA_ne (show (22 : Nat) ≠ 21 by decide), mA_ne (show (23 : Nat) ≠ 21 by decide), mA_ne (show (24 : Nat) ≠ 21 by decide)]
        exact hb
      refine ⟨fun i hi => ⟨fun z => ?_, fun z => ?_⟩, fun i hi => ?_, fun i hi => ?_⟩
      · by_cases e : i = j
        · subst e
          refine Or.inl ⟨mA_at, ?_⟩
          rw [sV_ak (by decide), sV_at]
        · exact ne _ i e ((h1 i hi).1 (by omega))
      · exact ne _ i (by omega) ((h1 i hi).2 (by omega))
      · rw [mA_ne (by decide)]; exact h2 i hi
      · by_cases e : i = j
        · subst e; exact ⟨0, by omega, by rw [sV_at]; rfl⟩
        · rw [sV_ne e, sV_ne e]; exact h3 i hi
  · obtain ⟨o, ho, eo⟩ := h2 j hj
    have e5 : F.2.1 j 0 = nI (100 + o) := by rw [a1, eo]; exact nI_add 100 o
    refine same (Or.inr (Or.inr ⟨e, a1, a2, a3⟩)) ?_ ?_
    · unfold resS; rw [e5, (hShop_row ho).1]; exact if_neg (fun z => absurd z.1 (by decide))
    · unfold rsS; rw [e]; exact if_neg (fun z => absurd z.1 (by decide))
theorem rs_all {m : Nat} {F : zF} {M : zM} (h : rsR m 0 F M) (hm : m ≤ 6) (e1 : (F.1 0).1.1 0 = nI m) (e2 : M.1.1 0 = nI m) : ∀ {j : Nat}, j ≤ 8 → rsR m j (resN F j) (rsM M j)
  | 0, _ => h
  | j + 1, hj => rs_step (by omega) (rs_all h hm e1 e2 (j := j) (by omega)) hm (by rw [resN_2.1]; exact e1) (by rw [rsM_2.1]; exact e2)
theorem res_R {N : Nat} {F : zF} {M : zM} (h : RR N F M) (h0 : ¬ M.2.1 47 = 0) : RR N (resN (sG F 0 (layG (F.1 2).1 (F.1 0).1, (F.1 0).2)) 8) (rsM (mG M (bkN M.1 (M.2.2.1 36) 74)) 8) ∧ (F.1 2).1.1 0 = M.2.2.1 36 66 := by
  have hz := h.z
  obtain ⟨g, g1, g2, g3, g4⟩ := h.kp.2 h0
  obtain ⟨⟨hz0, hw, hx⟩, hG, hg, s1, s2, s3, s4, s5, s6, s7, s8, s9, s10⟩ := h
  have eL : eqv (layG (F.1 2).1 (F.1 0).1) g := (lay_eqv _ _).tr g3
  have eB : eqv (bkN M.1 (M.2.2.1 36) 74) g := bk_eqv g1 g4
  generalize eA : sG F 0 (layG (F.1 2).1 (F.1 0).1, (F.1 0).2) = A
  generalize eC : mG M (bkN M.1 (M.2.2.1 36) 74) = C
  have a0 : A.1 0 = (layG (F.1 2).1 (F.1 0).1, (F.1 0).2) := by
    rw [← eA]
    show va_up F.1 0 _ 0 = _
    exact va_up_self _ _ _
  have a2 : A.1 2 = F.1 2 := by rw [← eA]; exact sG_ne F _ (show (2 : Nat) ≠ 0 by decide)
  have a3 : A.2 = F.2 := by rw [← eA]; rfl
  have c1 : C.1 = bkN M.1 (M.2.2.1 36) 74 := by rw [← eC]; rfl
  have c2 : C.2 = M.2 := by rw [← eC]; rfl
  have hS6 := hz.1.2
  have st : rsR (nS g) 0 A C := by
    refine ⟨fun i hi => ⟨fun z => absurd z (Nat.not_lt_zero _), fun _ => ?_⟩, fun i hi => ?_, fun i hi => ?_⟩
    · unfold hdB
      rw [a3, c2]
      rcases s1 i hi with z | ⟨z, p, z1, z2⟩ | z
      · exact Or.inl z
      · exact Or.inr (Or.inl ⟨z, p, by omega, z2⟩)
      · exact Or.inr (Or.inr z)
    · rw [c2]; exact s2 i hi
    · rw [a3]; exact (hx i hi).1
  obtain ⟨r1, r2, r3⟩ := rs_all st g1.1.2 (by rw [a0]; exact (eL.1 0 (by omega)).trans g1.1.1) (by rw [c1]; exact (eB.1 0 (by omega)).trans g1.1.1) (Nat.le_refl 8)
  obtain ⟨b1, b2⟩ := resN_2 (F := A) (j := 8)
  obtain ⟨d1, d2, d3, d4⟩ := rsM_2 (M := C) (j := 8)
  have eg : eqv ((resN A 8).1 0).1 (rsM C 8).1 := by
    rw [b1, d1, a0, c1]
    exact eL.tr eB.sm
  have hgz : gz (rsM C 8).1 := by rw [d1, c1]; exact eB.z g1
  have hgr : rg N (rsM C 8).1 := by rw [d1, c1]; exact g2.e eB
  have hnS : nS (rsM C 8).1 = nS g := by rw [d1, c1]; exact eB.S
  refine ⟨⟨⟨eg.z hgz, rg_wn (hgr.e eg), fun j hj => ⟨r3 j hj, ?_⟩⟩, eg, hgr, fun j hj => ?_, r2, fun j hj => ?_, fun j hj => ?_, ?_, ?_, fun i hi => ?_, ?_, fun i hi => ?_, fun i hi => ?_⟩, ?_⟩
  · rcases (r1 j hj).1 hj with ⟨z, z1⟩ | ⟨z, p, z1, z2, z3⟩ | ⟨z, z1, z2⟩
    · exact Or.inl z1
    · exact Or.inr (Or.inl ⟨p, by rw [eg.S, hnS]; exact z1, z3⟩)
    · obtain ⟨o, ho, eo⟩ := r2 j hj
      exact Or.inr (Or.inr ⟨o, ho, by rw [z1, eo]; exact nI_add 100 o⟩)
  · rcases (r1 j hj).1 hj with z | ⟨z, p, z1, z2⟩ | z
    · exact Or.inl z
    · exact Or.inr (Or.inl ⟨z, p, by rw [hnS]; exact z1, z2⟩)
    · exact Or.inr (Or.inr z)
  · rw [d3 23 (by decide), c2]; exact s3 j hj
  · rw [b2, d3 9 (by decide), a3, c2]; exact s4 j hj
  · rw [b2, d2, a3, c2]; exact s5
  · rw [b2, d2, a3, c2]; exact s6
  · rw [b2, d3 45 (by decide), a3, c2]; exact s7 i hi
  · unfold kpR
    rw [b2, d2, d3 36 (by decide), b1, a2, a3, c2]
    exact s8
  · rw [d3 27 (by decide), c2]; exact s9 i hi
  · rw [d3 28 (by decide), c2]; exact s10 i hi
  · rw [g4 66 (by omega), g3.1 0 (by omega)]
    rfl
theorem st_image {N : Nat} {F F2 : zF} {M M2 : zM} {r1 r2 : Option Value} (h : RR N F M) (hN : N ≤ 98000000) (hx : (fun v F2 => v = some (.int ((F.1 0).1.1 0)) ∧ F2 = sM (sG F 2 (layG (F.1 0).1 (F.1 2).1, (F.1 2).2)) 5 0 1) r1 F2) (hm : (fun v M2 => v = some (.int (M.1.1 0)) ∧ M2 = mT (mI M 47 1) 36 (pkN (M.2.2.1 36) M.1 74)) r2 M2) : r1 = r2 ∧ RR (N) F2 M2 := by
  have ge := h.2.1
  have hz := h.z
  have hg := h.2.2.1
  obtain ⟨x1, x2⟩ := hx
  obtain ⟨m1, m2⟩ := hm
  rw [x1, m1, x2, m2]
  exact ⟨by rw [ge.1 0 (by omega)], img_R h⟩
theorem st_restore {N : Nat} {F F2 : zF} {M M2 : zM} {r1 r2 : Option Value} (h : RR N F M) (hN : N ≤ 98000000) (hx : (xpo F (if F.2.2.2 5 0 = 0 then -6 else 0) ((F.1 2).1.1 0) (fun F2 => F2 = resN (sG F 0 (layG (F.1 2).1 (F.1 0).1, (F.1 0).2)) 8)) r1 F2) (hm : (mpo M (if M.2.1 47 = 0 then -6 else 0) (M.2.2.1 36 66) (fun M2 => M2 = rsM (mG M (bkN M.1 (M.2.2.1 36) 74)) 8)) r2 M2) : r1 = r2 ∧ RR (N) F2 M2 := by
  have ge := h.2.1
  have hz := h.z
  have hg := h.2.2.1
  have ek := h.kp.1
  rw [ek] at hx
  have hok : okK (if M.2.1 47 = 0 then -6 else 0) := by
    split
    · exact Or.inr (by decide)
    · exact Or.inl rfl
  have hn : (if M.2.1 47 = 0 then (-6 : Int32) else 0) = 0 → ¬ M.2.1 47 = 0 := fun h0 z => by rw [if_pos z] at h0; exact absurd h0 (by decide)
  refine h.po (Nat.le_refl _) rfl hok hx hm (fun h0 => (res_R h (hn h0)).2) (fun h0 e1 e2 => ?_)
  have e1 : F2 = _ := e1
  have e2 : M2 = _ := e2
  rw [e1, e2]
  exact (res_R h (hn h0)).1
