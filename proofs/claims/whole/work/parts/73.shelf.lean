/-! the shelves on both sides -/
theorem RR.cs {N : Nat} {F : zF} {M : zM} (h : RR N F M) {j : Nat} (hj : j < 8) : (M.2.2.1 21 j = 0 ∧ F.2.1 j 0 = -1 ∧ hShop (F.2.1 j 0) = false ∧ hRow (F.2.1 j 0) = false) ∨ (M.2.2.1 21 j = 2 ∧ hShop (F.2.1 j 0) = true ∧ hRow (F.2.1 j 0) = false ∧ ∃ p, p < nS M.1 ∧ M.2.2.1 24 j = nI p ∧ F.2.1 j 0 = nI p) ∨ (M.2.2.1 21 j = 1 ∧ hShop (F.2.1 j 0) = false ∧ hRow (F.2.1 j 0) = true ∧ F.2.1 j 0 = 100 + M.2.2.1 22 j ∧ F.2.1 j 1 = M.2.2.1 23 j ∧ ∀ i, i < 160 → F.2.2.1 j i = M.2.2.2 25 (160 * j + i)) := by
  have hz := h.z
  rcases h.2.2.2.1 j hj with ⟨e, e2⟩ | ⟨e, p, e1, e2, e3⟩ | ⟨e, e2, e3, e4⟩
  · exact Or.inl ⟨e, e2, by rw [e2]; decide, by rw [e2]; decide⟩
  · have := hz.1.2
    exact Or.inr (Or.inl ⟨e, by rw [e3]; exact hShop_nI (by omega), by rw [e3]; exact hRow_nI (by omega), p, e1, e2, e3⟩)
  · obtain ⟨o, ho, eo⟩ := h.2.2.2.2.1 j hj
    have e5 : F.2.1 j 0 = nI (100 + o) := by rw [e2, eo]; exact nI_add 100 o
    exact Or.inr (Or.inr ⟨e, by rw [e5]; exact (hShop_row ho).1, by rw [e5]; exact (hShop_row ho).2, e2, e3, e4⟩)
theorem RR.tr {N : Nat} {F : zF} {M : zM} (h : RR N F M) {s : Int32} : rTr F s = wtd M s := by
  unfold rTr wtd
  by_cases a : inR s 8 = true
  · rw [if_pos a, if_pos a]
    obtain ⟨j, hj, ej⟩ := inR_of (n := 8) a (by omega)
    rw [ej, nI_clamp (by omega)]
    unfold sTr
    rcases h.cs hj with ⟨e, -, e2, e3⟩ | ⟨e, e2, e3, -⟩ | ⟨e, e2, e3, -⟩
    · rw [e2, e3, e]; rfl
    · rw [e2, e]; rfl
    · rw [e2, e3, e]; rfl
  · rw [if_neg a, if_neg a]
theorem RR.w0 {N : Nat} {F : zF} {M : zM} (h : RR N F M) {s : Int32} (hw : wtd M s = 0) : ∃ j len, j < 8 ∧ s = nI j ∧ s.toNatClampNeg = j ∧ M.2.2.1 23 j = nI len ∧ len ≤ 160 ∧ F.2.1 j 1 = nI len ∧ M.2.2.1 21 j = 1 ∧ F.2.1 j 0 = 100 + M.2.2.1 22 j ∧ ∀ i, i < 160 → F.2.2.1 j i = M.2.2.2 25 (160 * j + i) := by
  obtain ⟨j, len, hj, es, el, hl⟩ := wtd_0 h.hsz h.h012 hw
  have ej : s.toNatClampNeg = j := by rw [es]; exact nI_clamp (by omega)
  have hs8 : inR s 8 = true := by rw [es]; exact inR_nI (n := 8) hj (by omega)
  unfold wtd at hw
  rw [if_pos hs8, ej] at hw
  rcases h.cs hj with ⟨e, -⟩ | ⟨e, -⟩ | ⟨e, -, -, e2, e3, e4⟩
  · rw [e] at hw; exact absurd hw (by decide)
  · rw [e] at hw; exact absurd hw (by decide)
  · exact ⟨j, len, hj, es, ej, el, hl, by rw [e3]; exact el, e, e2, e4⟩
theorem RR.tt {N : Nat} {F : zF} {M : zM} (h : RR N F M) {s n : Int32} : tTr F s n = tTrM M s n := by
  unfold tTr tTrM
  rw [h.tr]
  by_cases a : wtd M s = 0
  · obtain ⟨j, len, hj, es, ej, e1, e2, e3, -⟩ := h.w0 a
    rw [if_pos a, if_pos a, ej, e1, e3]
  · rw [if_neg a, if_neg a]
theorem RR.shelf {N : Nat} {F F2 : zF} {M M2 : zM} (h : RR N F M) (j0 : Nat) (f1 : F2.1 = F.1) (f2 : F2.2.2.2 = F.2.2.2) (m1 : M2.1 = M.1) (m2 : M2.2.1 = M.2.1) (m3 : ∀ k, ¬ (21 ≤ k ∧ k ≤ 24) → M2.2.2.1 k = M.2.2.1 k) (hne : ∀ j, j < 8 → j ≠ j0 → F2.2.1 j = F.2.1 j ∧ F2.2.2.1 j = F.2.2.1 j ∧ (∀ k, 21 ≤ k ∧ k ≤ 24 → M2.2.2.1 k j = M.2.2.1 k j) ∧ ∀ i, i < 160 → M2.2.2.2 25 (160 * j + i) = M.2.2.2 25 (160 * j + i)) (h0 : hdR F2 M2 j0) (h1 : ∃ o, o < 4 ∧ M2.2.2.1 22 j0 = nI o) (h2 : ∃ n, n ≤ 160 ∧ M2.2.2.1 23 j0 = nI n) (h3 : xsh F2 j0) : RR N F2 M2 := by
  obtain ⟨⟨hz, hw, hx⟩, hG, hg, s1, s2, s3, s4, s5, s6, s7, s8, s9, s10⟩ := h
  refine ⟨⟨by rw [f1]; exact hz, by rw [f1]; exact hw, fun j hj => ?_⟩, by rw [f1, m1]; exact hG, by rw [m1]; exact hg, fun j hj => ?_, fun j hj => ?_, fun j hj => ?_, fun j hj => ?_, ?_, ?_, fun i hi => ?_, ?_, fun i hi => ?_, fun i hi => ?_⟩
  · by_cases e : j = j0
    · subst e; exact h3
    · obtain ⟨a1, -⟩ := hne j hj e
      unfold xsh
      rw [a1, f1]
      exact hx j hj
  · by_cases e : j = j0
    · subst e; exact h0
    · obtain ⟨a1, a2, a3, a4⟩ := hne j hj e
      unfold hdR
      rw [a1, a2, a3 21 (by omega), a3 22 (by omega), a3 23 (by omega), a3 24 (by omega), m1]
      rcases s1 j hj with z | z | ⟨z1, z2, z3, z4⟩
      · exact Or.inl z
      · exact Or.inr (Or.inl z)
      · exact Or.inr (Or.inr ⟨z1, z2, z3, fun i hi => (z4 i hi).trans (a4 i hi).symm⟩)
  · by_cases e : j = j0
    · subst e; exact h1
    · rw [(hne j hj e).2.2.1 22 (by omega)]; exact s2 j hj
  · by_cases e : j = j0
    · subst e; exact h2
    · rw [(hne j hj e).2.2.1 23 (by omega)]; exact s3 j hj
  · rw [f2, m3 9 (by omega)]; exact s4 j hj
  · rw [f2, m2]; exact s5
  · rw [f2, m2]; exact s6
  · rw [f2, m3 45 (by omega)]; exact s7 i hi
  · unfold kpR
    rw [f2, m2, f1, m3 36 (by omega)]
    exact s8
  · rw [m3 27 (by omega)]; exact s9 i hi
  · rw [m3 28 (by omega)]; exact s10 i hi
theorem sV_ne {F : zF} {i k j : Nat} {v : Int32} (h : j ≠ i) : (sV F i k v).2.1 j = F.2.1 j := by
  show va_up F.2.1 i _ j = _
  exact va_up_ne _ _ h
theorem sE_ne {F : zF} {i j : Nat} {f : Nat → Int64} (h : j ≠ i) : (sE F i f).2.2.1 j = F.2.2.1 j := by
  show va_up F.2.2.1 i _ j = _
  exact va_up_ne _ _ h
theorem sE_at {F : zF} {i : Nat} {f : Nat → Int64} : (sE F i f).2.2.1 i = f := by
  show va_up F.2.2.1 i f i = f
  exact va_up_self _ _ _
theorem mJ_at {M : zM} {k : Nat} {f : Nat → Int64} : (mJ M k f).2.2.2 k = f := by
  show va_up M.2.2.2 k f k = f
  exact va_up_self _ _ _
theorem mA_at {M : zM} {a j : Nat} {v : Int32} : (mA M a j v).2.2.1 a j = v := by
  show va_up M.2.2.1 a _ a j = v
  rw [va_up_self]; exact if_pos rfl
theorem mA_aj {M : zM} {a j i : Nat} {v : Int32} (h : i ≠ j) : (mA M a j v).2.2.1 a i = M.2.2.1 a i := by
  show va_up M.2.2.1 a _ a i = _
  rw [va_up_self]; exact if_neg h
theorem sV_at {F : zF} {i k : Nat} {v : Int32} : (sV F i k v).2.1 i k = v := by
  show va_up F.2.1 i _ i k = v
  rw [va_up_self]; exact if_pos rfl
theorem sV_ak {F : zF} {i k q : Nat} {v : Int32} (h : q ≠ k) : (sV F i k v).2.1 i q = F.2.1 i q := by
  show va_up F.2.1 i _ i q = _
  rw [va_up_self]; exact if_neg h
theorem lay_R {N : Nat} {F : zF} {M : zM} (h : RR N F M) {j o n : Nat} (hj : j < 8) (ho : o < 4) (hn : n ≤ 160) : RR N (xLay F j (nI o) (nI n)) (mLay M j (nI o) (nI n)) := by
  have e21 : (mLay M j (nI o) (nI n)).2.2.1 21 = (mA M 21 j 1).2.2.1 21 := by
    show (mA (mA (mA M 21 j 1) 22 j (nI o)) 23 j (nI n)).2.2.1 21 = _
    rw [mA_ne (by decide), mA_ne (by decide)]
  have e22 : (mLay M j (nI o) (nI n)).2.2.1 22 = (mA (mA M 21 j 1) 22 j (nI o)).2.2.1 22 := by
    show (mA (mA (mA M 21 j 1) 22 j (nI o)) 23 j (nI n)).2.2.1 22 = _
    rw [mA_ne (by decide)]
  have e23 : (mLay M j (nI o) (nI n)).2.2.1 23 = (mA (mA (mA M 21 j 1) 22 j (nI o)) 23 j (nI n)).2.2.1 23 := rfl
  have e25 : (mLay M j (nI o) (nI n)).2.2.2 25 = flN (M.2.2.2 25) (160 * j) 160 := mJ_at
  have f0 : (xLay F j (nI o) (nI n)).2.1 j 0 = 100 + nI o := by
    show (sV (sV F j 0 (100 + nI o)) j 1 (nI n)).2.1 j 0 = _
    rw [sV_ak (by decide), sV_at]
  have f1 : (xLay F j (nI o) (nI n)).2.1 j 1 = nI n := by
    show (sV (sV F j 0 (100 + nI o)) j 1 (nI n)).2.1 j 1 = _
    rw [sV_at]
  refine h.shelf j rfl rfl rfl rfl (fun k hk => ?_) (fun i hi hij => ⟨?_, ?_, fun k hk => ?_, fun q hq => ?_⟩) (Or.inr (Or.inr ⟨?_, ?_, ?_, fun i hi => ?_⟩)) ⟨o, ho, ?_⟩ ⟨n, hn, ?_⟩ ⟨⟨n, hn, f1⟩, Or.inr (Or.inr ⟨o, ho, by rw [f0]; exact nI_add 100 o⟩)⟩
  · show (mA (mA (mA M 21 j 1) 22 j (nI o)) 23 j (nI n)).2.2.1 k = _
    rw [mA_ne (by omega), mA_ne (by omega), mA_ne (by omega)]
  · show (sV (sV F j 0 (100 + nI o)) j 1 (nI n)).2.1 i = _
    rw [sV_ne hij, sV_ne hij]
  · show (sE (sV (sV F j 0 (100 + nI o)) j 1 (nI n)) j _).2.2.1 i = _
    rw [sE_ne hij]; rfl
  · have hk2 : k = 21 ∨ k = 22 ∨ k = 23 ∨ k = 24 := by omega
    rcases hk2 with rfl | rfl | rfl | rfl
    · rw [e21, mA_aj hij]
    · rw [e22, mA_aj hij, mA_ne (by decide)]
    · rw [e23, mA_aj hij, mA_ne (by decide), mA_ne (by decide)]
    · show (mA (mA (mA M 21 j 1) 22 j (nI o)) 23 j (nI n)).2.2.1 24 i = _
      rw [mA_ne (by decide), mA_ne (by decide), mA_ne (by decide)]
  · rw [e25]
    exact if_neg (by omega)
  · rw [e21, mA_at]
  · rw [f0, e22, mA_at]
  · rw [f1, e23, mA_at]
  · rw [e25]
    show (sE (sV (sV F j 0 (100 + nI o)) j 1 (nI n)) j (fillN 160 _ 0)).2.2.1 j i = _
    rw [sE_at]
    exact (if_pos hi).trans (if_pos (by omega)).symm
  · rw [e22, mA_at]
  · rw [e23, mA_at]
theorem wtd_cs {M : zM} {s : Int32} : wtd M s = 0 ∨ wtd M s = -1 ∨ wtd M s = -2 ∨ wtd M s = -3 := by
  unfold wtd
  split
  · split
    · exact Or.inr (Or.inr (Or.inl rfl))
    · split
      · exact Or.inr (Or.inr (Or.inr rfl))
      · exact Or.inl rfl
  · exact Or.inr (Or.inl rfl)
theorem set_R {N : Nat} {F : zF} {M : zM} (h : RR N F M) {j i : Nat} {v : Int64} (hj : j < 8) (e1 : M.2.2.1 21 j = 1) (e2 : F.2.1 j 0 = 100 + M.2.2.1 22 j) (e4 : ∀ i, i < 160 → F.2.2.1 j i = M.2.2.2 25 (160 * j + i)) (e3 : F.2.1 j 1 = M.2.2.1 23 j) (hi : i < 160) : RR N (sE F j (vp_updL (F.2.2.1 j) i v)) (mJ M 25 (vp_updL (M.2.2.2 25) (160 * j + i) v)) := by
  refine h.shelf j rfl rfl rfl rfl (fun k hk => rfl) (fun q hq hqj => ⟨rfl, sE_ne hqj, fun k hk => rfl, fun x hx => ?_⟩) (Or.inr (Or.inr ⟨e1, e2, e3, fun x hx => ?_⟩)) (h.2.2.2.2.1 j hj) (h.2.2.2.2.2.1 j hj) (h.1.2.2 j hj)
  · rw [mJ_at]
    exact if_neg (by omega)
  · rw [mJ_at, sE_at]
    unfold vp_updL
    by_cases z : x = i
    · rw [if_pos z, if_pos (by omega)]
    · rw [if_neg z, if_neg (by omega)]; exact e4 x hx
theorem ifp0' {t x : Int32} (h : (if ¬ t = 0 then t else x) = 0) : t = 0 ∧ x = 0 := by
  by_cases q : t = 0
  · rw [if_neg (fun z => z q)] at h; exact ⟨q, h⟩
  · rw [if_pos q] at h; exact absurd h q
set_option maxRecDepth 100000 in
theorem of_und : ∀ a, a < 7 → ∀ k, k < 7 → ofN 7 (nI a) (nI k) = (decide (nI k = 0) || decide (nI k = nI a) || und (nI a) (nI k)) := by decide +kernel
theorem show_R {N : Nat} {F : zF} {M : zM} (h : RR N F M) {j : Nat} {p : Int32} (hj : j < 8) (hp : p = -1 ∨ ∃ q, q < nS M.1 ∧ p = nI q) : RR N (sV (sV F j 0 p) j 1 0) (mA (mA M 21 j (if p = -1 then 0 else 2)) 24 j p) := by
  have f0 : (sV (sV F j 0 p) j 1 0).2.1 j 0 = p := by rw [sV_ak (by decide), sV_at]
  have f1 : (sV (sV F j 0 p) j 1 0).2.1 j 1 = 0 := sV_at
  have e21 : (mA (mA M 21 j (if p = -1 then 0 else 2)) 24 j p).2.2.1 21 j = (if p = -1 then 0 else 2) := by rw [mA_ne (by decide), mA_at]
  have e24 : (mA (mA M 21 j (if p = -1 then 0 else 2)) 24 j p).2.2.1 24 j = p := mA_at
  have hS : nS M.1 = nS (F.1 0).1 := h.2.1.S.symm
  have hh : hdR (sV (sV F j 0 p) j 1 0) (mA (mA M 21 j (if p = -1 then 0 else 2)) 24 j p) j := by
    unfold hdR
    rw [e21, e24, f0]
    rcases hp with e | ⟨q, hq, e⟩
    · exact Or.inl ⟨if_pos e, e⟩
    · have : ¬ p = -1 := by
        rw [e]
        intro z
        have h1 := congrArg Int32.toInt z
        rw [nI_toInt (by have := h.z.1.2; omega), show (-1 : Int32).toInt = -1 from rfl] at h1
        omega
      exact Or.inr (Or.inl ⟨if_neg this, q, hq, e, e⟩)
  refine h.shelf j rfl rfl rfl rfl (fun k hk => ?_) (fun i hi hij => ⟨?_, rfl, fun k hk => ?_, fun q hq => rfl⟩) hh ?_ ?_ ⟨⟨0, by omega, f1⟩, ?_⟩
  · rw [mA_ne (by omega), mA_ne (by omega)]
  · rw [sV_ne hij, sV_ne hij]
  · have hk2 : k = 21 ∨ k = 22 ∨ k = 23 ∨ k = 24 := by omega
    rcases hk2 with rfl | rfl | rfl | rfl
    · rw [mA_ne (by decide), mA_aj hij]
    · rw [mA_ne (by decide), mA_ne (by decide)]
    · rw [mA_ne (by decide), mA_ne (by decide)]
    · rw [mA_aj hij, mA_ne (by decide)]
  · rw [mA_ne (by decide), mA_ne (by decide)]; exact h.2.2.2.2.1 j hj
  · rw [mA_ne (by decide), mA_ne (by decide)]; exact h.2.2.2.2.2.1 j hj
  · rw [f0]
    rcases hp with e | ⟨q, hq, e⟩
    · exact Or.inl e
    · exact Or.inr (Or.inl ⟨q, by show q < nS (F.1 0).1; rw [← hS]; exact hq, e⟩)
theorem st_row {N : Nat} {F F2 : zF} {M M2 : zM} {r1 r2 : Option Value} (h : RR N F M) (hN : N ≤ 98000000) {s o n : Int32} (hx : (xpo F (kRow s o n) 1 (fun F2 => F2 = xLay F s.toNatClampNeg o n)) r1 F2) (hm : (mpo M (kRow s o n) 1 (fun M2 => M2 = mLay M s.toNatClampNeg o n)) r2 M2) : r1 = r2 ∧ RR (N) F2 M2 := by
  have ge := h.2.1
  have hz := h.z
  have hg := h.2.2.1
  have hok : okK (kRow s o n) := by
    unfold kRow
    repeat' split
    all_goals first | exact Or.inl rfl | exact Or.inr (by decide)
  have hk : kRow s o n = kRow s o n := rfl
  refine h.po (Nat.le_refl _) hk hok hx hm (fun h0 => ?_) (fun h0 e1 e2 => ?_)
  · rfl
  · obtain ⟨q1, q2⟩ := if0 h0 (by decide)
    obtain ⟨n1, q3⟩ := ifp0 q2 (by decide)
    obtain ⟨q4, q5⟩ := if0 q3 (by decide)
    obtain ⟨n2, -⟩ := ifp0 q5 (by decide)
    obtain ⟨j, hj, ej⟩ := inR_of (n := 8) q1 (by omega)
    obtain ⟨oo, ho, eo⟩ := inR_of (n := 4) q4 (by omega)
    obtain ⟨nn, hn, en⟩ := i_0n (b := 160) n1 n2
    have e1 : F2 = xLay F s.toNatClampNeg o n := e1
    have e2 : M2 = mLay M s.toNatClampNeg o n := e2
    rw [e1, e2, ej, nI_clamp (by omega), eo, en]
    exact lay_R h hj ho hn
theorem st_set {N : Nat} {F F2 : zF} {M M2 : zM} {r1 r2 : Option Value} (h : RR N F M) (hN : N ≤ 98000000) {s i : Int32} {v : Int64} (hx : (xpo F (kSet (rTr F s) (F.2.1 s.toNatClampNeg 1) i) 1 (fun F2 => F2 = sE F s.toNatClampNeg (vp_updL (F.2.2.1 s.toNatClampNeg) i.toNatClampNeg (putV (F.2.1 s.toNatClampNeg 0) v)))) r1 F2) (hm : (mpo M (kSet (wtd M s) (M.2.2.1 23 s.toNatClampNeg) i) 1 (fun M2 => M2 = mJ M 25 (vp_updL (M.2.2.2 25) (160 * s.toNatClampNeg + i.toNatClampNeg) (putV (100 + M.2.2.1 22 s.toNatClampNeg) v)))) r2 M2) : r1 = r2 ∧ RR (N) F2 M2 := by
  have ge := h.2.1
  have hz := h.z
  have hg := h.2.2.1
  have hk : kSet (wtd M s) (M.2.2.1 23 s.toNatClampNeg) i = kSet (rTr F s) (F.2.1 s.toNatClampNeg 1) i := by
    rw [h.tr]
    unfold kSet
    by_cases a : wtd M s = 0
    · obtain ⟨j, len, hj, es, ej, b1, b2, b3, -⟩ := h.w0 a
      rw [ej, b1, b3]
    · rw [if_pos a, if_pos a]
  have hok : okK (kSet (rTr F s) (F.2.1 s.toNatClampNeg 1) i) := by
    unfold kSet
    split
    · rw [h.tr]
      rcases wtd_cs (M := M) (s := s) with e | e | e | e <;> rw [e]
      · exact Or.inl rfl
      all_goals exact Or.inr (by decide)
    · split
      · exact Or.inr (by decide)
      · exact Or.inl rfl
  refine h.po (Nat.le_refl _) hk hok hx hm (fun _ => rfl) (fun h0 e1 e2 => ?_)
  obtain ⟨q1, q2⟩ := ifp0' h0
  rw [h.tr] at q1
  obtain ⟨j, len, hj, es, ej, b1, b2, b3, b4, b5, b6⟩ := h.w0 q1
  obtain ⟨q3, -⟩ := if0 q2 (by decide)
  rw [ej, b3] at q3
  obtain ⟨ii, hii, ei⟩ := inR_of q3 (by omega)
  have e1 : F2 = _ := e1
  have e2 : M2 = _ := e2
  rw [e1, e2, ej, ei, nI_clamp (by omega), b5]
  exact set_R h hj b4 b5 b6 (b3.trans b1.symm) (by omega)
theorem st_element {N : Nat} {F F2 : zF} {M M2 : zM} {r1 r2 : Option Value} (h : RR N F M) (hN : N ≤ 98000000) {s i : Int32} (hx : (fun v F2 => v = some (.long (aElem F s i)) ∧ F2 = F) r1 F2) (hm : (fun v M2 => v = some (.long (aElM M s i)) ∧ M2 = M) r2 M2) : r1 = r2 ∧ RR (N) F2 M2 := by
  have ge := h.2.1
  have hz := h.z
  have hg := h.2.2.1
  obtain ⟨x1, x2⟩ := hx
  obtain ⟨m1, m2⟩ := hm
  rw [x1, m1, x2, m2]
  refine ⟨?_, h⟩
  unfold aElem aElM
  by_cases a : inR s 8 = true
  · obtain ⟨j, hj, ej⟩ := inR_of (n := 8) a (by omega)
    rw [if_pos a, if_pos a, ej, nI_clamp (by omega)]
    rcases h.cs hj with ⟨e, -, b2, b3⟩ | ⟨e, b2, b3, -⟩ | ⟨e, b2, b3, b4, b5, b6⟩
    · rw [b3, e, if_neg (show ¬ (false = true) by decide), if_neg (show ¬ ((0 : Int32) = 1) by decide)]
    · rw [b3, e, if_neg (show ¬ (false = true) by decide), if_neg (show ¬ ((2 : Int32) = 1) by decide)]
    · obtain ⟨n, hn, en⟩ := h.2.2.2.2.2.1 j hj
      rw [if_pos b3, if_pos e, b5, en]
      by_cases c : inR i (nI n) = true
      · obtain ⟨ii, hii, ei⟩ := inR_of c (by omega)
        rw [if_pos c, if_pos c, ei, nI_clamp (by omega), b6 ii (by omega)]
      · rw [if_neg c, if_neg c]
  · rw [if_neg a, if_neg a]
theorem st_holds {N : Nat} {F F2 : zF} {M M2 : zM} {r1 r2 : Option Value} (h : RR N F M) (hN : N ≤ 98000000) {s : Int32} (hx : (fun v F2 => v = some (.int (if inR s 8 = true then F.2.1 s.toNatClampNeg 0 else -1)) ∧ F2 = F) r1 F2) (hm : (fun v M2 => v = some (.int (aHoM M s)) ∧ M2 = M) r2 M2) : r1 = r2 ∧ RR (N) F2 M2 := by
  have ge := h.2.1
  have hz := h.z
  have hg := h.2.2.1
  obtain ⟨x1, x2⟩ := hx
  obtain ⟨m1, m2⟩ := hm
  rw [x1, m1, x2, m2]
  refine ⟨?_, h⟩
  unfold aHoM
  by_cases a : inR s 8 = true
  · obtain ⟨j, hj, ej⟩ := inR_of (n := 8) a (by omega)
    rw [if_pos a, if_pos a, ej, nI_clamp (by omega)]
    rcases h.cs hj with ⟨e, b1, -⟩ | ⟨e, -, -, p, b1, b2, b3⟩ | ⟨e, -, -, b4, -⟩
    · rw [b1, e]; rfl
    · rw [e, b3, b2]; rfl
    · rw [e, b4]; rfl
  · rw [if_neg a, if_neg a]
theorem st_says {N : Nat} {F F2 : zF} {M M2 : zM} {r1 r2 : Option Value} (h : RR N F M) (hN : N ≤ 98000000) {s k : Int32} (hx : (xpo F (kSays (F.1 0).1 (F.2.1 s.toNatClampNeg 0) s k) (saysS ((F.1 0).1.2.1 (F.2.1 s.toNatClampNeg 0).toNatClampNeg) k) (fun F2 => F2 = F)) r1 F2) (hm : (mpo M (kSaysM M s k) (saysS (M.1.2.1 (M.2.2.1 24 s.toNatClampNeg).toNatClampNeg) k) (fun M2 => M2 = M)) r2 M2) : r1 = r2 ∧ RR (N) F2 M2 := by
  have ge := h.2.1
  have hz := h.z
  have hg := h.2.2.1
  have hk : kSaysM M s k = kSays (F.1 0).1 (F.2.1 s.toNatClampNeg 0) s k := by
    unfold kSaysM kSays
    by_cases a : inR s 8 = false
    · rw [if_pos a, if_pos a]
    rw [if_neg a, if_neg a]
    by_cases b : inR k 7 = false
    · rw [if_pos b, if_pos b]
    rw [if_neg b, if_neg b]
    obtain ⟨j, hj, ej⟩ := inR_of (n := 8) (show inR s 8 = true by simpa using a) (by omega)
    obtain ⟨q, hq, eq⟩ := inR_of (n := 7) (show inR k 7 = true by simpa using b) (by omega)
    rw [ej, nI_clamp (by omega)]
    rcases h.cs hj with ⟨e, -, b2, b3⟩ | ⟨e, b2, b3, p, c1, c2, c3⟩ | ⟨e, b2, b3, -⟩
    · rw [e, b2, b3]; rfl
    · obtain ⟨kd, hkd, ekd⟩ := (hg.1 p c1).1
      have hS6 := hz.1.2
      have hin : inR (nI p) ((F.1 0).1.1 0) = true := by rw [ge.1 0 (by omega), hz.1.1]; exact inR_nI c1 (by omega)
      rw [e, b2, b3, c2, c3, hin, nI_clamp (by omega), ge.2.1 p c1 0 (by omega), ekd, eq, of_und kd hkd q hq]
      rw [if_neg (show ¬ (2 : Int32) = 1 by decide), if_neg (show ¬ (2 : Int32) = 0 by decide), if_neg (show ¬ (false = true) by decide), if_neg (show ¬ (true = false) by decide), if_neg (show ¬ (true = false) by decide)]
      by_cases z : nI q = 0 ∨ nI q = nI kd ∨ und (nI kd) (nI q) = true
      · rw [if_pos z]
        refine (if_neg ?_).symm
        rcases z with z | z | z
        · rw [decide_eq_true z]; simp
        · rw [decide_eq_true z]; simp
        · rw [z]; simp
      · rw [if_neg z]
        refine (if_pos ?_).symm
        rw [decide_eq_false (fun y => z (Or.inl y)), decide_eq_false (fun y => z (Or.inr (Or.inl y)))]
        simpa using fun y => z (Or.inr (Or.inr y))
    · rw [e, b3]; rfl
  have hok : okK (kSays (F.1 0).1 (F.2.1 s.toNatClampNeg 0) s k) := by
    unfold kSays
    repeat' split
    all_goals first | exact Or.inl rfl | exact Or.inr (by decide)
  refine h.po (Nat.le_refl _) hk hok hx hm (fun h0 => ?_) (fun h0 e1 e2 => ?_)
  · rw [← hk] at h0
    obtain ⟨q1, q2⟩ := if0 h0 (by decide)
    obtain ⟨q3, q4⟩ := if0 q2 (by decide)
    obtain ⟨n1, q5⟩ := ifp0 q4 (by decide)
    obtain ⟨n0, -⟩ := ifp0 q5 (by decide)
    obtain ⟨j, hj, ej⟩ := inR_of (n := 8) q1 (by omega)
    rw [ej, nI_clamp (by omega)] at n1 n0
    rw [ej, nI_clamp (by omega)]
    rcases h.cs hj with ⟨e, -⟩ | ⟨e, b2, b3, p, c1, c2, c3⟩ | ⟨e, -⟩
    · exact absurd e n0
    · have hS6 := hz.1.2
      rw [c2, c3, nI_clamp (by omega)]
      have ea : asked ((F.1 0).1.2.1 p) = asked (M.1.2.1 p) := ge.ask c1
      unfold saysS
      rw [ea, ge.2.1 p c1 2 (by omega), ge.2.1 p c1 4 (by omega)]
    · exact absurd e n1
  · have e1 : F2 = F := e1
    have e2 : M2 = M := e2
    rw [e1, e2]
    exact h
theorem st_show {N : Nat} {F F2 : zF} {M M2 : zM} {r1 r2 : Option Value} (h : RR N F M) (hN : N ≤ 98000000) {s p : Int32} (hx : (xpo F (kShow (F.1 0).1 s p) (if p = -1 then 0 else 1) (fun F2 => F2 = sV (sV F s.toNatClampNeg 0 p) s.toNatClampNeg 1 0)) r1 F2) (hm : (mpo M (kShow M.1 s p) (if p = -1 then 0 else 1) (fun M2 => M2 = mA (mA M 21 s.toNatClampNeg (if p = -1 then 0 else 2)) 24 s.toNatClampNeg p)) r2 M2) : r1 = r2 ∧ RR (N) F2 M2 := by
  have ge := h.2.1
  have hz := h.z
  have hg := h.2.2.1
  have hok : okK (kShow (F.1 0).1 s p) := by
    unfold kShow
    repeat' split
    all_goals first | exact Or.inl rfl | exact Or.inr (by decide)
  have hk : kShow M.1 s p = kShow (F.1 0).1 s p := (by simp only [kShow, ge.1 0 (by omega), ge.1 1 (by omega)])
  refine h.po (Nat.le_refl _) hk hok hx hm (fun h0 => ?_) (fun h0 e1 e2 => ?_)
  · rfl
  · obtain ⟨q1, q2⟩ := if0 h0 (by decide)
    obtain ⟨j, hj, ej⟩ := inR_of (n := 8) q1 (by omega)
    have hp : p = -1 ∨ ∃ q, q < nS M.1 ∧ p = nI q := by
      by_cases z : p = -1
      · exact Or.inl z
      · rw [if_neg z] at q2
        obtain ⟨q, hq, -, eq⟩ := h.inS (if0 q2 (by decide)).1
        exact Or.inr ⟨q, hq, eq⟩
    have e1 : F2 = _ := e1
    have e2 : M2 = _ := e2
    rw [e1, e2, ej, nI_clamp (by omega)]
    exact show_R h hj hp
