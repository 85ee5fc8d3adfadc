/-! a text on both sides -/
theorem rd_T {F : zF} {j len i : Nat} (hi : i < len) : (rdF F j len len).2.2.2 2 i = dD F j i := by
  show va_up (sM (sG F 3 (layG (F.1 0).1 (F.1 3).1, (F.1 3).2)) 1 0 (nI len)).2.2.2 2 (ltN (F.2.2.2 2) (dD F j) len) 2 i = _
  rw [va_up_self]
  exact if_pos hi
theorem rd_o {F : zF} {j len i k : Nat} (h1 : k ≠ 1) (h2 : k ≠ 2) : (rdF F j len i).2.2.2 k = F.2.2.2 k := by
  show va_up (sM (sG F 3 (layG (F.1 0).1 (F.1 3).1, (F.1 3).2)) 1 0 (nI len)).2.2.2 2 (ltN (F.2.2.2 2) (dD F j) i) k = _
  rw [va_up_ne _ _ h2, sM_ne h1]
  rfl
theorem rd_1 {F : zF} {j len i k : Nat} (h : k ≠ 3) : (rdF F j len i).1 k = F.1 k := by
  show va_up F.1 3 (layG (F.1 0).1 (F.1 3).1, (F.1 3).2) k = _
  exact va_up_ne _ _ h
theorem rS_1 {F : zF} {G : zGf} {len a k : Nat} {f : Option Nat} {np : Int32} (h : k ≠ 3) : (rS F G len a f np).1 k = F.1 k := by
  show va_up F.1 3 G k = _
  exact va_up_ne _ _ h
theorem rS_o {F : zF} {G : zGf} {len a k : Nat} {f : Option Nat} {np : Int32} (h : k ≠ 1) : (rS F G len a f np).2.2.2 k = F.2.2.2 k := by
  show va_up F.2.2.2 1 (rR (F.2.2.2 1) len a f np) k = _
  exact va_up_ne _ _ h
theorem rS_f {F : zF} {G : zGf} {len a : Nat} {f : Option Nat} {np : Int32} : (rS F G len a f np).2.2.2 1 2 = oI f := by
  show va_up F.2.2.2 1 (rR (F.2.2.2 1) len a f np) 1 2 = _
  rw [va_up_self]
  rfl
theorem its_eq {N : Nat} {F : zF} {M : zM} (h : RR N F M) {j len : Nat} (hl : len ≤ 160) (e3 : F.2.1 j 1 = nI len) (e6 : ∀ i, i < 160 → F.2.2.1 j i = M.2.2.2 25 (160 * j + i)) : eqv (its0 F j len).1.1 (mIts M j len).1.1 ∧ (its0 F j len).1.2 = (mIts M j len).1.2 ∧ (its0 F j len).2 = (mIts M j len).2 := by
  have hT : nxP ((rdF F j len len).2.2.2 2) len = nxP (cT M (160 * j)) len := cg_nx (fun i hi => by
    rw [rd_T hi]
    unfold dD asI cT
    rw [e3, if_pos (inR_nI (by omega) (by omega)), nI_clamp (by omega), e6 i (by omega)])
  have eA : eqv (layG (F.1 0).1 (F.1 3).1) M.1 := (lay_eqv _ _).tr h.2.1
  unfold its0 mIts
  rw [cg_it hT, cg_its hT]
  obtain ⟨a1, a2⟩ := e_itC (T := cT M (160 * j)) (len := len) (s := (0, none)) eA h.z
  rw [a2]
  exact e_itsP a1 (itC_gz h.z)
theorem mIts_rg {N : Nat} {M : zM} (hz : gz M.1) (hg : rg N M.1) (hN : N ≤ 98000000) {j len : Nat} : rg (N + 160) (mIts M j len).1.1 ∧ nS M.1 ≤ nS (mIts M j len).1.1 := by
  have h1 := itC_rg (T := cT M (160 * j)) (len := len) (s := (0, none)) hz hg (by omega)
  obtain ⟨h2, h3⟩ := itsP_rg (T := cT M (160 * j)) (len := len) (m := 159) (n := 1) (s := (itC (cT M (160 * j)) len M.1 (0, none)).2) (itC_gz hz) h1 (by omega)
  exact ⟨h2, Nat.le_trans (itC_S hz) h3⟩
theorem itsP_gz {T : Nat → Int32} {len : Nat} : ∀ {m n : Nat} {g : zGc} {s : Nat × Option Nat}, gz g → gz (itsP T len m g s n).1.1
  | 0, n, g, s, hz => hz
  | m + 1, n, g, s, hz => by
    simp only [itsP]
    split
    · exact itsP_gz (itC_gz hz)
    · exact hz
/-- the reader's numbers and the draft have changed -/
theorem RR.rd {N : Nat} {F F2 : zF} {M M3 : zM} {f : Int32} (h : RR N F M) (f0 : F2.1 0 = F.1 0) (f2 : F2.1 2 = F.1 2) (f3 : F2.2.1 = F.2.1) (f4 : F2.2.2.1 = F.2.2.1) (f5 : ∀ i, i ≠ 1 → i ≠ 2 → F2.2.2.2 i = F.2.2.2 i) (f6 : F2.2.2.2 1 2 = f) (hG : eqv M3.1 M.1) (hm : mRd M M3 f) : RR N F2 M3 := by
  obtain ⟨m8, m1, m2, m3⟩ := hm
  obtain ⟨⟨hz, hw, hx⟩, hE, hg, s1, s2, s3, s4, s5, s6, s7, s8, s9, s10⟩ := h
  refine ⟨⟨by rw [f0]; exact hz, by rw [f0]; exact hw, fun j hj => ?_⟩, by rw [f0]; exact hE.tr hG.sm, hg.e hG, fun j hj => ?_, fun j hj => ?_, fun j hj => ?_, fun j hj => ?_, by rw [f6, m8], ?_, fun i hi => ?_, ?_, fun i hi => ?_, fun i hi => ?_⟩
  · unfold xsh
    rw [f0, f3]
    exact hx j hj
  · unfold hdR
    rw [f3, f4, m2 21 (by omega), m2 22 (by omega), m2 23 (by omega), m2 24 (by omega), m3, hG.S]
    exact s1 j hj
  · rw [m2 22 (by omega)]; exact s2 j hj
  · rw [m2 23 (by omega)]; exact s3 j hj
  · rw [f5 0 (by decide) (by decide), m2 9 (by omega)]; exact s4 j hj
  · rw [f5 3 (by decide) (by decide), m1 46 (by omega)]; exact s6
  · rw [f5 4 (by decide) (by decide), m2 45 (by omega)]; exact s7 i hi
  · unfold kpR
    rw [f5 5 (by decide) (by decide), m1 47 (by omega), f2, m2 36 (by omega)]
    exact s8
  · rw [m2 27 (by omega)]; exact s9 i hi
  · rw [m2 28 (by omega)]; exact s10 i hi
theorem st_garden {N : Nat} {F F2 : zF} {M M2 : zM} {r1 r2 : Option Value} (h : RR N F M) (hN : N ≤ 98000000) {s : Int32} (hx : (fun v F2 => v = some (.int (if ¬ rTr F s = 0 then rTr F s else if (its0 F s.toNatClampNeg (F.2.1 s.toNatClampNeg 1).toNatClampNeg).1.2.2 = none then nI (its0 F s.toNatClampNeg (F.2.1 s.toNatClampNeg 1).toNatClampNeg).2 else -6)) ∧ (¬ rTr F s = 0 → F2 = rfu F (rTr F s)) ∧ (rTr F s = 0 → ∃ G np, G.1 = (its0 F s.toNatClampNeg (F.2.1 s.toNatClampNeg 1).toNatClampNeg).1.1 ∧ ((its0 F s.toNatClampNeg (F.2.1 s.toNatClampNeg 1).toNatClampNeg).1.2.2 = none → F2 = sG (rS (rdF F s.toNatClampNeg (F.2.1 s.toNatClampNeg 1).toNatClampNeg (F.2.1 s.toNatClampNeg 1).toNatClampNeg) G (F.2.1 s.toNatClampNeg 1).toNatClampNeg (its0 F s.toNatClampNeg (F.2.1 s.toNatClampNeg 1).toNatClampNeg).1.2.1 (its0 F s.toNatClampNeg (F.2.1 s.toNatClampNeg 1).toNatClampNeg).1.2.2 np) 0 (layG G.1 (F.1 0).1, (F.1 0).2)) ∧ (¬ (its0 F s.toNatClampNeg (F.2.1 s.toNatClampNeg 1).toNatClampNeg).1.2.2 = none → F2 = rfu (rS (rdF F s.toNatClampNeg (F.2.1 s.toNatClampNeg 1).toNatClampNeg (F.2.1 s.toNatClampNeg 1).toNatClampNeg) G (F.2.1 s.toNatClampNeg 1).toNatClampNeg (its0 F s.toNatClampNeg (F.2.1 s.toNatClampNeg 1).toNatClampNeg).1.2.1 (its0 F s.toNatClampNeg (F.2.1 s.toNatClampNeg 1).toNatClampNeg).1.2.2 np) (-6)))) r1 F2) (hm : (gdP M s) r2 M2) : r1 = r2 ∧ RR (N + 160) F2 M2 := by
  have ge := h.2.1
  have hz := h.z
  have hg := h.2.2.1
  rw [h.tr] at hx
  obtain ⟨x1, x2, x3⟩ := hx
  obtain ⟨m1, m2⟩ := hm
  by_cases hw : wtd M s = 0
  · obtain ⟨j, len, hj, es, ej, e1, e2, e3, e4, e5, e6⟩ := h.w0 hw
    have el : (F.2.1 j 1).toNatClampNeg = len := by rw [e3]; exact nI_clamp (by omega)
    have el2 : (M.2.2.1 23 j).toNatClampNeg = len := by rw [e1]; exact nI_clamp (by omega)
    have m3 := m2 hw
    have x4 := x3 hw
    rw [if_neg (fun z => z hw)] at x1
    rw [ej, el] at x1 x4
    rw [ej, el2] at m3
    obtain ⟨k1, k2, k3⟩ := its_eq h e2 e3 e6
    obtain ⟨hr, hS⟩ := mIts_rg hz hg hN (j := j) (len := len)
    have hgz : gz (mIts M j len).1.1 := itsP_gz (itC_gz hz)
    obtain ⟨G, np, g1, g2, g3⟩ := x4
    obtain ⟨m4, m5⟩ := m3
    have X0 : ∀ (a : Nat) (f : Option Nat) (M3 : zM), eqv M3.1 M.1 → mRd M M3 (oI f) → RR N (rS (rdF F j len len) G len a f np) M3 := fun a f M3 q1 q2 => h.rd (by rw [rS_1 (by decide), rd_1 (by decide)]) (by rw [rS_1 (by decide), rd_1 (by decide)]) rfl rfl (fun i i1 i2 => by rw [rS_o i1, rd_o i1 i2]) rS_f q1 q2
    by_cases hn : (its0 F j len).1.2.2 = none
    · obtain ⟨n1, n2, n3⟩ := m4 (by rw [← k2]; exact hn)
      rw [if_pos hn] at x1
      refine ⟨by rw [x1, n1, k3], ?_⟩
      rw [g2 hn, hn]
      have q := X0 (its0 F j len).1.2.1 none (mG M2 M.1) (eqv.rf _) n3
      refine q.gd (M2 := M2) ⟨fun _ _ => rfl, fun _ _ => rfl, rfl⟩ ?_ ?_ ?_ ?_ (by omega)
      · rw [n2]
        refine (lay_eqv _ _).tr ?_
        rw [g1]; exact k1
      · rw [n2]; exact hgz
      · rw [n2]; exact hr
      · rw [n2]; exact hS
    · obtain ⟨q, hq⟩ := Option.ne_none_iff_exists'.mp hn
      obtain ⟨n1, M3, n2, n3, n4⟩ := m5 q (by rw [← k2]; exact hq)
      rw [if_neg hn] at x1
      refine ⟨by rw [x1, n1], ?_⟩
      rw [g3 hn, n2, hq]
      exact ((X0 (its0 F j len).1.2.1 (some q) M3 n3 n4).rf (Or.inr (by decide)) (by decide)).up (by omega)
  · obtain ⟨n1, n2⟩ := m1 hw
    rw [if_pos hw] at x1
    refine ⟨by rw [x1, n1], ?_⟩
    rw [x2 hw, n2]
    have hok : okK (wtd M s) := by
      rcases wtd_cs (M := M) (s := s) with e | e | e | e <;> rw [e]
      · exact Or.inl rfl
      all_goals exact Or.inr (by decide)
    exact (h.rf hok hw).up (by omega)
