/-! both states side by side -/
def hdR (F : zF) (M : zM) (j : Nat) : Prop := (M.2.2.1 21 j = 0 ∧ F.2.1 j 0 = -1) ∨ (M.2.2.1 21 j = 2 ∧ ∃ p, p < nS M.1 ∧ M.2.2.1 24 j = nI p ∧ F.2.1 j 0 = nI p) ∨ (M.2.2.1 21 j = 1 ∧ F.2.1 j 0 = 100 + M.2.2.1 22 j ∧ F.2.1 j 1 = M.2.2.1 23 j ∧ ∀ i, i < 160 → F.2.2.1 j i = M.2.2.2 25 (160 * j + i))
def kpR (N : Nat) (F : zF) (M : zM) : Prop := F.2.2.2 5 0 = M.2.1 47 ∧ (¬ M.2.1 47 = 0 → ∃ g, gz g ∧ rg N g ∧ eqv (F.1 2).1 g ∧ ∀ q, q < 74 → M.2.2.1 36 q = pk g q)
/-- what the shelves, refusals, moves and the kept image say -/
def smR (N : Nat) (F : zF) (M : zM) : Prop := (∀ j, j < 8 → hdR F M j) ∧ (∀ j, j < 8 → ∃ o, o < 4 ∧ M.2.2.1 22 j = nI o) ∧ (∀ j, j < 8 → ∃ n, n ≤ 160 ∧ M.2.2.1 23 j = nI n) ∧ (∀ j, j < 8 → F.2.2.2 0 j = M.2.2.1 9 j) ∧ F.2.2.2 1 2 = M.2.1 8 ∧ F.2.2.2 3 0 = M.2.1 46 ∧ (∀ i, i < 20 → F.2.2.2 4 i = M.2.2.1 45 i) ∧ kpR N F M ∧ (∀ i, i < 51 → M.2.2.1 27 i = wrd.getD i 0) ∧ (∀ i, i < 8 → M.2.2.1 28 i = nms.getD i 0)
def RR (N : Nat) (F : zF) (M : zM) : Prop := XI F ∧ eqv (F.1 0).1 M.1 ∧ rg N M.1 ∧ smR N F M
theorem RR.z {N : Nat} {F : zF} {M : zM} (h : RR N F M) : gz M.1 := h.2.1.sm.z h.1.1
theorem kpR.up {N N2 : Nat} {F : zF} {M : zM} (h : kpR N F M) (hN : N ≤ N2) : kpR N2 F M := by
  obtain ⟨h1, h2⟩ := h
  refine ⟨h1, fun z => ?_⟩
  obtain ⟨g, g1, g2, g3⟩ := h2 z
  exact ⟨g, g1, g2.up hN, g3⟩
theorem smR.up {N N2 : Nat} {F : zF} {M : zM} (h : smR N F M) (hN : N ≤ N2) : smR N2 F M := by
  obtain ⟨h1, h2, h3, h4, h5, h6, h7, h8, h9⟩ := h
  exact ⟨h1, h2, h3, h4, h5, h6, h7, h8.up hN, h9⟩
theorem RR.up {N N2 : Nat} {F : zF} {M : zM} (h : RR N F M) (hN : N ≤ N2) : RR N2 F M := ⟨h.1, h.2.1, h.2.2.1.up hN, h.2.2.2.up hN⟩
theorem RR.hsz {N : Nat} {F : zF} {M : zM} (h : RR N F M) : ∀ j, j < 8 → M.2.2.1 21 j = 1 → ∃ n, n ≤ 160 ∧ M.2.2.1 23 j = nI n := fun j hj _ => h.2.2.2.2.2.1 j hj
theorem RR.h012 {N : Nat} {F : zF} {M : zM} (h : RR N F M) : ∀ j, j < 8 → M.2.2.1 21 j = 0 ∨ M.2.2.1 21 j = 1 ∨ M.2.2.1 21 j = 2 := by
  intro j hj
  rcases h.2.2.2.1 j hj with e | e | e
  · exact Or.inl e.1
  · exact Or.inr (Or.inr e.1)
  · exact Or.inr (Or.inl e.1)
theorem RR.hsh {N : Nat} {F : zF} {M : zM} (h : RR N F M) : ∀ j, j < 8 → M.2.2.1 21 j = 2 → ∃ p, p < nS M.1 ∧ M.2.2.1 24 j = nI p := by
  intro j hj e2
  rcases h.2.2.2.1 j hj with e | e | e
  · rw [e.1] at e2; exact absurd e2 (by decide)
  · obtain ⟨p, h1, h2, -⟩ := e.2; exact ⟨p, h1, h2⟩
  · rw [e.1] at e2; exact absurd e2 (by decide)
theorem rg_wn {N : Nat} {g : zGc} (h : rg N g) : wn g := by
  intro c hc
  obtain ⟨⟨n, h1, h2, e⟩, -⟩ := h.2.1 c hc
  rw [e, show (10 : Int32) = nI 10 from rfl, show nI 10 * nI n = nI (10 * n) from pk_mul 10 n]
  exact nI_lt (b := 2147483647) (by omega) (by omega)
/-- the shelves' side hangs on these parts alone -/
theorem smR.eq {N : Nat} {F F2 : zF} {M M2 : zM} (h : smR N F M) (f1 : F2.2.1 = F.2.1) (f2 : F2.2.2.1 = F.2.2.1) (f3 : ∀ i, i = 0 ∨ i = 3 ∨ i = 4 ∨ i = 5 → F2.2.2.2 i = F.2.2.2 i) (f4 : F2.2.2.2 1 2 = F.2.2.2 1 2) (f5 : F2.1 2 = F.1 2) (hm : mRs M M2) (hS : nS M.1 ≤ nS M2.1) : smR N F2 M2 := by
  obtain ⟨m1, m2, m3⟩ := hm
  obtain ⟨h1, h2, h3, h4, h5, h6, h7, h8, h9, h10⟩ := h
  refine ⟨fun j hj => ?_, fun j hj => ?_, fun j hj => ?_, fun j hj => ?_, ?_, ?_, fun i hi => ?_, ?_, fun i hi => ?_, fun i hi => ?_⟩
  · unfold hdR
    rw [m2 21 (by omega), m2 22 (by omega), m2 23 (by omega), m2 24 (by omega), m3, f1, f2]
    rcases h1 j hj with e | ⟨e, p, e1, e2⟩ | e
    · exact Or.inl e
    · exact Or.inr (Or.inl ⟨e, p, by omega, e2⟩)
    · exact Or.inr (Or.inr e)
  · rw [m2 22 (by omega)]; exact h2 j hj
  · rw [m2 23 (by omega)]; exact h3 j hj
  · rw [m2 9 (by omega), f3 0 (by omega)]; exact h4 j hj
  · rw [m1 8 (by omega), f4]; exact h5
  · rw [m1 46 (by omega), f3 3 (by omega)]; exact h6
  · rw [m2 45 (by omega), f3 4 (by omega)]; exact h7 i hi
  · unfold kpR
    rw [m1 47 (by omega), m2 36 (by omega), f3 5 (by omega), f5]
    exact h8
  · rw [m2 27 (by omega)]; exact h9 i hi
  · rw [m2 28 (by omega)]; exact h10 i hi
theorem mSm.rs {M M2 : zM} (h : mSm M M2) : mRs M M2 := h.2
theorem mRs_G {M : zM} {g : zGc} : mRs M (mG M g) := ⟨fun _ _ => rfl, fun _ _ => rfl, rfl⟩
theorem mRs_B {M : zM} {g : zGc} {B : Nat → Int32} : mRs M (mB M g B) := by
  refine ⟨fun k hk => rfl, fun k hk => ?_, rfl⟩
  show va_up M.2.2.1 38 B k = _
  rw [va_up_ne _ _ (show k ≠ 38 by omega)]
theorem XI.of {F F2 : zF} {N : Nat} (h : XI F) (hz : gz (F2.1 0).1) (hg : rg N (F2.1 0).1) (f1 : F2.2.1 = F.2.1) (hS : nS (F.1 0).1 ≤ nS (F2.1 0).1) : XI F2 := by
  refine ⟨hz, rg_wn hg, fun j hj => ?_⟩
  obtain ⟨h1, h2⟩ := h.2.2 j hj
  unfold xsh
  rw [f1]
  refine ⟨h1, ?_⟩
  rcases h2 with e | ⟨p, e1, e2⟩ | e
  · exact Or.inl e
  · exact Or.inr (Or.inl ⟨p, by omega, e2⟩)
  · exact Or.inr (Or.inr e)
/-- the thought garden apart, nothing has changed -/
theorem RR.th {N : Nat} {F F2 : zF} {M M2 : zM} (h : RR N F M) (hf : thO F F2) (hm : mSm M M2) : RR N F2 M2 := by
  obtain ⟨T, rfl⟩ := hf
  have e0 : (sG F 1 T).1 0 = F.1 0 := sG_ne F T (show (0 : Nat) ≠ 1 by decide)
  have e2 : (sG F 1 T).1 2 = F.1 2 := sG_ne F T (show (2 : Nat) ≠ 1 by decide)
  have hr : rg N M2.1 := h.2.2.1.e hm.1
  refine ⟨XI.of (N := N) h.1 (by rw [e0]; exact h.1.1) (by rw [e0]; exact h.2.2.1.e h.2.1) rfl (by rw [e0]; exact Nat.le_refl _), ?_, hr, h.2.2.2.eq rfl rfl (fun _ _ => rfl) rfl e2 hm.rs (by rw [hm.1.S]; exact Nat.le_refl _)⟩
  rw [e0]; exact h.2.1.tr hm.1.sm
theorem RR.sm {N : Nat} {F : zF} {M M2 : zM} (h : RR N F M) (hm : mSm M M2) : RR N F M2 := by
  refine ⟨h.1, h.2.1.tr hm.1.sm, h.2.2.1.e hm.1, h.2.2.2.eq rfl rfl (fun _ _ => rfl) rfl rfl hm.rs (by rw [hm.1.S]; exact Nat.le_refl _)⟩
theorem RR.thx {N : Nat} {F F2 : zF} {M : zM} (h : RR N F M) (hf : thO F F2) : RR N F2 M := h.th hf (mSm.rf M)
/-- another truth -/
theorem RR.gd {N N2 : Nat} {F : zF} {M M2 : zM} {G : zGf} (h : RR N F M) (hm : mRs M M2) (hG : eqv G.1 M2.1) (hz : gz M2.1) (hg : rg N2 M2.1) (hS : nS M.1 ≤ nS M2.1) (hN : N ≤ N2) : RR N2 (sG F 0 G) M2 := by
  have e0 : (sG F 0 G).1 0 = G := by
    show va_up F.1 0 G 0 = G
    exact va_up_self _ _ _
  have e2 : (sG F 0 G).1 2 = F.1 2 := sG_ne F G (show (2 : Nat) ≠ 0 by decide)
  refine ⟨XI.of (N := N2) h.1 (by rw [e0]; exact hG.z hz) (by rw [e0]; exact hg.e hG) rfl ?_, by rw [e0]; exact hG, hg, (h.2.2.2.up hN).eq rfl rfl (fun _ _ => rfl) rfl e2 hm hS⟩
  rw [e0, hG.S, h.2.1.S]; exact hS
/-- a refusal -/
def okK (k : Int32) : Prop := k = 0 ∨ (0 < refK k ∧ refK k < 8)
theorem RR.rf {N : Nat} {F : zF} {M : zM} {k : Int32} (h : RR N F M) (hk : okK k) (h0 : ¬ k = 0) : RR N (rfu F k) (rfM M k) := by
  have hk := hk.resolve_left h0
  have e : rfu F k = sM F 0 (refK k).toNatClampNeg (F.2.2.2 0 (refK k).toNatClampNeg + 1) := if_pos hk
  rw [e]
  obtain ⟨hI, hG, hg, h1, h2, h3, h4, h5, h6, h7, h8, h9, h10⟩ := h
  have hj : (refK k).toNatClampNeg < 8 := by
    obtain ⟨j, hj, ej⟩ := inR_of (n := 8) (inR_t (Int32.not_lt.mpr (Int32.le_of_lt hk.1)) hk.2) (by omega)
    rw [ej, nI_clamp (by omega)]; exact hj
  show RR N (sM F 0 (refK k).toNatClampNeg (F.2.2.2 0 (refK k).toNatClampNeg + 1)) (mA M 9 (refK k).toNatClampNeg (M.2.2.1 9 (refK k).toNatClampNeg + 1))
  generalize (refK k).toNatClampNeg = r at hj ⊢
  have ma : ∀ q, q ≠ 9 → (mA M 9 r (M.2.2.1 9 r + 1)).2.2.1 q = M.2.2.1 q := fun q hq => mA_ne hq
  have fa : ∀ i, i ≠ 0 → (sM F 0 r (F.2.2.2 0 r + 1)).2.2.2 i = F.2.2.2 i := fun i hi => by
    show va_up F.2.2.2 0 _ i = _
    exact va_up_ne _ _ hi
  refine ⟨hI, hG, hg, fun j hj2 => ?_, fun j hj2 => ?_, fun j hj2 => ?_, fun j hj2 => ?_, ?_, ?_, fun i hi => ?_, ?_, fun i hi => ?_, fun i hi => ?_⟩
  · unfold hdR
    rw [ma 21 (by decide), ma 22 (by decide), ma 23 (by decide), ma 24 (by decide)]
    exact h1 j hj2
  · rw [ma 22 (by decide)]; exact h2 j hj2
  · rw [ma 23 (by decide)]; exact h3 j hj2
  · show va_up F.2.2.2 0 (upd (F.2.2.2 0) r (F.2.2.2 0 r + 1)) 0 j = va_up M.2.2.1 9 (upd (M.2.2.1 9) r (M.2.2.1 9 r + 1)) 9 j
    rw [va_up_self, va_up_self]
    unfold upd
    rw [h4 r hj, h4 j hj2]
  · rw [fa 1 (by decide)]; exact h5
  · rw [fa 3 (by decide)]; exact h6
  · rw [fa 4 (by decide), ma 45 (by decide)]; exact h7 i hi
  · unfold kpR
    rw [fa 5 (by decide), ma 36 (by decide)]
    exact h8
  · rw [ma 27 (by decide)]; exact h9 i hi
  · rw [ma 28 (by decide)]; exact h10 i hi
/-- a call with a refusal, on both sides -/
theorem RR.po {N N2 : Nat} {F F2 : zF} {M M2 : zM} {k k2 ans ans2 : Int32} {P : zF → Prop} {P2 : zM → Prop} {v w : Option Value} (h : RR N F M) (hN : N ≤ N2) (hk : k2 = k) (ho : okK k) (hx : xpo F k ans P v F2) (hm : mpo M k2 ans2 P2 w M2) (ha : k = 0 → ans = ans2) (hp : k = 0 → P F2 → P2 M2 → RR N2 F2 M2) : v = w ∧ RR N2 F2 M2 := by
  subst hk
  obtain ⟨x1, x2, x3⟩ := hx
  obtain ⟨m1, m2, m3⟩ := hm
  by_cases h0 : k2 = 0
  · rw [if_pos h0] at x1 m1
    exact ⟨by rw [x1, m1, ha h0], hp h0 (x2 h0) (m2 h0)⟩
  · rw [if_neg h0] at x1 m1
    refine ⟨by rw [x1, m1], ?_⟩
    rw [x3 h0, m3 h0]
    exact (h.rf ho h0).up hN
/-- the same for the calls that leave the thought garden otherwise -/
theorem RR.pt {N N2 : Nat} {F F2 : zF} {M M2 : zM} {k k2 ans ans2 : Int32} {P : zF → Prop} {P2 : zM → Prop} {v w : Option Value} (h : RR N F M) (hN : N ≤ N2) (hk : k2 = k) (ho : okK k) (hx : xpt F k ans P v F2) (hm : mpt M k2 ans2 P2 w M2) (ha : k = 0 → ans = ans2) (hp : k = 0 → P F2 → P2 M2 → RR N2 F2 M2) : v = w ∧ RR N2 F2 M2 := by
  subst hk
  obtain ⟨x1, x2, x3⟩ := hx
  obtain ⟨m1, m2, m3⟩ := hm
  by_cases h0 : k2 = 0
  · rw [if_pos h0] at x1 m1
    exact ⟨by rw [x1, m1, ha h0], hp h0 (x2 h0) (m2 h0)⟩
  · rw [if_neg h0] at x1 m1
    refine ⟨by rw [x1, m1], ?_⟩
    obtain ⟨M3, s1, s2⟩ := m3 h0
    rw [s2]
    exact (((h.sm s1).rf ho h0).thx (x3 h0)).up hN
theorem ok_0 : okK 0 := Or.inl rfl
theorem ok_n {k : Int32} (h : k = -1 ∨ k = -2 ∨ k = -3 ∨ k = -4 ∨ k = -5 ∨ k = -6 ∨ k = -7 ∨ k = -11 ∨ k = -12 ∨ k = -13 ∨ k = -14 ∨ k = -15 ∨ k = -16) : okK k := by
  rcases h with h | h | h | h | h | h | h | h | h | h | h | h | h <;> (subst h; exact Or.inr (by decide))
