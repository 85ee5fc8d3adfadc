/-! told afternoons and copies on both sides -/
theorem hPart_f {i n : Int32} {L : Nat} (hL : L ≤ 160) (hn : ¬ n < 0) : (hPart i n (nI L) = false) ↔ (i < 0 ∨ nI L - n < i) := by
  have e0 : (0 : Int32).toInt = 0 := rfl
  have eL := nI_toInt (n := L) (by omega)
  have hn2 := hn
  rw [i_lt, e0] at hn2
  have hnr := i_ran n
  have es : (nI L - n).toInt = (L : Int) - n.toInt := by rw [i_sub (by rw [eL]; omega) (by rw [eL]; omega), eL]
  constructor
  · intro h
    by_cases hi : i < 0
    · exact Or.inl hi
    · right
      refine Decidable.byContradiction (fun z => ?_)
      have hi2 := hi
      rw [i_lt, e0] at hi2
      rw [i_lt, es] at z
      have hir := i_ran i
      unfold hPart at h
      rw [decide_eq_false hi] at h
      have hc : lg_cmp (i.toInt64 + n.toInt64) (nI L).toInt64 ≤ 0 := by
        rw [lc_le, l_lt, Int64.toInt_add, Int32.toInt_toInt64, Int32.toInt_toInt64, Int32.toInt_toInt64, eL]
        simp only [Int.bmod]
        split <;> omega
      rw [decide_eq_false (Int32.not_lt.mpr hc)] at h
      exact absurd h (by decide)
  · intro h
    refine Decidable.byContradiction (fun z => ?_)
    have z : hPart i n (nI L) = true := by simpa using z
    obtain ⟨a, b, e1, e2, e3⟩ := hPart_of hL hn z
    have ea := nI_toInt (n := a) (by omega)
    have eb := nI_toInt (n := b) (by omega)
    rcases h with h | h
    · rw [e1, i_lt, e0, ea] at h; omega
    · rw [i_lt, es, e1, e2, ea, eb] at h; omega
theorem h100 {x y : Int32} : (100 + x = 100 + y) ↔ x = y := by
  constructor
  · intro h
    have := congrArg (fun z => z - 100) h
    simpa [Int32.add_comm, Int32.add_sub_cancel] using this
  · intro h; rw [h]
theorem copy_R {N : Nat} {F : zF} {M : zM} (h : RR N F M) {p q a b c lp lq : Nat} (hp : p < 8) (hq : q < 8) (hlp : lp ≤ 160) (hlq : lq ≤ 160) (ha : a + c ≤ lp) (hb : b + c ≤ lq) (e1 : M.2.2.1 21 q = 1) (e2 : F.2.1 q 0 = 100 + M.2.2.1 22 q) (e3 : F.2.1 q 1 = M.2.2.1 23 q) (e4 : ∀ i, i < 160 → F.2.2.1 q i = M.2.2.2 25 (160 * q + i)) (e5 : ∀ i, i < 160 → F.2.2.1 p i = M.2.2.2 25 (160 * p + i)) : RR N (sE F q (va_cpy (F.2.2.1 p) (F.2.2.1 q) a b c)) (mCpy M p q a b c) := by
  have e25 : (mCpy M p q a b c).2.2.2 25 = cy2 (M.2.2.2 25) (cy1 (M.2.2.2 25) (M.2.2.2 26) (160 * p + a) c) (160 * q + b) c := mJ_at
  refine h.shelf q rfl rfl rfl rfl (fun k hk => rfl) (fun i hi hiq => ⟨rfl, sE_ne hiq, fun k hk => rfl, fun x hx => ?_⟩) (Or.inr (Or.inr ⟨e1, e2, e3, fun x hx => ?_⟩)) (h.2.2.2.2.1 q hq) (h.2.2.2.2.2.1 q hq) (h.1.2.2 q hq)
  · rw [e25]
    exact if_neg (by omega)
  · rw [e25, sE_at]
    unfold va_cpy cy2 cy1
    by_cases z : b ≤ x ∧ x < b + c
    · rw [if_pos z, if_pos (by omega), if_pos (by omega), e5 (a + (x - b)) (by omega)]
      exact congrArg (M.2.2.2 25) (by omega)
    · rw [if_neg z, if_neg (by omega)]; exact e4 x hx
theorem RR.t0 {N : Nat} {F : zF} {M : zM} (h : RR N F M) {s n : Int32} (e : tTrM M s n = 0) : ∃ j nn len, j < 8 ∧ s.toNatClampNeg = j ∧ n.toNatClampNeg = nn ∧ nn ≤ len ∧ len ≤ 160 ∧ ∀ i, i < nn → dD F j i = dM M j i := by
  have hw : wtd M s = 0 := by
    refine Decidable.byContradiction (fun z => ?_)
    unfold tTrM at e
    rw [if_neg z] at e
    exact z e
  obtain ⟨j, len, hj, es, ej, e1, e2, e3, -, -, e4⟩ := h.w0 hw
  unfold tTrM at e
  rw [if_pos hw, ej, e1] at e
  obtain ⟨n0, e⟩ := ifp0 e (by decide)
  obtain ⟨n1, -⟩ := ifp0 e (by decide)
  obtain ⟨nn, hnn, en⟩ := i_0n (b := len) n0 n1
  refine ⟨j, nn, len, hj, ej, by rw [en]; exact nI_clamp (by omega), hnn, e2, fun i hi => ?_⟩
  unfold dD dM asI
  rw [e3, if_pos (inR_nI (by omega) (by omega)), nI_clamp (by omega), e4 i (by omega)]
theorem okT {M : zM} {s n : Int32} : okK (tTrM M s n) := by
  rcases tTrM_cs M s n with e | e | e | e | e | e <;> rw [e]
  · exact Or.inl rfl
  all_goals exact Or.inr (by decide)
theorem rg_wrK {d : Nat → Int32} {base N : Nat} {B : zGf} (hz : gz B.1) (hg : rg N B.1) : ∀ {n : Nat}, n ≤ nC B.1 → N + n ≤ 134217728 → rg (N + n) (wrK d base n B).2.1 ∧ sk B.1 (wrK d base n B).2.1
  | 0, _, _ => ⟨hg, sk.rf _⟩
  | n + 1, hn, hN => by
    obtain ⟨h1, h2⟩ := rg_wrK (d := d) (base := base) hz hg (n := n) (by omega) (by omega)
    simp only [wrK]
    generalize wrK d base n B = Y at h1 h2 ⊢
    obtain ⟨y1, Y2⟩ := Y
    dsimp only at h1 h2 ⊢
    cases y1 with
    | some w => exact ⟨h1.up (by omega), h2⟩
    | none =>
      dsimp only
      by_cases q : can Y2.1 n (d (base + n)) = true
      · rw [if_pos q]
        exact ⟨rg_makes (h2.z hz) h1 (by show N + n ≤ _; omega) (by rw [h2.C]; omega) q, h2.tr sk_makes⟩
      · rw [if_neg q]
        exact ⟨h1.up (by omega), h2⟩
theorem rg_wrM {d : Nat → Int32} {N : Nat} {B : zGf} (hz : gz B.1) (hg : rg N B.1) : ∀ {t : Nat}, N + nC B.1 * t ≤ 134217728 → rg (N + nC B.1 * t) (wrM d (nC B.1) t B).2.1 ∧ sk B.1 (wrM d (nC B.1) t B).2.1
  | 0, _ => ⟨hg, sk.rf _⟩
  | t + 1, hN => by
    have hmt : nC B.1 * (t + 1) = nC B.1 * t + nC B.1 := Nat.mul_succ _ t
    obtain ⟨h1, h2⟩ := rg_wrM (d := d) hz hg (t := t) (by omega)
    simp only [wrM]
    generalize wrM d (nC B.1) t B = Y at h1 h2 ⊢
    obtain ⟨y1, Y2⟩ := Y
    dsimp only at h1 h2 ⊢
    cases y1 with
    | some w => exact ⟨h1.up (by omega), h2⟩
    | none =>
      obtain ⟨h3, h4⟩ := rg_wrK (d := d) (base := nC B.1 * t) (B := begM Y2) (h2.z hz) h1 (n := nC B.1) (by show nC B.1 ≤ nC Y2.1; rw [h2.C]; exact Nat.le_refl _) (by omega)
      dsimp only
      generalize wrK d (nC B.1 * t) (nC B.1) (begM Y2) = Y3 at h3 h4 ⊢
      obtain ⟨y3, Y4⟩ := Y3
      dsimp only at h3 h4 ⊢
      have h5 : sk B.1 Y4.1 := h2.tr h4
      cases y3 with
      | some w => exact ⟨h3.up (by omega), h5⟩
      | none => exact ⟨(rg_endM (G := Y4) h3).up (by omega), h5.tr sk_endM⟩
theorem rg_wrA {d : Nat → Int32} {N n : Nat} {b : zGc} (hz : gz b) (hg : rg N b) (hN : N + n ≤ 134217728) : rg (N + n) (wrA b d n).2.1 := by
  unfold wrA
  split
  · exact hg.up (by omega)
  · have hm := Nat.mul_div_le n (nC b)
    exact (rg_wrM (B := (b, fun _ => 0, fun _ => 0)) (d := d) hz hg (t := n / nC b) (by show N + nC b * (n / nC b) ≤ _; omega)).1.up (by show N + nC b * (n / nC b) ≤ _; omega)
theorem e_ofC {a b : zGc} (h : eqv a b) {w : Int32} : ofC a w = ofC b w := by unfold ofC; rw [h.1 1 (by omega)]
theorem st_copy {N : Nat} {F F2 : zF} {M M2 : zM} {r1 r2 : Option Value} (h : RR N F M) (hN : N ≤ 98000000) {p q i j n : Int32} (hx : (xpo F (kCopy F p q i j n) 1 (fun F2 => F2 = sE F q.toNatClampNeg (va_cpy (F.2.2.1 p.toNatClampNeg) (F.2.2.1 q.toNatClampNeg) i.toNatClampNeg j.toNatClampNeg n.toNatClampNeg))) r1 F2) (hm : (mpo M (kCopyM M p q i j n) 1 (fun M2 => M2 = mCpy M p.toNatClampNeg q.toNatClampNeg i.toNatClampNeg j.toNatClampNeg n.toNatClampNeg)) r2 M2) : r1 = r2 ∧ RR (N) F2 M2 := by
  have ge := h.2.1
  have hz := h.z
  have hg := h.2.2.1
  have hk : kCopyM M p q i j n = kCopy F p q i j n := by
    unfold kCopyM kCopy
    by_cases a : inR p 8 = false
    · rw [if_pos a, if_pos a]
    rw [if_neg a, if_neg a]
    by_cases b : inR q 8 = false
    · rw [if_pos b, if_pos b]
    rw [if_neg b, if_neg b]
    obtain ⟨jp, hjp, ejp⟩ := inR_of (n := 8) (show inR p 8 = true by simpa using a) (by omega)
    obtain ⟨jq, hjq, ejq⟩ := inR_of (n := 8) (show inR q 8 = true by simpa using b) (by omega)
    rw [ejp, ejq, nI_clamp (by omega), nI_clamp (by omega)]
    rcases h.cs hjp with ⟨e, -, b2, b3⟩ | ⟨e, b2, b3, -⟩ | ⟨e, b2, b3, b4, b5, b6⟩
    · rcases h.cs hjq with ⟨f, -, c2, c3⟩ | ⟨f, c2, c3, -⟩ | ⟨f, c2, c3, c4, c5, c6⟩
      · simp [e, f, b2, b3, c2, c3]
      · simp [e, f, b2, b3, c2, c3]
      · simp [e, f, b2, b3, c2, c3]
    · simp [e, b2]
    · rcases h.cs hjq with ⟨f, -, c2, c3⟩ | ⟨f, c2, c3, -⟩ | ⟨f, c2, c3, c4, c5, c6⟩
      · simp [e, f, b2, b3, c2, c3]
      · simp [e, f, b2, b3, c2, c3]
      · obtain ⟨lp, hlp, elp⟩ := h.2.2.2.2.2.1 jp hjp
        obtain ⟨lq, hlq, elq⟩ := h.2.2.2.2.2.1 jq hjq
        rw [e, f, b2, b3, c2, c3, b5, c5, elp, elq, b4, c4]
        simp only [h100]
        by_cases so : M.2.2.1 22 jp = M.2.2.1 22 jq
        · rw [if_neg (show ¬ ((1 : Int32) = 2 ∨ (1 : Int32) = 2 ∨ True ∧ True ∧ ¬ M.2.2.1 22 jp = M.2.2.1 22 jq) by simp [so]), if_neg (show ¬ ((1 : Int32) = 0 ∨ (1 : Int32) = 0) by decide), if_neg (show ¬ (false = true) by decide), if_neg (show ¬ (false = true) by decide), if_neg (show ¬ (True ∧ True ∧ ¬ M.2.2.1 22 jp = M.2.2.1 22 jq) by simp [so]), if_neg (show ¬ (true = false) by decide), if_neg (show ¬ (true = false) by decide)]
          by_cases n0 : n < 0
          · rw [if_pos n0, if_pos n0]
          · rw [if_neg n0, if_neg n0]
            by_cases x1 : hPart i n (nI lp) = false
            · rw [if_pos x1]
              have := (hPart_f hlp n0).mp x1
              exact if_pos (by rcases this with z | z; exact Or.inl z; exact Or.inr (Or.inr (Or.inl z)))
            · rw [if_neg x1]
              have y1 := fun z => x1 ((hPart_f hlp n0).mpr z)
              by_cases x2 : hPart j n (nI lq) = false
              · rw [if_pos x2]
                have := (hPart_f hlq n0).mp x2
                exact if_pos (by rcases this with z | z; exact Or.inr (Or.inl z); exact Or.inr (Or.inr (Or.inr z)))
              · rw [if_neg x2]
                have y2 := fun z => x2 ((hPart_f hlq n0).mpr z)
                exact if_neg (by rintro (z | z | z | z); exact y1 (Or.inl z); exact y2 (Or.inl z); exact y1 (Or.inr z); exact y2 (Or.inr z))
        · rw [if_pos (show ((1 : Int32) = 2 ∨ (1 : Int32) = 2 ∨ True ∧ True ∧ ¬ M.2.2.1 22 jp = M.2.2.1 22 jq) by simp [so]), if_neg (show ¬ (false = true) by decide), if_neg (show ¬ (false = true) by decide), if_pos (show (True ∧ True ∧ ¬ M.2.2.1 22 jp = M.2.2.1 22 jq) by simp [so])]
  have hok : okK (kCopy F p q i j n) := by
    unfold kCopy
    repeat' split
    all_goals first | exact Or.inl rfl | exact Or.inr (by decide)
  refine h.po (Nat.le_refl _) hk hok hx hm (fun _ => rfl) (fun h0 e1 e2 => ?_)
  obtain ⟨q1, h0⟩ := if0 h0 (by decide)
  obtain ⟨q2, h0⟩ := if0 h0 (by decide)
  obtain ⟨q3, h0⟩ := ifp0 h0 (by decide)
  obtain ⟨q4, h0⟩ := ifp0 h0 (by decide)
  obtain ⟨-, h0⟩ := ifp0 h0 (by decide)
  obtain ⟨q5, h0⟩ := if0 h0 (by decide)
  obtain ⟨q6, h0⟩ := if0 h0 (by decide)
  obtain ⟨n0, h0⟩ := ifp0 h0 (by decide)
  obtain ⟨q7, h0⟩ := if0 h0 (by decide)
  obtain ⟨q8, -⟩ := if0 h0 (by decide)
  obtain ⟨jp, hjp, ejp⟩ := inR_of (n := 8) q1 (by omega)
  obtain ⟨jq, hjq, ejq⟩ := inR_of (n := 8) q2 (by omega)
  have e1 : F2 = _ := e1
  have e2 : M2 = _ := e2
  rw [ejp, nI_clamp (by omega)] at q5 q7
  rw [ejq, nI_clamp (by omega)] at q6 q8
  rw [e1, e2, ejp, ejq, nI_clamp (by omega), nI_clamp (by omega)]
  rcases h.cs hjp with ⟨e, -, b2, b3⟩ | ⟨e, b2, b3, -⟩ | ⟨e, b2, b3, b4, b5, b6⟩
  · rw [b3] at q5; exact absurd q5 (by decide)
  · rw [b3] at q5; exact absurd q5 (by decide)
  rcases h.cs hjq with ⟨f, -, c2, c3⟩ | ⟨f, c2, c3, -⟩ | ⟨f, c2, c3, c4, c5, c6⟩
  · rw [c3] at q6; exact absurd q6 (by decide)
  · rw [c3] at q6; exact absurd q6 (by decide)
  obtain ⟨lp, hlp, elp⟩ := h.2.2.2.2.2.1 jp hjp
  obtain ⟨lq, hlq, elq⟩ := h.2.2.2.2.2.1 jq hjq
  rw [b5, elp] at q7
  rw [c5, elq] at q8
  obtain ⟨a, b, g1, g2, g3⟩ := hPart_of hlp n0 q7
  obtain ⟨a2, b2, g4, g5, g6⟩ := hPart_of hlq n0 q8
  have hbb : b2 = b := by
    have := congrArg Int32.toInt (g5.symm.trans g2)
    rw [nI_toInt (by omega), nI_toInt (by omega)] at this
    omega
  subst hbb
  rw [g1, g4, g2, nI_clamp (by omega), nI_clamp (by omega), nI_clamp (by omega)]
  exact copy_R h hjp hjq hlp hlq g3 g6 f c4 c5 c6 b6
theorem st_judge {N : Nat} {F F2 : zF} {M M2 : zM} {r1 r2 : Option Value} (h : RR N F M) (hN : N ≤ 98000000) {s n : Int32} (hx : (xpo F (kJudge (tTr F s n)) (oI (wrA (F.1 0).1 (dD F s.toNatClampNeg) n.toNatClampNeg).1) (thO F)) r1 F2) (hm : (mpo M (kJudge (tTrM M s n)) (oI (wrA M.1 (dM M s.toNatClampNeg) n.toNatClampNeg).1) (mSm M)) r2 M2) : r1 = r2 ∧ RR (N) F2 M2 := by
  have ge := h.2.1
  have hz := h.z
  have hg := h.2.2.1
  rw [h.tt] at hx
  have hok : okK (kJudge (tTrM M s n)) := by
    unfold kJudge
    rcases tTrM_cs M s n with e | e | e | e | e | e <;> rw [e]
    · exact Or.inl rfl
    all_goals exact Or.inr (by decide)
  refine h.po (Nat.le_refl _) rfl hok hx hm (fun h0 => ?_) (fun h0 e1 e2 => h.th e1 e2)
  have h0 : tTrM M s n = 0 := by
    refine Decidable.byContradiction (fun z => ?_)
    unfold kJudge at h0
    rw [if_neg z] at h0
    rcases tTrM_cs M s n with e | e | e | e | e | e
    · exact z e
    all_goals (rw [e] at h0; exact absurd h0 (by decide))
  obtain ⟨j, nn, len, hj, ej, en, hnl, hl, hd⟩ := h.t0 h0
  rw [ej, en, (e_wrA ge hz hd).1]
theorem st_told {N : Nat} {F F2 : zF} {M M2 : zM} {r1 r2 : Option Value} (h : RR N F M) (hN : N ≤ 98000000) {s n w : Int32} (hx : (xpt F (kTold (F.1 0).1 (tTr F s n) w (wrA (F.1 0).1 (dD F s.toNatClampNeg) n.toNatClampNeg).1) (aTold (F.1 0).1 (wrA (F.1 0).1 (dD F s.toNatClampNeg) n.toNatClampNeg).2.1 w) (thO F)) r1 F2) (hm : (mpt M (kTold M.1 (tTrM M s n) w (wrA M.1 (dM M s.toNatClampNeg) n.toNatClampNeg).1) (aTold M.1 (wrA M.1 (dM M s.toNatClampNeg) n.toNatClampNeg).2.1 w) (mSm M)) r2 M2) : r1 = r2 ∧ RR (N) F2 M2 := by
  have ge := h.2.1
  have hz := h.z
  have hg := h.2.2.1
  rw [h.tt] at hx
  have hw1 : tTrM M s n = 0 → (wrA (F.1 0).1 (dD F s.toNatClampNeg) n.toNatClampNeg).1 = (wrA M.1 (dM M s.toNatClampNeg) n.toNatClampNeg).1 ∧ eqv (wrA (F.1 0).1 (dD F s.toNatClampNeg) n.toNatClampNeg).2.1 (wrA M.1 (dM M s.toNatClampNeg) n.toNatClampNeg).2.1 ∧ sk M.1 (wrA M.1 (dM M s.toNatClampNeg) n.toNatClampNeg).2.1 := by
    intro h0
    obtain ⟨j, nn, len, hj, ej, en, hnl, hl, hd⟩ := h.t0 h0
    rw [ej, en]
    exact e_wrA ge hz hd
  have hk : kTold M.1 (tTrM M s n) w (wrA M.1 (dM M s.toNatClampNeg) n.toNatClampNeg).1 = kTold (F.1 0).1 (tTrM M s n) w (wrA (F.1 0).1 (dD F s.toNatClampNeg) n.toNatClampNeg).1 := by
    unfold kTold
    by_cases z : tTrM M s n = 0
    · rw [(hw1 z).1, e_ofC ge]
    · rw [if_pos z, if_pos z]
  have hok : okK (kTold (F.1 0).1 (tTrM M s n) w (wrA (F.1 0).1 (dD F s.toNatClampNeg) n.toNatClampNeg).1) := by
    unfold kTold
    repeat' split
    all_goals first | exact Or.inl rfl | exact Or.inr (by decide) | exact okT
  refine h.pt (Nat.le_refl _) hk hok hx hm (fun h0 => ?_) (fun h0 e1 e2 => h.th e1 e2)
  obtain ⟨z, -⟩ := ifp0' h0
  obtain ⟨-, e2, e3⟩ := hw1 z
  unfold aTold
  rw [e_ofC ge, e2.1 6 (by omega), e2.1 3 (by omega), ge.1 6 (by omega)]
  by_cases o : ofC M.1 w = true
  · rw [if_pos o, if_pos o]
    unfold ofC at o
    rw [hz.2.1] at o
    rw [Bool.and_eq_true] at o
    obtain ⟨oa, ob⟩ := o
    have o2 : w - 10 < nI (nC M.1) := of_decide_eq_true ob
    have o1 : ¬ w < 10 := by
      intro z
      rw [decide_eq_true z] at oa
      exact absurd oa (by decide)
    have hc6 := hz.2.2
    obtain ⟨c, hc, ec⟩ := inR_of (x := w - 10) (n := nC M.1) (inR_t (by
      have e10 : (10 : Int32).toInt = 10 := rfl
      have e0 : (0 : Int32).toInt = 0 := rfl
      have hwr := i_ran w
      rw [i_lt, e10] at o1
      rw [i_lt, e0, i_sub (by rw [e10]; omega) (by rw [e10]; omega), e10]
      omega) o2) (by omega)
    rw [ec, nI_clamp (by omega)]
    exact e2.2.2 c (by rw [e3.C]; exact hc) 4 (by omega)
  · rw [if_neg o, if_neg o]
theorem st_done {N : Nat} {F F2 : zF} {M M2 : zM} {r1 r2 : Option Value} (h : RR N F M) (hN : N ≤ 98000000) {s n : Int32} (hx : (xpt F (kDone (tTr F s n) (wrA (F.1 0).1 (dD F s.toNatClampNeg) n.toNatClampNeg).1) ((wrA (F.1 0).1 (dD F s.toNatClampNeg) n.toNatClampNeg).2.1.1 2) (fun F2 => ∃ X G, F2 = sG (sG F 1 X) 0 (G, (F.1 0).2) ∧ eqv G (wrA (F.1 0).1 (dD F s.toNatClampNeg) n.toNatClampNeg).2.1)) r1 F2) (hm : (mpt M (kDone (tTrM M s n) (wrA M.1 (dM M s.toNatClampNeg) n.toNatClampNeg).1) ((wrA M.1 (dM M s.toNatClampNeg) n.toNatClampNeg).2.1.1 2) (fun M2 => M2.1 = (wrA M.1 (dM M s.toNatClampNeg) n.toNatClampNeg).2.1 ∧ mRs M M2)) r2 M2) : r1 = r2 ∧ RR (N + 160) F2 M2 := by
  have ge := h.2.1
  have hz := h.z
  have hg := h.2.2.1
  rw [h.tt] at hx
  have hw1 : tTrM M s n = 0 → (wrA (F.1 0).1 (dD F s.toNatClampNeg) n.toNatClampNeg).1 = (wrA M.1 (dM M s.toNatClampNeg) n.toNatClampNeg).1 ∧ eqv (wrA (F.1 0).1 (dD F s.toNatClampNeg) n.toNatClampNeg).2.1 (wrA M.1 (dM M s.toNatClampNeg) n.toNatClampNeg).2.1 ∧ sk M.1 (wrA M.1 (dM M s.toNatClampNeg) n.toNatClampNeg).2.1 ∧ rg (N + 160) (wrA M.1 (dM M s.toNatClampNeg) n.toNatClampNeg).2.1 := by
    intro h0
    obtain ⟨j, nn, len, hj, ej, en, hnl, hl, hd⟩ := h.t0 h0
    rw [ej, en]
    obtain ⟨a1, a2, a3⟩ := e_wrA ge hz hd
    exact ⟨a1, a2, a3, (rg_wrA hz hg (by omega)).up (by omega)⟩
  have hk : kDone (tTrM M s n) (wrA M.1 (dM M s.toNatClampNeg) n.toNatClampNeg).1 = kDone (tTrM M s n) (wrA (F.1 0).1 (dD F s.toNatClampNeg) n.toNatClampNeg).1 := by
    unfold kDone
    by_cases z : tTrM M s n = 0
    · rw [(hw1 z).1]
    · rw [if_pos z, if_pos z]
  have hok : okK (kDone (tTrM M s n) (wrA (F.1 0).1 (dD F s.toNatClampNeg) n.toNatClampNeg).1) := by
    unfold kDone
    repeat' split
    all_goals first | exact Or.inl rfl | exact Or.inr (by decide) | exact okT
  refine h.pt (by omega) hk hok hx hm (fun h0 => ?_) (fun h0 e1 e2 => ?_)
  · exact (hw1 (ifp0' h0).1).2.1.1 2 (by omega)
  · obtain ⟨-, a2, a3, a4⟩ := hw1 (ifp0' h0).1
    obtain ⟨X, G, e3, e4⟩ := e1
    obtain ⟨m1, m2⟩ := e2
    rw [e3]
    refine (h.thx (F2 := sG F 1 X) ⟨X, rfl⟩).gd m2 ?_ ?_ ?_ ?_ (by omega)
    · rw [m1]; exact e4.tr a2
    · rw [m1]; exact a3.z hz
    · rw [m1]; exact a4
    · rw [m1, a3.S]; exact Nat.le_refl _
